def f_MD_thrown (σ : Sg)  : Option (Int32) :=
  some (σ 0 0)
def f_MD_goes (σ : Sg) (x1 : Int32) (x2 : Int32) (x3 : Int32) : Option (Int32 × Sg) :=
  if x1 = 0 then (lt1 (st σ 0 0 1) fun σ1 => if (σ1 0 0) = 0 then (some (1, σ1)) else (some (0, σ1))) else (if x2 = 0 then (lt1 (st σ 0 0 2) fun σ2 => if (σ2 0 0) = 0 then (some (1, σ2)) else (some (0, σ2))) else (if x3 = 0 then (lt1 (st σ 0 0 3) fun σ3 => if (σ3 0 0) = 0 then (some (1, σ3)) else (some (0, σ3))) else (lt1 (st σ 0 0 0) fun σ4 => if (σ4 0 0) = 0 then (some (1, σ4)) else (some (0, σ4)))))
def f_MD_within (σ : Sg) (x0 : Int32) (x1 : Int32) (x2 : Int32) : Option (Int32) :=
  if x0 < x1 then (some 0) else (if x2 < x0 then (some 0) else (some 1))
def f_MD_isPlace (σ : Sg) (x1 : Int32) : Option (Int32) :=
  if x1 < 0 then (some 0) else (if (σ 0 2) ≤ x1 then (some 0) else (some 1))
def f_MD_isObject (σ : Sg) (x1 : Int32) : Option (Int32) :=
  if x1 < 0 then (some 0) else (if (σ 0 3) ≤ x1 then (some 0) else (some 1))
def f_MD_isPerson (σ : Sg) (x0 : Int32) : Option (Int32) :=
  if x0 < 0 then (some 0) else (if 10 ≤ x0 then (some 0) else (some 1))
def C_MD_place_40  (x1 : Int32) (x2 : Int32) (s0 : Int32) (s1 : Int32) (s2 : Int32) (σ : Sg) : Option (Int32 × Sg) :=
  (f_MD_goes σ s2 s1 s0).bind fun r3 => if r3.1 = 0 then (some (0, r3.2)) else (gd (inB (r3.2 0 2) 24) <| lt1 (st r3.2 1 (Int32.toNatClampNeg (r3.2 0 2)) x1) fun σ4 => gd (inB (σ4 0 2) 24) <| lt1 (st σ4 2 (Int32.toNatClampNeg (σ4 0 2)) x2) fun σ5 => lt1 (st σ5 0 2 ((σ5 0 2) + 1)) fun σ6 => some ((σ6 0 2) - 1, σ6))
def f_MD_place (σ : Sg) (x1 : Int32) (x2 : Int32) : Option (Int32 × Sg) :=
  if x1 = ((-1)) then ((f_MD_within σ x2 1 1000000000).bind fun r8 => if 24 ≤ (σ 0 2) then (C_MD_place_40 x1 x2 0 r8 1 σ) else (C_MD_place_40 x1 x2 1 r8 1 σ)) else ((f_MD_isPlace σ x1).bind fun r1 => if r1 = 0 then ((f_MD_within σ x2 1 1000000000).bind fun r7 => if 24 ≤ (σ 0 2) then (C_MD_place_40 x1 x2 0 r7 0 σ) else (C_MD_place_40 x1 x2 1 r7 0 σ)) else ((f_MD_within σ x2 1 1000000000).bind fun r2 => if 24 ≤ (σ 0 2) then (C_MD_place_40 x1 x2 0 r2 1 σ) else (C_MD_place_40 x1 x2 1 r2 1 σ)))
def f_MD_isSize (σ : Sg) (x0 : Int32) : Option (Int32) :=
  if x0 < 1 then (some 0) else (if 10000 < x0 then (some 0) else (some 1))
def C_MD_object_51  (x1 : Int32) (x2 : Int32) (x3 : Int32) (x4 : Int32) (s0 : Int32) (σ : Sg) : Option (Int32 × Sg) :=
  lt1 (st σ 0 0 s0) fun σ5 => if (σ5 0 0) = 0 then (gd (inB (3 * (σ5 0 3)) 60) <| lt1 (st σ5 3 (Int32.toNatClampNeg (3 * (σ5 0 3))) x1) fun σ6 => gd (inB ((3 * (σ6 0 3)) + 1) 60) <| lt1 (st σ6 3 (Int32.toNatClampNeg ((3 * (σ6 0 3)) + 1)) x2) fun σ7 => gd (inB ((3 * (σ7 0 3)) + 2) 60) <| lt1 (st σ7 3 (Int32.toNatClampNeg ((3 * (σ7 0 3)) + 2)) x3) fun σ8 => gd (inB (σ8 0 3) 20) <| lt1 (st σ8 4 (Int32.toNatClampNeg (σ8 0 3)) x4) fun σ9 => lt1 (st σ9 0 3 ((σ9 0 3) + 1)) fun σ10 => some ((σ10 0 3) - 1, σ10)) else (some (0, σ5))
def f_MD_object (σ : Sg) (x1 : Int32) (x2 : Int32) (x3 : Int32) (x4 : Int32) : Option (Int32 × Sg) :=
  (f_MD_isSize σ x1).bind fun r1 => if r1 = 0 then (C_MD_object_51 x1 x2 x3 x4 1 σ) else ((f_MD_isSize σ x2).bind fun r2 => if r2 = 0 then (C_MD_object_51 x1 x2 x3 x4 1 σ) else ((f_MD_isSize σ x3).bind fun r3 => if r3 = 0 then (C_MD_object_51 x1 x2 x3 x4 1 σ) else ((f_MD_within σ x4 1 1000000).bind fun r4 => if r4 = 0 then (C_MD_object_51 x1 x2 x3 x4 1 σ) else (if (σ 0 3) = 20 then (C_MD_object_51 x1 x2 x3 x4 2 σ) else (C_MD_object_51 x1 x2 x3 x4 0 σ)))))
def f_MD_keys (σ : Sg) (x1 : Int32) (x2 : Int32) : Option (Int32 × Sg) :=
  (f_MD_isObject σ x1).bind fun r1 => (f_MD_within σ x2 0 2).bind fun r2 => (f_MD_goes σ r1 r2 1).bind fun r3 => if r3.1 = 0 then (some (0, r3.2)) else (gd (inB x1 20) <| lt1 (r3.2 5 (Int32.toNatClampNeg x1)) fun y4 => gd (inB x1 20) <| lt1 (st r3.2 5 (Int32.toNatClampNeg x1) x2) fun σ5 => some (y4, σ5))
def f_MD_key (σ : Sg) (x1 : Int32) (x2 : Int32) : Option (Int32 × Sg) :=
  (f_MD_isPerson σ x1).bind fun r1 => (f_MD_goes σ r1 1 1).bind fun r2 => if r2.1 = 0 then (some (0, r2.2)) else (gd (inB x1 10) <| if (r2.2 7 (Int32.toNatClampNeg x1)) = x2 then (gd (inB x1 10) <| lt1 (st r2.2 7 (Int32.toNatClampNeg x1) (vp_nar .boolean x2)) fun σ4 => some (0, σ4)) else (gd (inB x1 10) <| lt1 (st r2.2 7 (Int32.toNatClampNeg x1) (vp_nar .boolean x2)) fun σ3 => some (1, σ3)))
def f_MD_box (σ : Sg) (x1 : Int32) : Option (Int32 × Sg) :=
  (f_MD_isObject σ x1).bind fun r1 => (f_MD_goes σ r1 1 1).bind fun r2 => if r2.1 = 0 then (some (0, r2.2)) else (gd (inB x1 20) <| lt1 (r2.2 6 (Int32.toNatClampNeg x1)) fun y3 => gd (inB x1 20) <| lt1 (st r2.2 6 (Int32.toNatClampNeg x1) (vp_nar .boolean 1)) fun σ4 => if y3 = 0 then (some (1, σ4)) else (some (0, σ4)))
def B_MD_rowAt_8 (σ : Sg)  (k8 : Int32 → Int32 → Int32 → Int32 → Option (Int32)) (x1 : Int32) (x2 : Int32) (x3 : Int32) (x4 : Int32) : Option (Int32) :=
  gd (inB x1 20) <| if ((40 * x1) + (σ 8 (Int32.toNatClampNeg x1))) ≤ x4 then (some x3) else (gd (inB x4 800) <| if x2 < (σ 9 (Int32.toNatClampNeg x4)) then (k8 x1 x2 x3 (x4 + 1)) else (k8 x1 x2 x4 (x4 + 1)))
def L_MD_rowAt_8 (σ : Sg)  : Nat → Int32 → Int32 → Int32 → Int32 → Option (Int32) := itr (B_MD_rowAt_8 σ) (fun _ _ _ _ => none)
def f_MD_rowAt (σ : Sg) (x1 : Int32) (x2 : Int32) : Option (Int32) :=
  L_MD_rowAt_8 σ fuel x1 x2 ((-1)) (40 * x1)
def B_MD_at_5 (σ : Sg)  (k5 : Int32 → Int32 → Int32 → Option (Int32)) (x2 : Int32) (x3 : Int32) (x4 : Int32) : Option (Int32) :=
  if 20 < x4 then (some ((-1))) else (if x3 = (σ 0 7) then (some (σ 0 8)) else ((f_MD_rowAt σ x3 x2).bind fun r1 => if r1 = ((-1)) then (some ((-1))) else (gd (inB r1 800) <| if (σ 10 (Int32.toNatClampNeg r1)) = 2 then (some ((-1))) else (gd (inB r1 800) <| if (σ 10 (Int32.toNatClampNeg r1)) = 0 then (gd (inB r1 800) <| some (σ 11 (Int32.toNatClampNeg r1))) else (gd (inB r1 800) <| lt1 (σ 11 (Int32.toNatClampNeg r1)) fun y2 => k5 x2 y2 (x4 + 1))))))
def L_MD_at_5 (σ : Sg)  : Nat → Int32 → Int32 → Int32 → Option (Int32) := itr (B_MD_at_5 σ) (fun _ _ _ => none)
def f_MD_at (σ : Sg) (x1 : Int32) (x2 : Int32) : Option (Int32) :=
  L_MD_at_5 σ fuel x2 x1 0
def B_MD_lies_2 (σ : Sg)  (k2 : Int32 → Int32 → Option (Int32)) (x2 : Int32) (x3 : Int32) : Option (Int32) :=
  if x3 = ((-1)) then (if x3 = x2 then (if x2 = ((-1)) then (some 0) else (some 1)) else (some 0)) else (if x3 = x2 then (if x3 = x2 then (if x2 = ((-1)) then (some 0) else (some 1)) else (some 0)) else (gd (inB x3 24) <| lt1 (σ 1 (Int32.toNatClampNeg x3)) fun y1 => k2 x2 y1))
def L_MD_lies_2 (σ : Sg)  : Nat → Int32 → Int32 → Option (Int32) := itr (B_MD_lies_2 σ) (fun _ _ => none)
def f_MD_lies (σ : Sg) (x1 : Int32) (x2 : Int32) : Option (Int32) :=
  L_MD_lies_2 σ fuel x2 x1
def B_MD_isPlanned_3 (σ : Sg)  (k3 : Int32 → Int32 → Int32 → Int32 → Option (Int32)) (x1 : Int32) (x2 : Int32) (x3 : Int32) (x4 : Int32) : Option (Int32) :=
  if (σ 0 5) ≤ x4 then (some 0) else (gd (inB x4 30) <| if (σ 17 (Int32.toNatClampNeg x4)) = x1 then (gd (inB x4 30) <| gd (inB x4 30) <| (f_MD_within σ x3 (σ 19 (Int32.toNatClampNeg x4)) (σ 20 (Int32.toNatClampNeg x4))).bind fun r1 => if r1 = 0 then (k3 x1 x2 x3 (x4 + 1)) else (gd (inB x4 30) <| (f_MD_lies σ (σ 18 (Int32.toNatClampNeg x4)) x2).bind fun r2 => if r2 = 0 then (k3 x1 x2 x3 (x4 + 1)) else (some 1))) else (k3 x1 x2 x3 (x4 + 1)))
def L_MD_isPlanned_3 (σ : Sg)  : Nat → Int32 → Int32 → Int32 → Int32 → Option (Int32) := itr (B_MD_isPlanned_3 σ) (fun _ _ _ _ => none)
def f_MD_isPlanned (σ : Sg) (x1 : Int32) (x2 : Int32) (x3 : Int32) : Option (Int32) :=
  L_MD_isPlanned_3 σ fuel x1 x2 x3 0
def B_MD_weight_5 (σ : Sg)  (k5 : Int32 → Int32 → Int32 → Int32 → Option (Int32)) (x1 : Int32) (x2 : Int32) (x3 : Int32) (x4 : Int32) : Option (Int32) :=
  if (σ 0 3) ≤ x4 then (some x3) else ((f_MD_at σ x4 x2).bind fun r1 => (f_MD_lies σ r1 x1).bind fun r2 => if r2 = 0 then ((f_MD_isPlanned σ x4 x1 x2).bind fun r3 => if r3 = 0 then (k5 x1 x2 x3 (x4 + 1)) else (gd (inB x4 20) <| lt1 (x3 + (σ 4 (Int32.toNatClampNeg x4))) fun y4 => k5 x1 x2 y4 (x4 + 1))) else (gd (inB x4 20) <| lt1 (x3 + (σ 4 (Int32.toNatClampNeg x4))) fun y5 => k5 x1 x2 y5 (x4 + 1)))
def L_MD_weight_5 (σ : Sg)  : Nat → Int32 → Int32 → Int32 → Int32 → Option (Int32) := itr (B_MD_weight_5 σ) (fun _ _ _ _ => none)
def f_MD_weight (σ : Sg) (x1 : Int32) (x2 : Int32) : Option (Int32) :=
  L_MD_weight_5 σ fuel x1 x2 0 0
def B_MD_bears_5 (σ : Sg)  (k5 : Int32 → Int32 → Int32 → Option (Int32)) (x2 : Int32) (x3 : Int32) (x4 : Int32) : Option (Int32) :=
  if x4 = ((-1)) then (gd (isB x3) <| some x3) else (if x3 = 0 then (gd (inB x4 24) <| lt1 (σ 1 (Int32.toNatClampNeg x4)) fun y4 => k5 x2 0 y4) else ((f_MD_weight σ x4 x2).bind fun r1 => gd (inB x4 24) <| if (σ 2 (Int32.toNatClampNeg x4)) < r1 then (gd (inB x4 24) <| lt1 (σ 1 (Int32.toNatClampNeg x4)) fun y3 => k5 x2 0 y3) else (gd (inB x4 24) <| lt1 (σ 1 (Int32.toNatClampNeg x4)) fun y2 => k5 x2 1 y2)))
def L_MD_bears_5 (σ : Sg)  : Nat → Int32 → Int32 → Int32 → Option (Int32) := itr (B_MD_bears_5 σ) (fun _ _ _ => none)
def f_MD_bears (σ : Sg) (x1 : Int32) (x2 : Int32) : Option (Int32) :=
  L_MD_bears_5 σ fuel x2 1 x1
def B_MD_mayCome_21  (k21 : Int32 → Int32 → Int32 → Int32 → Sg → Option (Int32 × Sg)) (x2 : Int32) (x3 : Int32) (x4 : Int32) (x5 : Int32) (σ : Sg) : Option (Int32 × Sg) :=
  if (σ 0 5) ≤ x5 then (lt1 (st σ 0 7 ((-1))) fun σ5 => gd (isB x4) <| some (x4, σ5)) else (if x4 = 0 then (k21 x2 x3 0 (x5 + 1) σ) else (gd (inB x5 30) <| if (σ 19 (Int32.toNatClampNeg x5)) ≤ x3 then (k21 x2 x3 1 (x5 + 1) σ) else (gd (inB x5 30) <| (f_MD_bears σ x2 (σ 19 (Int32.toNatClampNeg x5))).bind fun r4 => if r4 = 0 then (k21 x2 x3 0 (x5 + 1) σ) else (k21 x2 x3 1 (x5 + 1) σ))))
def L_MD_mayCome_21  : Nat → Int32 → Int32 → Int32 → Int32 → Sg → Option (Int32 × Sg) := itr (B_MD_mayCome_21) (fun _ _ _ _ _ => none)
def f_MD_mayCome (σ : Sg) (x1 : Int32) (x2 : Int32) (x3 : Int32) : Option (Int32 × Sg) :=
  lt1 (st σ 0 7 x1) fun σ1 => lt1 (st σ1 0 8 x2) fun σ2 => (f_MD_bears σ2 x2 x3).bind fun r3 => L_MD_mayCome_21 fuel x2 x3 r3 0 σ2
def B_MD_barred_3 (σ : Sg)  (k3 : Int32 → Int32 → Int32 → Int32 → Option (Int32)) (x1 : Int32) (x2 : Int32) (x3 : Int32) (x4 : Int32) : Option (Int32) :=
  if (σ 0 6) ≤ x4 then (some 0) else (gd (inB x4 20) <| gd (inB x4 20) <| (f_MD_within σ x3 (σ 22 (Int32.toNatClampNeg x4)) (σ 23 (Int32.toNatClampNeg x4))).bind fun r1 => if r1 = 0 then (k3 x1 x2 x3 (x4 + 1)) else (gd (inB x4 20) <| (f_MD_lies σ x1 (σ 21 (Int32.toNatClampNeg x4))).bind fun r2 => gd (inB x4 20) <| (f_MD_lies σ x2 (σ 21 (Int32.toNatClampNeg x4))).bind fun r3 => if r2 = r3 then (k3 x1 x2 x3 (x4 + 1)) else (some 1)))
def L_MD_barred_3 (σ : Sg)  : Nat → Int32 → Int32 → Int32 → Int32 → Option (Int32) := itr (B_MD_barred_3 σ) (fun _ _ _ _ => none)
def f_MD_barred (σ : Sg) (x1 : Int32) (x2 : Int32) (x3 : Int32) : Option (Int32) :=
  L_MD_barred_3 σ fuel x1 x2 x3 0
def f_MD_row (σ : Sg) (x1 : Int32) (x2 : Int32) (x3 : Int32) (x4 : Int32) : Option (Sg) :=
  gd (inB x1 20) <| lt1 ((40 * x1) + (σ 8 (Int32.toNatClampNeg x1))) fun y1 => gd (inB y1 800) <| lt1 (st σ 9 (Int32.toNatClampNeg y1) x2) fun σ2 => gd (inB y1 800) <| lt1 (st σ2 10 (Int32.toNatClampNeg y1) x3) fun σ3 => gd (inB y1 800) <| lt1 (st σ3 11 (Int32.toNatClampNeg y1) x4) fun σ4 => gd (inB x1 20) <| gd (inB x1 20) <| lt1 (st σ4 8 (Int32.toNatClampNeg x1) ((σ4 8 (Int32.toNatClampNeg x1)) + 1)) fun σ5 => lt1 (st σ5 0 1 x2) fun σ6 => some σ6
def C_MD_mayOpen_28 (σ : Sg)  (x1 : Int32) (x2 : Int32) (x3 : Int32) : Option (Int32) :=
  gd (inB x1 20) <| if (σ 5 (Int32.toNatClampNeg x1)) = 2 then (gd (inB x2 10) <| if (σ 7 (Int32.toNatClampNeg x2)) = 0 then (some 0) else (gd (inB x3 10) <| if (σ 7 (Int32.toNatClampNeg x3)) = 0 then (some 0) else (if x2 = x3 then (some 0) else (some 1)))) else (some 0)
def f_MD_mayOpen (σ : Sg) (x1 : Int32) (x2 : Int32) (x3 : Int32) : Option (Int32) :=
  gd (inB x1 20) <| if (σ 5 (Int32.toNatClampNeg x1)) = 0 then (some 1) else (gd (inB x1 20) <| if (σ 5 (Int32.toNatClampNeg x1)) = 1 then (gd (inB x2 10) <| if (σ 7 (Int32.toNatClampNeg x2)) = 0 then (C_MD_mayOpen_28 σ x1 x2 x3) else (some 1)) else (C_MD_mayOpen_28 σ x1 x2 x3))
def C_MD_move_85  (x1 : Int32) (x2 : Int32) (x3 : Int32) (s0 : Int32) (s1 : Int32) (s2 : Int32) (σ : Sg) : Option (Int32 × Sg) :=
  (f_MD_goes σ s2 s1 s0).bind fun r7 => if r7.1 = 0 then (some (0, r7.2)) else ((f_MD_at r7.2 x1 x3).bind fun r8 => (f_MD_barred r7.2 r8 x2 x3).bind fun r9 => if r9 = 0 then ((f_MD_mayCome r7.2 x1 x2 x3).bind fun r10 => if r10.1 = 0 then (some (2, r10.2)) else ((f_MD_row r10.2 x1 x3 0 x2).bind fun r11 => some (0, r11))) else (some (1, r7.2)))
def C_MD_move_37  (x1 : Int32) (x2 : Int32) (x3 : Int32) (x4 : Int32) (x5 : Int32) (s0 : Int32) (σ : Sg) : Option (Int32 × Sg) :=
  (f_MD_within σ x3 (σ 0 1) 1000000).bind fun r5 => if s0 = 0 then (C_MD_move_85 x1 x2 x3 0 r5 s0 σ) else (gd (inB x1 20) <| if 40 ≤ (σ 8 (Int32.toNatClampNeg x1)) then (C_MD_move_85 x1 x2 x3 0 r5 s0 σ) else ((f_MD_mayOpen σ x1 x4 x5).bind fun r6 => if r6 = 0 then (C_MD_move_85 x1 x2 x3 0 r5 s0 σ) else (C_MD_move_85 x1 x2 x3 1 r5 s0 σ)))
def f_MD_move (σ : Sg) (x1 : Int32) (x2 : Int32) (x3 : Int32) (x4 : Int32) (x5 : Int32) : Option (Int32 × Sg) :=
  (f_MD_isObject σ x1).bind fun r1 => if r1 = 0 then (C_MD_move_37 x1 x2 x3 x4 x5 0 σ) else ((f_MD_isPlace σ x2).bind fun r2 => if r2 = 0 then (C_MD_move_37 x1 x2 x3 x4 x5 0 σ) else ((f_MD_isPerson σ x4).bind fun r3 => if r3 = 0 then (C_MD_move_37 x1 x2 x3 x4 x5 0 σ) else ((f_MD_isPerson σ x5).bind fun r4 => if r4 = 0 then (C_MD_move_37 x1 x2 x3 x4 x5 0 σ) else (C_MD_move_37 x1 x2 x3 x4 x5 1 σ))))
def B_MD_holds_6 (σ : Sg)  (k6 : Int32 → Int32 → Int32 → Int32 → Option (Int32)) (x1 : Int32) (x3 : Int32) (x4 : Int32) (x5 : Int32) : Option (Int32) :=
  if 20 < x5 then (if x4 = x1 then (some 1) else (some 0)) else (if x4 = x1 then (if x4 = x1 then (some 1) else (some 0)) else ((f_MD_rowAt σ x4 x3).bind fun r1 => if r1 = ((-1)) then (some 0) else (gd (inB r1 800) <| if (σ 10 (Int32.toNatClampNeg r1)) = 1 then (gd (inB r1 800) <| lt1 (σ 11 (Int32.toNatClampNeg r1)) fun y2 => k6 x1 x3 y2 (x5 + 1)) else (some 0))))
def L_MD_holds_6 (σ : Sg)  : Nat → Int32 → Int32 → Int32 → Int32 → Option (Int32) := itr (B_MD_holds_6 σ) (fun _ _ _ _ => none)
def f_MD_holds (σ : Sg) (x1 : Int32) (x2 : Int32) (x3 : Int32) : Option (Int32) :=
  L_MD_holds_6 σ fuel x1 x3 x2 0
def C_MD_size_91 (σ : Sg)  (x2 : Int32) (x3 : Int32) (x4 : Int32) (x5 : Int32) (x6 : Int32) (s0 : Int32) : Option (Int32) :=
  if x2 = 0 then (some x6) else (if x2 = 2 then (some s0) else (some ((((x3 + x4) + x5) - x6) - s0)))
def C_MD_size_61 (σ : Sg)  (x2 : Int32) (x3 : Int32) (x4 : Int32) (x5 : Int32) (s0 : Int32) : Option (Int32) :=
  if x3 ≤ x4 then (if x4 ≤ x5 then (C_MD_size_91 σ x2 x3 x4 x5 s0 x5) else (C_MD_size_91 σ x2 x3 x4 x5 s0 x4)) else (if x3 ≤ x5 then (C_MD_size_91 σ x2 x3 x4 x5 s0 x5) else (C_MD_size_91 σ x2 x3 x4 x5 s0 x3))
def f_MD_size (σ : Sg) (x1 : Int32) (x2 : Int32) : Option (Int32) :=
  gd (inB (3 * x1) 60) <| lt1 (σ 3 (Int32.toNatClampNeg (3 * x1))) fun y1 => gd (inB ((3 * x1) + 1) 60) <| lt1 (σ 3 (Int32.toNatClampNeg ((3 * x1) + 1))) fun y2 => gd (inB ((3 * x1) + 2) 60) <| lt1 (σ 3 (Int32.toNatClampNeg ((3 * x1) + 2))) fun y3 => if y2 ≤ y1 then (if y3 ≤ y2 then (C_MD_size_61 σ x2 y1 y2 y3 y3) else (C_MD_size_61 σ x2 y1 y2 y3 y2)) else (if y3 ≤ y1 then (C_MD_size_61 σ x2 y1 y2 y3 y3) else (C_MD_size_61 σ x2 y1 y2 y3 y1))
def f_MD_fits (σ : Sg) (x1 : Int32) (x2 : Int32) : Option (Int32) :=
  (f_MD_size σ x1 0).bind fun r1 => (f_MD_size σ x2 0).bind fun r2 => if r2 ≤ r1 then (some 0) else ((f_MD_size σ x1 1).bind fun r3 => (f_MD_size σ x2 1).bind fun r4 => if r4 ≤ r3 then (some 0) else ((f_MD_size σ x1 2).bind fun r5 => (f_MD_size σ x2 2).bind fun r6 => if r6 ≤ r5 then (some 0) else (some 1)))
def C_MD_into_92  (x1 : Int32) (x2 : Int32) (x3 : Int32) (σ : Sg) : Option (Int32 × Sg) :=
  if ((1 : Int32)) = 0 then ((f_MD_row σ x1 x3 1 x2).bind fun r7 => some (1, r7)) else (some (1, σ))
def C_MD_into_57  (x1 : Int32) (x2 : Int32) (x3 : Int32) (s0 : Int32) (s1 : Int32) (s2 : Int32) (σ : Sg) : Option (Int32 × Sg) :=
  (f_MD_goes σ s2 s1 s0).bind fun r4 => if r4.1 = 0 then (some (0, r4.2)) else ((f_MD_at r4.2 x2 x3).bind fun r5 => gd (inB x2 20) <| if (r4.2 6 (Int32.toNatClampNeg x2)) = 0 then (C_MD_into_92 x1 x2 x3 r4.2) else ((f_MD_holds r4.2 x1 x2 x3).bind fun r6 => if r6 = 0 then ((f_MD_fits r4.2 x1 x2).bind fun r8 => if r8 = 0 then (if ((2 : Int32)) = 0 then ((f_MD_row r4.2 x1 x3 1 x2).bind fun r9 => some (2, r9)) else (some (2, r4.2))) else (gd (inB x1 20) <| if (r4.2 5 (Int32.toNatClampNeg x1)) ≤ 0 then ((f_MD_at r4.2 x1 x3).bind fun r11 => (f_MD_barred r4.2 r11 r5 x3).bind fun r12 => if r12 = 0 then (if r5 = ((-1)) then (if ((0 : Int32)) = 0 then ((f_MD_row r4.2 x1 x3 1 x2).bind fun r17 => some (0, r17)) else (some (0, r4.2))) else ((f_MD_mayCome r4.2 x1 r5 x3).bind fun r14 => if r14.1 = 0 then (if ((5 : Int32)) = 0 then ((f_MD_row r14.2 x1 x3 1 x2).bind fun r15 => some (5, r15)) else (some (5, r14.2))) else (if ((0 : Int32)) = 0 then ((f_MD_row r14.2 x1 x3 1 x2).bind fun r16 => some (0, r16)) else (some (0, r14.2))))) else (if ((4 : Int32)) = 0 then ((f_MD_row r4.2 x1 x3 1 x2).bind fun r13 => some (4, r13)) else (some (4, r4.2)))) else (if ((3 : Int32)) = 0 then ((f_MD_row r4.2 x1 x3 1 x2).bind fun r10 => some (3, r10)) else (some (3, r4.2))))) else (C_MD_into_92 x1 x2 x3 r4.2)))
def C_MD_into_21  (x1 : Int32) (x2 : Int32) (x3 : Int32) (s0 : Int32) (σ : Sg) : Option (Int32 × Sg) :=
  (f_MD_within σ x3 (σ 0 1) 1000000).bind fun r3 => if s0 = 0 then (C_MD_into_57 x1 x2 x3 0 r3 s0 σ) else (gd (inB x1 20) <| if 40 ≤ (σ 8 (Int32.toNatClampNeg x1)) then (C_MD_into_57 x1 x2 x3 0 r3 s0 σ) else (C_MD_into_57 x1 x2 x3 1 r3 s0 σ))
def f_MD_into (σ : Sg) (x1 : Int32) (x2 : Int32) (x3 : Int32) : Option (Int32 × Sg) :=
  (f_MD_isObject σ x1).bind fun r1 => if r1 = 0 then (C_MD_into_21 x1 x2 x3 0 σ) else ((f_MD_isObject σ x2).bind fun r2 => if r2 = 0 then (C_MD_into_21 x1 x2 x3 0 σ) else (C_MD_into_21 x1 x2 x3 1 σ))
def C_MD_lost_38  (x1 : Int32) (x2 : Int32) (s0 : Int32) (s1 : Int32) (s2 : Int32) (σ : Sg) : Option (Int32 × Sg) :=
  (f_MD_goes σ s2 s1 s0).bind fun r3 => if r3.1 = 0 then (some (0, r3.2)) else ((f_MD_rowAt r3.2 x1 x2).bind fun r4 => if r4 = ((-1)) then (if ((0 : Int32)) = 0 then (some (0, r3.2)) else ((f_MD_row r3.2 x1 x2 2 ((-1))).bind fun r7 => some (0, r7))) else (gd (inB r4 800) <| if (r3.2 10 (Int32.toNatClampNeg r4)) = 0 then (if ((1 : Int32)) = 0 then (some (1, r3.2)) else ((f_MD_row r3.2 x1 x2 2 ((-1))).bind fun r5 => some (1, r5))) else (if ((0 : Int32)) = 0 then (some (0, r3.2)) else ((f_MD_row r3.2 x1 x2 2 ((-1))).bind fun r6 => some (0, r6)))))
def f_MD_lost (σ : Sg) (x1 : Int32) (x2 : Int32) : Option (Int32 × Sg) :=
  (f_MD_isObject σ x1).bind fun r1 => (f_MD_within σ x2 (σ 0 1) 1000000).bind fun r2 => if r1 = 0 then (C_MD_lost_38 x1 x2 0 r2 r1 σ) else (gd (inB x1 20) <| if 40 ≤ (σ 8 (Int32.toNatClampNeg x1)) then (C_MD_lost_38 x1 x2 0 r2 r1 σ) else (C_MD_lost_38 x1 x2 1 r2 r1 σ))
def f_MD_where (σ : Sg) (x1 : Int32) (x2 : Int32) : Option (Int32 × Sg) :=
  (f_MD_isObject σ x1).bind fun r1 => (f_MD_goes σ r1 1 1).bind fun r2 => if r2.1 = 0 then (some (0, r2.2)) else ((f_MD_at r2.2 x1 x2).bind fun r3 => some (r3, r2.2))
def C_MD_last_85 (k28 : Int32 → Int32 → Int32 → Sg → Option (Int32 × Sg)) (k43 : Int32 → Int32 → Int32 → Int32 → Sg → Option (Int32 × Sg)) (x1 : Int32) (x2 : Int32) (x4 : Int32) (x5 : Int32) (s0 : Int32) (σ : Sg) : Option (Int32 × Sg) :=
  if s0 = 0 then (k43 x1 x2 x4 (x5 + 1) σ) else (gd (inB x5 800) <| if (σ 9 (Int32.toNatClampNeg x5)) ≤ x4 then (k43 x1 x2 x4 (x5 + 1) σ) else (gd (inB x5 800) <| lt1 (σ 9 (Int32.toNatClampNeg x5)) fun y4 => k43 x1 x2 y4 (x5 + 1) σ))
def B_MD_last_43 (k28 : Int32 → Int32 → Int32 → Sg → Option (Int32 × Sg)) (k43 : Int32 → Int32 → Int32 → Int32 → Sg → Option (Int32 × Sg)) (x1 : Int32) (x2 : Int32) (x4 : Int32) (x5 : Int32) (σ : Sg) : Option (Int32 × Sg) :=
  if 800 ≤ x5 then (if (x4 - 1) < 0 then (k28 x1 (x4 - 1) ((-1)) σ) else ((f_MD_at σ x1 (x4 - 1)).bind fun r5 => k28 x1 (x4 - 1) r5 σ)) else (gd (inB (x5 / 40) 20) <| if (σ 8 (Int32.toNatClampNeg (x5 / 40))) ≤ (x5 - x5 / 40 * 40) then (C_MD_last_85 k28 k43 x1 x2 x4 x5 0 σ) else (gd (inB x5 800) <| if x2 < (σ 9 (Int32.toNatClampNeg x5)) then (C_MD_last_85 k28 k43 x1 x2 x4 x5 0 σ) else (C_MD_last_85 k28 k43 x1 x2 x4 x5 1 σ)))
def L_MD_last_43 (k28 : Int32 → Int32 → Int32 → Sg → Option (Int32 × Sg)) : Nat → Int32 → Int32 → Int32 → Int32 → Sg → Option (Int32 × Sg) := itr (B_MD_last_43 k28) (fun _ _ _ _ _ => none)
def B_MD_last_28  (k28 : Int32 → Int32 → Int32 → Sg → Option (Int32 × Sg)) (x1 : Int32) (x2 : Int32) (x3 : Int32) (σ : Sg) : Option (Int32 × Sg) :=
  if x3 = ((-1)) then (if x2 < 0 then (some (x3, σ)) else (L_MD_last_43 k28 fuel x1 x2 ((-1)) 0 σ)) else (some (x3, σ))
def L_MD_last_28  : Nat → Int32 → Int32 → Int32 → Sg → Option (Int32 × Sg) := itr (B_MD_last_28) (fun _ _ _ _ => none)
def f_MD_last (σ : Sg) (x1 : Int32) : Option (Int32 × Sg) :=
  (f_MD_isObject σ x1).bind fun r1 => (f_MD_goes σ r1 1 1).bind fun r2 => if r2.1 = 0 then (some (0, r2.2)) else ((f_MD_at r2.2 x1 (r2.2 0 1)).bind fun r3 => L_MD_last_28 fuel x1 (r2.2 0 1) r3 r2.2)
def C_MD_history_28  (x1 : Int32) (x2 : Int32) (x3 : Int32) (s0 : Int32) (σ : Sg) : Option (Int32 × Sg) :=
  (f_MD_within σ x3 0 2).bind fun r2 => (f_MD_goes σ s0 r2 1).bind fun r3 => if r3.1 = 0 then (some (0, r3.2)) else (lt1 ((40 * x1) + x2) fun y4 => if x3 = 0 then (gd (inB y4 800) <| some (r3.2 9 (Int32.toNatClampNeg y4), r3.2)) else (if x3 = 1 then (gd (inB y4 800) <| some (r3.2 10 (Int32.toNatClampNeg y4), r3.2)) else (gd (inB y4 800) <| some (r3.2 11 (Int32.toNatClampNeg y4), r3.2))))
def f_MD_history (σ : Sg) (x1 : Int32) (x2 : Int32) (x3 : Int32) : Option (Int32 × Sg) :=
  (f_MD_isObject σ x1).bind fun r1 => if r1 = 0 then (C_MD_history_28 x1 x2 x3 0 σ) else (if x2 < 0 then (C_MD_history_28 x1 x2 x3 0 σ) else (gd (inB x1 20) <| if (σ 8 (Int32.toNatClampNeg x1)) ≤ x2 then (C_MD_history_28 x1 x2 x3 0 σ) else (C_MD_history_28 x1 x2 x3 1 σ)))
def C_MD_door_61  (x1 : Int32) (x2 : Int32) (x3 : Int32) (x4 : Int32) (s0 : Int32) (s1 : Int32) (s2 : Int32) (σ : Sg) : Option (Int32 × Sg) :=
  (f_MD_goes σ s2 s1 s0).bind fun r5 => if r5.1 = 0 then (some (0, r5.2)) else (gd (inB (r5.2 0 4) 40) <| lt1 (st r5.2 12 (Int32.toNatClampNeg (r5.2 0 4)) x1) fun σ6 => gd (inB (σ6 0 4) 40) <| lt1 (st σ6 13 (Int32.toNatClampNeg (σ6 0 4)) x2) fun σ7 => gd (inB (σ7 0 4) 40) <| lt1 (st σ7 14 (Int32.toNatClampNeg (σ7 0 4)) x3) fun σ8 => gd (inB (σ8 0 4) 40) <| lt1 (st σ8 15 (Int32.toNatClampNeg (σ8 0 4)) x4) fun σ9 => lt1 (st σ9 0 4 ((σ9 0 4) + 1)) fun σ10 => some ((σ10 0 4) - 1, σ10))
def C_MD_door_22  (x1 : Int32) (x2 : Int32) (x3 : Int32) (x4 : Int32) (s0 : Int32) (σ : Sg) : Option (Int32 × Sg) :=
  if x1 = x2 then (if 40 ≤ (σ 0 4) then (C_MD_door_61 x1 x2 x3 x4 0 0 s0 σ) else (C_MD_door_61 x1 x2 x3 x4 1 0 s0 σ)) else ((f_MD_isSize σ x3).bind fun r3 => if r3 = 0 then (if 40 ≤ (σ 0 4) then (C_MD_door_61 x1 x2 x3 x4 0 0 s0 σ) else (C_MD_door_61 x1 x2 x3 x4 1 0 s0 σ)) else ((f_MD_isSize σ x4).bind fun r4 => if r4 = 0 then (if 40 ≤ (σ 0 4) then (C_MD_door_61 x1 x2 x3 x4 0 0 s0 σ) else (C_MD_door_61 x1 x2 x3 x4 1 0 s0 σ)) else (if 40 ≤ (σ 0 4) then (C_MD_door_61 x1 x2 x3 x4 0 1 s0 σ) else (C_MD_door_61 x1 x2 x3 x4 1 1 s0 σ))))
def f_MD_door (σ : Sg) (x1 : Int32) (x2 : Int32) (x3 : Int32) (x4 : Int32) : Option (Int32 × Sg) :=
  (f_MD_isPlace σ x1).bind fun r1 => if r1 = 0 then (C_MD_door_22 x1 x2 x3 x4 0 σ) else ((f_MD_isPlace σ x2).bind fun r2 => if r2 = 0 then (C_MD_door_22 x1 x2 x3 x4 0 σ) else (C_MD_door_22 x1 x2 x3 x4 1 σ))
def C_MD_face_138 (σ : Sg)  (x8 : Int64) (x10 : Int64) (x12 : Int64) (x14 : Int64) (s0 : Int32) : Option (Int32) :=
  if 0 < (lg_cmp x10 x14) then (some 0) else (if (lg_cmp x8 x12) ≤ 0 then (some 1) else (if s0 = 0 then (some 0) else (some 1)))
def C_MD_face_58 (σ : Sg)  (x8 : Int64) (x10 : Int64) (x12 : Int64) (s0 : Int64) : Option (Int32) :=
  lt1 ((x8 * x8) - (x10 * x10)) fun y1 => if (lg_cmp (((((x12 + s0) * (x12 + s0)) * (x8 - x10)) * (x8 - x10)) + ((((x12 - s0) * (x12 - s0)) * (x8 + x10)) * (x8 + x10))) ((2 * y1) * y1)) < 0 then (C_MD_face_138 σ x8 x10 x12 s0 0) else (C_MD_face_138 σ x8 x10 x12 s0 1)
def C_MD_face_24 (σ : Sg)  (x4 : Int64) (x6 : Int64) (x8 : Int64) (s0 : Int64) : Option (Int32) :=
  if (lg_cmp x4 x6) ≤ 0 then (if (lg_cmp x4 x6) ≤ 0 then (C_MD_face_58 σ x8 s0 x6 x4) else (C_MD_face_58 σ x8 s0 x6 x6)) else (if (lg_cmp x4 x6) ≤ 0 then (C_MD_face_58 σ x8 s0 x4 x4) else (C_MD_face_58 σ x8 s0 x4 x6))
def f_MD_face (σ : Sg) (x0 : Int64) (x2 : Int64) (x4 : Int64) (x6 : Int64) : Option (Int32) :=
  if (lg_cmp x0 x2) ≤ 0 then (if (lg_cmp x0 x2) ≤ 0 then (C_MD_face_24 σ x4 x6 x2 x0) else (C_MD_face_24 σ x4 x6 x2 x2)) else (if (lg_cmp x0 x2) ≤ 0 then (C_MD_face_24 σ x4 x6 x0 x0) else (C_MD_face_24 σ x4 x6 x0 x2))
def f_MD_through (σ : Sg) (x1 : Int32) (x2 : Int32) : Option (Int32) :=
  gd (inB (3 * x1) 60) <| lt1 (σ 3 (Int32.toNatClampNeg (3 * x1))) fun y1 => gd (inB ((3 * x1) + 1) 60) <| lt1 (σ 3 (Int32.toNatClampNeg ((3 * x1) + 1))) fun y2 => gd (inB ((3 * x1) + 2) 60) <| lt1 (σ 3 (Int32.toNatClampNeg ((3 * x1) + 2))) fun y3 => gd (inB x2 40) <| gd (inB x2 40) <| (f_MD_face σ (Int32.toInt64 y1) (Int32.toInt64 y2) (Int32.toInt64 (σ 14 (Int32.toNatClampNeg x2))) (Int32.toInt64 (σ 15 (Int32.toNatClampNeg x2)))).bind fun r4 => if r4 = 0 then (gd (inB x2 40) <| gd (inB x2 40) <| (f_MD_face σ (Int32.toInt64 y1) (Int32.toInt64 y3) (Int32.toInt64 (σ 14 (Int32.toNatClampNeg x2))) (Int32.toInt64 (σ 15 (Int32.toNatClampNeg x2)))).bind fun r5 => if r5 = 0 then (gd (inB x2 40) <| gd (inB x2 40) <| (f_MD_face σ (Int32.toInt64 y2) (Int32.toInt64 y3) (Int32.toInt64 (σ 14 (Int32.toNatClampNeg x2))) (Int32.toInt64 (σ 15 (Int32.toNatClampNeg x2)))).bind fun r6 => if r6 = 0 then (some 0) else (some 1)) else (some 1)) else (some 1)
def C_MD_passes_26  (x1 : Int32) (x2 : Int32) (s0 : Int32) (σ : Sg) : Option (Int32 × Sg) :=
  (f_MD_goes σ s0 1 1).bind fun r2 => if r2.1 = 0 then (some (0, r2.2)) else ((f_MD_through r2.2 x1 x2).bind fun r3 => if r3 = 0 then (some (0, r2.2)) else (some (1, r2.2)))
def f_MD_passes (σ : Sg) (x1 : Int32) (x2 : Int32) : Option (Int32 × Sg) :=
  (f_MD_isObject σ x1).bind fun r1 => if r1 = 0 then (C_MD_passes_26 x1 x2 0 σ) else (if x2 < 0 then (C_MD_passes_26 x1 x2 0 σ) else (if (σ 0 4) ≤ x2 then (C_MD_passes_26 x1 x2 0 σ) else (C_MD_passes_26 x1 x2 1 σ)))
def C_MD_way_175 (k80 : Int32 → Int32 → Int32 → Int32 → Sg → Option (Int32 × Sg)) (k90 : Int32 → Int32 → Int32 → Int32 → Int32 → Sg → Option (Int32 × Sg)) (x1 : Int32) (x2 : Int32) (x3 : Int32) (x4 : Int32) (x5 : Int32) (x6 : Int32) (x7 : Int32) (x8 : Int32) (s0 : Int32) (s1 : Int32) (σ : Sg) : Option (Int32 × Sg) :=
  gd (inB s1 24) <| lt1 (st σ 16 (Int32.toNatClampNeg s1) s0) fun σ10 => if x6 = 0 then (gd (inB x7 24) <| gd (inB x7 24) <| lt1 (st σ10 16 (Int32.toNatClampNeg x7) (σ10 16 (Int32.toNatClampNeg x7))) fun σ13 => k90 x1 x2 x3 x4 (x5 + 1) σ13) else (gd (inB x8 24) <| gd (inB x7 24) <| if (σ10 16 (Int32.toNatClampNeg x7)) ≤ ((σ10 16 (Int32.toNatClampNeg x8)) + 1) then (gd (inB x7 24) <| gd (inB x7 24) <| lt1 (st σ10 16 (Int32.toNatClampNeg x7) (σ10 16 (Int32.toNatClampNeg x7))) fun σ12 => k90 x1 x2 x3 x4 (x5 + 1) σ12) else (gd (inB x8 24) <| gd (inB x7 24) <| lt1 (st σ10 16 (Int32.toNatClampNeg x7) ((σ10 16 (Int32.toNatClampNeg x8)) + 1)) fun σ11 => k90 x1 x2 x3 x4 (x5 + 1) σ11))
def B_MD_way_90 (k80 : Int32 → Int32 → Int32 → Int32 → Sg → Option (Int32 × Sg)) (k90 : Int32 → Int32 → Int32 → Int32 → Int32 → Sg → Option (Int32 × Sg)) (x1 : Int32) (x2 : Int32) (x3 : Int32) (x4 : Int32) (x5 : Int32) (σ : Sg) : Option (Int32 × Sg) :=
  if (σ 0 4) ≤ x5 then (k80 x1 x2 x3 (x4 + 1) σ) else ((f_MD_through σ x1 x5).bind fun r7 => gd (inB x5 40) <| lt1 (σ 12 (Int32.toNatClampNeg x5)) fun y8 => gd (inB x5 40) <| lt1 (σ 13 (Int32.toNatClampNeg x5)) fun y9 => if r7 = 0 then (gd (inB y9 24) <| C_MD_way_175 k80 k90 x1 x2 x3 x4 x5 r7 y8 y9 (σ 16 (Int32.toNatClampNeg y9)) y9 σ) else (gd (inB y8 24) <| gd (inB y9 24) <| if (σ 16 (Int32.toNatClampNeg y9)) ≤ ((σ 16 (Int32.toNatClampNeg y8)) + 1) then (gd (inB y9 24) <| C_MD_way_175 k80 k90 x1 x2 x3 x4 x5 r7 y8 y9 (σ 16 (Int32.toNatClampNeg y9)) y9 σ) else (gd (inB y8 24) <| C_MD_way_175 k80 k90 x1 x2 x3 x4 x5 r7 y8 y9 ((σ 16 (Int32.toNatClampNeg y8)) + 1) y9 σ)))
def L_MD_way_90 (k80 : Int32 → Int32 → Int32 → Int32 → Sg → Option (Int32 × Sg)) : Nat → Int32 → Int32 → Int32 → Int32 → Int32 → Sg → Option (Int32 × Sg) := itr (B_MD_way_90 k80) (fun _ _ _ _ _ _ => none)
def B_MD_way_80  (k80 : Int32 → Int32 → Int32 → Int32 → Sg → Option (Int32 × Sg)) (x1 : Int32) (x2 : Int32) (x3 : Int32) (x4 : Int32) (σ : Sg) : Option (Int32 × Sg) :=
  if 24 ≤ x4 then (if x3 = ((-1)) then (some ((-1), σ)) else (gd (inB x2 24) <| if (σ 16 (Int32.toNatClampNeg x2)) ≤ 24 then (gd (inB x2 24) <| some (σ 16 (Int32.toNatClampNeg x2), σ)) else (some ((-1), σ)))) else (L_MD_way_90 k80 fuel x1 x2 x3 x4 0 σ)
def L_MD_way_80  : Nat → Int32 → Int32 → Int32 → Int32 → Sg → Option (Int32 × Sg) := itr (B_MD_way_80) (fun _ _ _ _ _ => none)
def B_MD_way_45  (k45 : Int32 → Int32 → Int32 → Int32 → Sg → Option (Int32 × Sg)) (x1 : Int32) (x2 : Int32) (x3 : Int32) (x4 : Int32) (σ : Sg) : Option (Int32 × Sg) :=
  if 24 ≤ x4 then (L_MD_way_80 fuel x1 x2 x3 0 σ) else (if x4 = x3 then (gd (inB x4 24) <| lt1 (st σ 16 (Int32.toNatClampNeg x4) 0) fun σ5 => k45 x1 x2 x3 (x4 + 1) σ5) else (gd (inB x4 24) <| lt1 (st σ 16 (Int32.toNatClampNeg x4) 99) fun σ6 => k45 x1 x2 x3 (x4 + 1) σ6))
def L_MD_way_45  : Nat → Int32 → Int32 → Int32 → Int32 → Sg → Option (Int32 × Sg) := itr (B_MD_way_45) (fun _ _ _ _ _ => none)
def C_MD_way_21  (x1 : Int32) (x2 : Int32) (σ : Sg) : Option (Int32 × Sg) :=
  (f_MD_goes σ 0 1 1).bind fun r14 => if r14.1 = 0 then (some (0, r14.2)) else ((f_MD_at r14.2 x1 (r14.2 0 1)).bind fun r15 => L_MD_way_45 fuel x1 x2 r15 0 r14.2)
def f_MD_way (σ : Sg) (x1 : Int32) (x2 : Int32) : Option (Int32 × Sg) :=
  (f_MD_isObject σ x1).bind fun r1 => if r1 = 0 then (C_MD_way_21 x1 x2 σ) else ((f_MD_isPlace σ x2).bind fun r2 => if r2 = 0 then (C_MD_way_21 x1 x2 σ) else ((f_MD_goes σ 1 1 1).bind fun r3 => if r3.1 = 0 then (some (0, r3.2)) else ((f_MD_at r3.2 x1 (r3.2 0 1)).bind fun r4 => L_MD_way_45 fuel x1 x2 r4 0 r3.2)))
def B_MD_planned_132  (k132 : Int32 → Int32 → Int32 → Int32 → Int32 → Sg → Option (Int32 × Sg)) (x2 : Int32) (x3 : Int32) (x4 : Int32) (x5 : Int32) (x6 : Int32) (σ : Sg) : Option (Int32 × Sg) :=
  if ((σ 0 5) - 1) ≤ x6 then (if x5 = 0 then (lt1 (st σ 0 5 ((σ 0 5) - 1)) fun σ13 => if x5 = 0 then (some (1, σ13)) else (some (0, σ13))) else (lt1 (st σ 0 5 (σ 0 5)) fun σ12 => if x5 = 0 then (some (1, σ12)) else (some (0, σ12)))) else (if x5 = 0 then (k132 x2 x3 x4 0 (x6 + 1) σ) else (gd (inB x6 30) <| (f_MD_within σ (σ 19 (Int32.toNatClampNeg x6)) x3 x4).bind fun r10 => if r10 = 0 then (k132 x2 x3 x4 1 (x6 + 1) σ) else (gd (inB x6 30) <| (f_MD_bears σ x2 (σ 19 (Int32.toNatClampNeg x6))).bind fun r11 => if r11 = 0 then (k132 x2 x3 x4 0 (x6 + 1) σ) else (k132 x2 x3 x4 1 (x6 + 1) σ))))
def L_MD_planned_132  : Nat → Int32 → Int32 → Int32 → Int32 → Int32 → Sg → Option (Int32 × Sg) := itr (B_MD_planned_132) (fun _ _ _ _ _ _ => none)
def C_MD_planned_62  (x1 : Int32) (x2 : Int32) (x3 : Int32) (x4 : Int32) (s0 : Int32) (s1 : Int32) (s2 : Int32) (σ : Sg) : Option (Int32 × Sg) :=
  (f_MD_goes σ s2 s1 s0).bind fun r3 => if r3.1 = 0 then (some (0, r3.2)) else (gd (inB (r3.2 0 5) 30) <| lt1 (st r3.2 17 (Int32.toNatClampNeg (r3.2 0 5)) x1) fun σ4 => gd (inB (σ4 0 5) 30) <| lt1 (st σ4 18 (Int32.toNatClampNeg (σ4 0 5)) x2) fun σ5 => gd (inB (σ5 0 5) 30) <| lt1 (st σ5 19 (Int32.toNatClampNeg (σ5 0 5)) x3) fun σ6 => gd (inB (σ6 0 5) 30) <| lt1 (st σ6 20 (Int32.toNatClampNeg (σ6 0 5)) x4) fun σ7 => lt1 (st σ7 0 5 ((σ7 0 5) + 1)) fun σ8 => (f_MD_bears σ8 x2 x3).bind fun r9 => L_MD_planned_132 fuel x2 x3 x4 r9 0 σ8)
def C_MD_planned_22  (x1 : Int32) (x2 : Int32) (x3 : Int32) (x4 : Int32) (s0 : Int32) (σ : Sg) : Option (Int32 × Sg) :=
  if x3 < (σ 0 1) then (if 30 ≤ (σ 0 5) then (C_MD_planned_62 x1 x2 x3 x4 0 0 s0 σ) else (C_MD_planned_62 x1 x2 x3 x4 1 0 s0 σ)) else (if x4 < x3 then (if 30 ≤ (σ 0 5) then (C_MD_planned_62 x1 x2 x3 x4 0 0 s0 σ) else (C_MD_planned_62 x1 x2 x3 x4 1 0 s0 σ)) else (if 1000000 < x4 then (if 30 ≤ (σ 0 5) then (C_MD_planned_62 x1 x2 x3 x4 0 0 s0 σ) else (C_MD_planned_62 x1 x2 x3 x4 1 0 s0 σ)) else (if 30 ≤ (σ 0 5) then (C_MD_planned_62 x1 x2 x3 x4 0 1 s0 σ) else (C_MD_planned_62 x1 x2 x3 x4 1 1 s0 σ))))
def f_MD_planned (σ : Sg) (x1 : Int32) (x2 : Int32) (x3 : Int32) (x4 : Int32) : Option (Int32 × Sg) :=
  (f_MD_isObject σ x1).bind fun r1 => if r1 = 0 then (C_MD_planned_22 x1 x2 x3 x4 0 σ) else ((f_MD_isPlace σ x2).bind fun r2 => if r2 = 0 then (C_MD_planned_22 x1 x2 x3 x4 0 σ) else (C_MD_planned_22 x1 x2 x3 x4 1 σ))
def f_MD_used (σ : Sg) (x1 : Int32) (x2 : Int32) : Option (Int32 × Sg) :=
  (f_MD_isPlace σ x1).bind fun r1 => (f_MD_goes σ r1 1 1).bind fun r2 => if r2.1 = 0 then (some (0, r2.2)) else ((f_MD_weight r2.2 x1 x2).bind fun r3 => some (r3, r2.2))
def C_MD_quiet_34  (x1 : Int32) (x2 : Int32) (x3 : Int32) (s0 : Int32) (s1 : Int32) (s2 : Int32) (σ : Sg) : Option (Sg) :=
  (f_MD_goes σ s2 s1 s0).bind fun r2 => if r2.1 = 0 then (some r2.2) else (gd (inB (r2.2 0 6) 20) <| lt1 (st r2.2 21 (Int32.toNatClampNeg (r2.2 0 6)) x1) fun σ3 => gd (inB (σ3 0 6) 20) <| lt1 (st σ3 22 (Int32.toNatClampNeg (σ3 0 6)) x2) fun σ4 => gd (inB (σ4 0 6) 20) <| lt1 (st σ4 23 (Int32.toNatClampNeg (σ4 0 6)) x3) fun σ5 => lt1 (st σ5 0 6 ((σ5 0 6) + 1)) fun σ6 => some σ6)
def f_MD_quiet (σ : Sg) (x1 : Int32) (x2 : Int32) (x3 : Int32) : Option (Sg) :=
  (f_MD_isPlace σ x1).bind fun r1 => if x2 < 0 then (if 20 ≤ (σ 0 6) then (C_MD_quiet_34 x1 x2 x3 0 0 r1 σ) else (C_MD_quiet_34 x1 x2 x3 1 0 r1 σ)) else (if x3 < x2 then (if 20 ≤ (σ 0 6) then (C_MD_quiet_34 x1 x2 x3 0 0 r1 σ) else (C_MD_quiet_34 x1 x2 x3 1 0 r1 σ)) else (if 20 ≤ (σ 0 6) then (C_MD_quiet_34 x1 x2 x3 0 1 r1 σ) else (C_MD_quiet_34 x1 x2 x3 1 1 r1 σ)))
def B_MD_count_21  (k21 : Int32 → Int32 → Int32 → Sg → Option (Int32 × Sg)) (x1 : Int32) (x2 : Int32) (x3 : Int32) (σ : Sg) : Option (Int32 × Sg) :=
  if (σ 0 3) ≤ x3 then ((if x1 = 0 then (some (σ 0 2, σ)) else (if x1 = 1 then (some (σ 0 3, σ)) else (if x1 = 2 then (some (σ 0 4, σ)) else (if x1 = 3 then (some (σ 0 5, σ)) else (if x1 = 4 then (some (σ 0 1, σ)) else (some (x2, σ)))))))) else (gd (inB x3 20) <| lt1 (x2 + (σ 8 (Int32.toNatClampNeg x3))) fun y3 => k21 x1 y3 (x3 + 1) σ)
def L_MD_count_21  : Nat → Int32 → Int32 → Int32 → Sg → Option (Int32 × Sg) := itr (B_MD_count_21) (fun _ _ _ _ => none)
def f_MD_count (σ : Sg) (x1 : Int32) : Option (Int32 × Sg) :=
  (f_MD_within σ x1 0 5).bind fun r1 => (f_MD_goes σ r1 1 1).bind fun r2 => if r2.1 = 0 then (some (0, r2.2)) else (L_MD_count_21 fuel x1 0 0 r2.2)
