def h_place (σ : Sg) (y : Nat → Int64) (a1 : Int32) (a2 : Int32) : Option (Int32 × (Nat → Int64) × Sg) :=
  (f_PM_place σ a1 a2).bind fun r => if r.1 = 0 then (some (0, vp_updL y (Int32.toNatClampNeg 0) (Int32.toInt64 r.2.1), r.2.2)) else (if r.1 = 1 then some (1, y, r.2.2) else (if r.1 = 2 then some (2, y, r.2.2) else (if r.1 = 3 then some (3, y, r.2.2) else (none))))
def h_object (σ : Sg) (y : Nat → Int64) (a1 : Int32) (a2 : Int32) (a3 : Int32) (a4 : Int32) : Option (Int32 × (Nat → Int64) × Sg) :=
  (f_PM_object σ a1 a2 a3 a4).bind fun r => if r.1 = 0 then (some (0, vp_updL y (Int32.toNatClampNeg 0) (Int32.toInt64 r.2.1), r.2.2)) else (if r.1 = 2 then some (1, y, r.2.2) else (if r.1 = 3 then some (2, y, r.2.2) else (none)))
def h_keys (σ : Sg) (y : Nat → Int64) (a1 : Int32) (a2 : Int32) : Option (Int32 × (Nat → Int64) × Sg) :=
  (f_PM_keys σ a1 a2).bind fun r => if r.1 = 0 then (some (0, vp_updL y (Int32.toNatClampNeg 0) (Int32.toInt64 r.2.1), r.2.2)) else (if r.1 = 1 then some (1, y, r.2.2) else (if r.1 = 2 then some (2, y, r.2.2) else (none)))
def h_key (σ : Sg) (y : Nat → Int64) (a1 : Int32) (a2 : Int32) : Option (Int32 × (Nat → Int64) × Sg) :=
  (f_PM_key σ a1 a2).bind fun r => if r.1 = 0 then (if r.2.1 = 0 then some (0, vp_updL y (Int32.toNatClampNeg 0) 0, r.2.2) else some (0, vp_updL y (Int32.toNatClampNeg 0) 1, r.2.2)) else (if r.1 = 1 then some (1, y, r.2.2) else (none))
def h_box (σ : Sg) (y : Nat → Int64) (a1 : Int32) : Option (Int32 × (Nat → Int64) × Sg) :=
  (f_PM_box σ a1).bind fun r => if r.1 = 0 then (if r.2.1 = 0 then some (0, vp_updL y (Int32.toNatClampNeg 0) 0, r.2.2) else some (0, vp_updL y (Int32.toNatClampNeg 0) 1, r.2.2)) else (if r.1 = 1 then some (1, y, r.2.2) else (none))
def h_move (σ : Sg) (y : Nat → Int64) (a1 : Int32) (a2 : Int32) (a3 : Int32) (a4 : Int32) (a5 : Int32) : Option (Int32 × (Nat → Int64) × Sg) :=
  (f_PM_move σ a1 a2 a3 a4 a5).bind fun r => if r.1 = 0 then (some (0, vp_updL y (Int32.toNatClampNeg 0) (Int32.toInt64 r.2.1), r.2.2)) else (if r.1 = 1 then some (1, y, r.2.2) else (if r.1 = 2 then some (2, y, r.2.2) else (if r.1 = 3 then some (3, y, r.2.2) else (none))))
def h_into (σ : Sg) (y : Nat → Int64) (a1 : Int32) (a2 : Int32) (a3 : Int32) : Option (Int32 × (Nat → Int64) × Sg) :=
  (f_PM_into σ a1 a2 a3).bind fun r => if r.1 = 0 then (some (0, vp_updL y (Int32.toNatClampNeg 0) (Int32.toInt64 r.2.1), r.2.2)) else (if r.1 = 1 then some (1, y, r.2.2) else (if r.1 = 2 then some (2, y, r.2.2) else (if r.1 = 3 then some (3, y, r.2.2) else (none))))
def h_lost (σ : Sg) (y : Nat → Int64) (a1 : Int32) (a2 : Int32) : Option (Int32 × (Nat → Int64) × Sg) :=
  (f_PM_lost σ a1 a2).bind fun r => if r.1 = 0 then (if r.2.1 = 0 then some (0, vp_updL y (Int32.toNatClampNeg 0) 0, r.2.2) else some (0, vp_updL y (Int32.toNatClampNeg 0) 1, r.2.2)) else (if r.1 = 1 then some (1, y, r.2.2) else (if r.1 = 2 then some (2, y, r.2.2) else (if r.1 = 3 then some (3, y, r.2.2) else (none))))
def h_where (σ : Sg) (y : Nat → Int64) (a1 : Int32) (a2 : Int32) : Option (Int32 × (Nat → Int64) × Sg) :=
  (f_PM_where σ a1 a2).bind fun r => if r.1 = 0 then (some (0, vp_updL y (Int32.toNatClampNeg 0) (Int32.toInt64 r.2), σ)) else (if r.1 = 1 then some (1, y, σ) else (none))
def h_last (σ : Sg) (y : Nat → Int64) (a1 : Int32) : Option (Int32 × (Nat → Int64) × Sg) :=
  (f_PM_last σ a1).bind fun r => if r.1 = 0 then (some (0, vp_updL y (Int32.toNatClampNeg 0) (Int32.toInt64 r.2), σ)) else (if r.1 = 1 then some (1, y, σ) else (none))
def h_history (σ : Sg) (y : Nat → Int64) (a1 : Int32) (a2 : Int32) (a3 : Int32) : Option (Int32 × (Nat → Int64) × Sg) :=
  (f_PM_history σ a1 a2 a3).bind fun r => if r.1 = 0 then (some (0, vp_updL y (Int32.toNatClampNeg 0) (Int32.toInt64 r.2), σ)) else (if r.1 = 1 then some (1, y, σ) else (if r.1 = 2 then some (2, y, σ) else (none)))
def h_door (σ : Sg) (y : Nat → Int64) (a1 : Int32) (a2 : Int32) (a3 : Int32) (a4 : Int32) : Option (Int32 × (Nat → Int64) × Sg) :=
  (f_PM_door σ a1 a2 a3 a4).bind fun r => if r.1 = 0 then (some (0, vp_updL y (Int32.toNatClampNeg 0) (Int32.toInt64 r.2.1), r.2.2)) else (if r.1 = 1 then some (1, y, r.2.2) else (if r.1 = 2 then some (2, y, r.2.2) else (if r.1 = 3 then some (3, y, r.2.2) else (none))))
def h_passes (σ : Sg) (y : Nat → Int64) (a1 : Int32) (a2 : Int32) : Option (Int32 × (Nat → Int64) × Sg) :=
  (f_PM_passes σ a1 a2).bind fun r => if r.1 = 0 then (if r.2 = 0 then some (0, vp_updL y (Int32.toNatClampNeg 0) 0, σ) else some (0, vp_updL y (Int32.toNatClampNeg 0) 1, σ)) else (if r.1 = 1 then some (1, y, σ) else (none))
def h_way (σ : Sg) (y : Nat → Int64) (a1 : Int32) (a2 : Int32) : Option (Int32 × (Nat → Int64) × Sg) :=
  (f_PM_way σ a1 a2).bind fun r => if r.1 = 0 then (some (0, vp_updL y (Int32.toNatClampNeg 0) (Int32.toInt64 r.2), σ)) else (if r.1 = 1 then some (1, y, σ) else (none))
def h_planned (σ : Sg) (y : Nat → Int64) (a1 : Int32) (a2 : Int32) (a3 : Int32) (a4 : Int32) : Option (Int32 × (Nat → Int64) × Sg) :=
  (f_PM_planned σ a1 a2 a3 a4).bind fun r => if r.1 = 0 then (some (0, vp_updL y (Int32.toNatClampNeg 0) (Int32.toInt64 r.2.1), r.2.2)) else (if r.1 = 1 then some (1, y, r.2.2) else (if r.1 = 2 then some (2, y, r.2.2) else (if r.1 = 3 then some (3, y, r.2.2) else (none))))
def h_used (σ : Sg) (y : Nat → Int64) (a1 : Int32) (a2 : Int32) : Option (Int32 × (Nat → Int64) × Sg) :=
  (f_PM_used σ a1 a2).bind fun r => if r.1 = 0 then (some (0, vp_updL y (Int32.toNatClampNeg 0) (Int32.toInt64 r.2.1), r.2.2)) else (if r.1 = 1 then some (1, y, r.2.2) else (none))
def h_quiet (σ : Sg) (y : Nat → Int64) (a1 : Int32) (a2 : Int32) (a3 : Int32) : Option (Int32 × (Nat → Int64) × Sg) :=
  (f_PM_quiet σ a1 a2 a3).bind fun r => if r.1 = 0 then (some (0, y, r.2)) else (if r.1 = 1 then some (1, y, r.2) else (if r.1 = 2 then some (2, y, r.2) else (if r.1 = 3 then some (3, y, r.2) else (none))))
def h_count (σ : Sg) (y : Nat → Int64) (a1 : Int32) : Option (Int32 × (Nat → Int64) × Sg) :=
  (f_PM_count σ a1).bind fun r => if r.1 = 0 then (some (0, vp_updL y (Int32.toNatClampNeg 0) (Int32.toInt64 r.2), σ)) else (if r.1 = 2 then some (1, y, σ) else (none))
