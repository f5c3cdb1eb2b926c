def F_PM : u_T := fun k => match k with
  | 0 => ("PlaceMoves", "places", "LPlaceMoves$Places;", true)
  | 1 => ("PlaceMoves", "things", "LPlaceMoves$Things;", true)
  | 2 => ("PlaceMoves", "rows", "LPlaceMoves$Rows;", true)
  | 3 => ("PlaceMoves", "doors", "LPlaceMoves$Doors;", true)
  | 4 => ("PlaceMoves", "plans", "LPlaceMoves$Plans;", true)
  | 5 => ("PlaceMoves", "quietTimes", "LPlaceMoves$QuietTimes;", true)
  | 6 => ("PlaceMoves", "hasKey", "[Z", true)
  | 7 => ("PlaceMoves", "burdened", "[I", true)
  | _ => ("PlaceMoves", "present", "I", false)
def t_PM : Nat → FieldType := fun k => match k with
  | 0 => .object "PlaceMoves$Places"
  | 1 => .object "PlaceMoves$Things"
  | 2 => .object "PlaceMoves$Rows"
  | 3 => .object "PlaceMoves$Doors"
  | 4 => .object "PlaceMoves$Plans"
  | 5 => .object "PlaceMoves$QuietTimes"
  | 6 => .array .boolean
  | 7 => .array .int
  | _ => .int
theorem n_PM : ∀ a, a < 9 → ∀ b, b < 9 → a ≠ b → (F_PM a).2.1 ≠ (F_PM b).2.1 := by decide +kernel
theorem t_PM_ok : ∀ k, k < 9 → parseFieldDescriptor (F_PM k).2.2.1 = some (t_PM k) := by decide +kernel
theorem i_PM : ∀ w ∈ u_ws "PlaceMoves" F_PM 9, w ∈ WG := by
  intro w hw
  obtain ⟨k, hk, rfl⟩ := List.mem_map.mp hw
  have hk := List.mem_range.mp hk
  match k, hk with
  | 0, _ => exact w_185
  | 1, _ => exact w_187
  | 2, _ => exact w_189
  | 3, _ => exact w_191
  | 4, _ => exact w_193
  | 5, _ => exact w_195
  | 6, _ => exact w_197
  | 7, _ => exact w_199
  | 8, _ => exact w_201
  | k + 9, h => exact absurd h (by omega)
def F_Places : u_T := fun k => match k with
  | 0 => ("PlaceMoves$Places", "load", "[I", true)
  | 1 => ("PlaceMoves$Places", "around", "[I", true)
  | _ => ("PlaceMoves$Places", "size", "I", false)
def t_Places : Nat → FieldType := fun k => match k with
  | 0 => .array .int
  | 1 => .array .int
  | _ => .int
theorem n_Places : ∀ a, a < 3 → ∀ b, b < 3 → a ≠ b → (F_Places a).2.1 ≠ (F_Places b).2.1 := by decide +kernel
theorem t_Places_ok : ∀ k, k < 3 → parseFieldDescriptor (F_Places k).2.2.1 = some (t_Places k) := by decide +kernel
theorem i_Places : ∀ w ∈ u_ws "PlaceMoves$Places" F_Places 3, w ∈ WG := by
  intro w hw
  obtain ⟨k, hk, rfl⟩ := List.mem_map.mp hw
  have hk := List.mem_range.mp hk
  match k, hk with
  | 0, _ => exact w_35
  | 1, _ => exact w_37
  | 2, _ => exact w_39
  | k + 3, h => exact absurd h (by omega)
def F_Things : u_T := fun k => match k with
  | 0 => ("PlaceMoves$Things", "least", "[I", true)
  | 1 => ("PlaceMoves$Things", "middle", "[I", true)
  | 2 => ("PlaceMoves$Things", "greatest", "[I", true)
  | 3 => ("PlaceMoves$Things", "grams", "[I", true)
  | 4 => ("PlaceMoves$Things", "keysNeeded", "[I", true)
  | 5 => ("PlaceMoves$Things", "isBox", "[Z", true)
  | _ => ("PlaceMoves$Things", "size", "I", false)
def t_Things : Nat → FieldType := fun k => match k with
  | 0 => .array .int
  | 1 => .array .int
  | 2 => .array .int
  | 3 => .array .int
  | 4 => .array .int
  | 5 => .array .boolean
  | _ => .int
theorem n_Things : ∀ a, a < 7 → ∀ b, b < 7 → a ≠ b → (F_Things a).2.1 ≠ (F_Things b).2.1 := by decide +kernel
theorem t_Things_ok : ∀ k, k < 7 → parseFieldDescriptor (F_Things k).2.2.1 = some (t_Things k) := by decide +kernel
theorem i_Things : ∀ w ∈ u_ws "PlaceMoves$Things" F_Things 7, w ∈ WG := by
  intro w hw
  obtain ⟨k, hk, rfl⟩ := List.mem_map.mp hw
  have hk := List.mem_range.mp hk
  match k, hk with
  | 0, _ => exact w_63
  | 1, _ => exact w_65
  | 2, _ => exact w_67
  | 3, _ => exact w_69
  | 4, _ => exact w_71
  | 5, _ => exact w_73
  | 6, _ => exact w_75
  | k + 7, h => exact absurd h (by omega)
def F_Rows : u_T := fun k => match k with
  | 0 => ("PlaceMoves$Rows", "size", "[I", true)
  | 1 => ("PlaceMoves$Rows", "hour", "[I", true)
  | 2 => ("PlaceMoves$Rows", "kind", "[I", true)
  | 3 => ("PlaceMoves$Rows", "target", "[I", true)
  | _ => ("PlaceMoves$Rows", "total", "I", false)
def t_Rows : Nat → FieldType := fun k => match k with
  | 0 => .array .int
  | 1 => .array .int
  | 2 => .array .int
  | 3 => .array .int
  | _ => .int
theorem n_Rows : ∀ a, a < 5 → ∀ b, b < 5 → a ≠ b → (F_Rows a).2.1 ≠ (F_Rows b).2.1 := by decide +kernel
theorem t_Rows_ok : ∀ k, k < 5 → parseFieldDescriptor (F_Rows k).2.2.1 = some (t_Rows k) := by decide +kernel
theorem i_Rows : ∀ w ∈ u_ws "PlaceMoves$Rows" F_Rows 5, w ∈ WG := by
  intro w hw
  obtain ⟨k, hk, rfl⟩ := List.mem_map.mp hw
  have hk := List.mem_range.mp hk
  match k, hk with
  | 0, _ => exact w_95
  | 1, _ => exact w_97
  | 2, _ => exact w_99
  | 3, _ => exact w_101
  | 4, _ => exact w_103
  | k + 5, h => exact absurd h (by omega)
def F_Doors : u_T := fun k => match k with
  | 0 => ("PlaceMoves$Doors", "one", "[I", true)
  | 1 => ("PlaceMoves$Doors", "other", "[I", true)
  | 2 => ("PlaceMoves$Doors", "wide", "[I", true)
  | 3 => ("PlaceMoves$Doors", "narrow", "[I", true)
  | _ => ("PlaceMoves$Doors", "size", "I", false)
def t_Doors : Nat → FieldType := fun k => match k with
  | 0 => .array .int
  | 1 => .array .int
  | 2 => .array .int
  | 3 => .array .int
  | _ => .int
theorem n_Doors : ∀ a, a < 5 → ∀ b, b < 5 → a ≠ b → (F_Doors a).2.1 ≠ (F_Doors b).2.1 := by decide +kernel
theorem t_Doors_ok : ∀ k, k < 5 → parseFieldDescriptor (F_Doors k).2.2.1 = some (t_Doors k) := by decide +kernel
theorem i_Doors : ∀ w ∈ u_ws "PlaceMoves$Doors" F_Doors 5, w ∈ WG := by
  intro w hw
  obtain ⟨k, hk, rfl⟩ := List.mem_map.mp hw
  have hk := List.mem_range.mp hk
  match k, hk with
  | 0, _ => exact w_118
  | 1, _ => exact w_120
  | 2, _ => exact w_122
  | 3, _ => exact w_124
  | 4, _ => exact w_126
  | k + 5, h => exact absurd h (by omega)
def F_Plans : u_T := fun k => match k with
  | 0 => ("PlaceMoves$Plans", "object", "[I", true)
  | 1 => ("PlaceMoves$Plans", "place", "[I", true)
  | 2 => ("PlaceMoves$Plans", "from", "[I", true)
  | 3 => ("PlaceMoves$Plans", "to", "[I", true)
  | _ => ("PlaceMoves$Plans", "size", "I", false)
def t_Plans : Nat → FieldType := fun k => match k with
  | 0 => .array .int
  | 1 => .array .int
  | 2 => .array .int
  | 3 => .array .int
  | _ => .int
theorem n_Plans : ∀ a, a < 5 → ∀ b, b < 5 → a ≠ b → (F_Plans a).2.1 ≠ (F_Plans b).2.1 := by decide +kernel
theorem t_Plans_ok : ∀ k, k < 5 → parseFieldDescriptor (F_Plans k).2.2.1 = some (t_Plans k) := by decide +kernel
theorem i_Plans : ∀ w ∈ u_ws "PlaceMoves$Plans" F_Plans 5, w ∈ WG := by
  intro w hw
  obtain ⟨k, hk, rfl⟩ := List.mem_map.mp hw
  have hk := List.mem_range.mp hk
  match k, hk with
  | 0, _ => exact w_144
  | 1, _ => exact w_146
  | 2, _ => exact w_148
  | 3, _ => exact w_150
  | 4, _ => exact w_152
  | k + 5, h => exact absurd h (by omega)
def F_QuietTimes : u_T := fun k => match k with
  | 0 => ("PlaceMoves$QuietTimes", "place", "[I", true)
  | 1 => ("PlaceMoves$QuietTimes", "from", "[I", true)
  | 2 => ("PlaceMoves$QuietTimes", "to", "[I", true)
  | _ => ("PlaceMoves$QuietTimes", "size", "I", false)
def t_QuietTimes : Nat → FieldType := fun k => match k with
  | 0 => .array .int
  | 1 => .array .int
  | 2 => .array .int
  | _ => .int
theorem n_QuietTimes : ∀ a, a < 4 → ∀ b, b < 4 → a ≠ b → (F_QuietTimes a).2.1 ≠ (F_QuietTimes b).2.1 := by decide +kernel
theorem t_QuietTimes_ok : ∀ k, k < 4 → parseFieldDescriptor (F_QuietTimes k).2.2.1 = some (t_QuietTimes k) := by decide +kernel
theorem i_QuietTimes : ∀ w ∈ u_ws "PlaceMoves$QuietTimes" F_QuietTimes 4, w ∈ WG := by
  intro w hw
  obtain ⟨k, hk, rfl⟩ := List.mem_map.mp hw
  have hk := List.mem_range.mp hk
  match k, hk with
  | 0, _ => exact w_167
  | 1, _ => exact w_169
  | 2, _ => exact w_171
  | 3, _ => exact w_173
  | k + 4, h => exact absurd h (by omega)
def F_MD : u_T := fun k => match k with
  | 0 => ("PlaceMovesModel", "thrown", "I", false)
  | 1 => ("PlaceMovesModel", "present", "I", false)
  | 2 => ("PlaceMovesModel", "places", "I", false)
  | 3 => ("PlaceMovesModel", "insides", "[I", true)
  | 4 => ("PlaceMovesModel", "loads", "[I", true)
  | 5 => ("PlaceMovesModel", "objects", "I", false)
  | 6 => ("PlaceMovesModel", "sizes", "[I", true)
  | 7 => ("PlaceMovesModel", "grams", "[I", true)
  | 8 => ("PlaceMovesModel", "needed", "[I", true)
  | 9 => ("PlaceMovesModel", "boxes", "[Z", true)
  | 10 => ("PlaceMovesModel", "keys", "[Z", true)
  | 11 => ("PlaceMovesModel", "many", "[I", true)
  | 12 => ("PlaceMovesModel", "hours", "[I", true)
  | 13 => ("PlaceMovesModel", "kinds", "[I", true)
  | 14 => ("PlaceMovesModel", "whats", "[I", true)
  | 15 => ("PlaceMovesModel", "doors", "I", false)
  | 16 => ("PlaceMovesModel", "firsts", "[I", true)
  | 17 => ("PlaceMovesModel", "seconds", "[I", true)
  | 18 => ("PlaceMovesModel", "widths", "[I", true)
  | 19 => ("PlaceMovesModel", "heights", "[I", true)
  | 20 => ("PlaceMovesModel", "far", "[I", true)
  | 21 => ("PlaceMovesModel", "plans", "I", false)
  | 22 => ("PlaceMovesModel", "planObjects", "[I", true)
  | 23 => ("PlaceMovesModel", "planPlaces", "[I", true)
  | 24 => ("PlaceMovesModel", "planFroms", "[I", true)
  | 25 => ("PlaceMovesModel", "planTos", "[I", true)
  | 26 => ("PlaceMovesModel", "quiets", "I", false)
  | 27 => ("PlaceMovesModel", "quietPlaces", "[I", true)
  | 28 => ("PlaceMovesModel", "quietFroms", "[I", true)
  | 29 => ("PlaceMovesModel", "quietTos", "[I", true)
  | 30 => ("PlaceMovesModel", "thought", "I", false)
  | _ => ("PlaceMovesModel", "thoughtPlace", "I", false)
def t_MD : Nat → FieldType := fun k => match k with
  | 0 => .int
  | 1 => .int
  | 2 => .int
  | 3 => .array .int
  | 4 => .array .int
  | 5 => .int
  | 6 => .array .int
  | 7 => .array .int
  | 8 => .array .int
  | 9 => .array .boolean
  | 10 => .array .boolean
  | 11 => .array .int
  | 12 => .array .int
  | 13 => .array .int
  | 14 => .array .int
  | 15 => .int
  | 16 => .array .int
  | 17 => .array .int
  | 18 => .array .int
  | 19 => .array .int
  | 20 => .array .int
  | 21 => .int
  | 22 => .array .int
  | 23 => .array .int
  | 24 => .array .int
  | 25 => .array .int
  | 26 => .int
  | 27 => .array .int
  | 28 => .array .int
  | 29 => .array .int
  | 30 => .int
  | _ => .int
theorem n_MD : ∀ a, a < 32 → ∀ b, b < 32 → a ≠ b → (F_MD a).2.1 ≠ (F_MD b).2.1 := by decide +kernel
theorem t_MD_ok : ∀ k, k < 32 → parseFieldDescriptor (F_MD k).2.2.1 = some (t_MD k) := by decide +kernel
theorem i_MD : ∀ w ∈ u_ws "PlaceMovesModel" F_MD 32, w ∈ WG := by
  intro w hw
  obtain ⟨k, hk, rfl⟩ := List.mem_map.mp hw
  have hk := List.mem_range.mp hk
  match k, hk with
  | 0, _ => exact w_632
  | 1, _ => exact w_634
  | 2, _ => exact w_636
  | 3, _ => exact w_638
  | 4, _ => exact w_640
  | 5, _ => exact w_642
  | 6, _ => exact w_644
  | 7, _ => exact w_646
  | 8, _ => exact w_648
  | 9, _ => exact w_650
  | 10, _ => exact w_652
  | 11, _ => exact w_654
  | 12, _ => exact w_656
  | 13, _ => exact w_658
  | 14, _ => exact w_660
  | 15, _ => exact w_662
  | 16, _ => exact w_664
  | 17, _ => exact w_666
  | 18, _ => exact w_668
  | 19, _ => exact w_670
  | 20, _ => exact w_672
  | 21, _ => exact w_674
  | 22, _ => exact w_676
  | 23, _ => exact w_678
  | 24, _ => exact w_680
  | 25, _ => exact w_682
  | 26, _ => exact w_684
  | 27, _ => exact w_686
  | 28, _ => exact w_688
  | 29, _ => exact w_690
  | 30, _ => exact w_692
  | 31, _ => exact w_694
  | k + 32, h => exact absurd h (by omega)
abbrev clX : List vw_C := [("PlaceMoves", F_PM, 9), ("PlaceMoves$Places", F_Places, 3), ("PlaceMoves$Things", F_Things, 7), ("PlaceMoves$Rows", F_Rows, 5), ("PlaceMoves$Doors", F_Doors, 5), ("PlaceMoves$Plans", F_Plans, 5), ("PlaceMoves$QuietTimes", F_QuietTimes, 4), ("PlaceMovesModel", F_MD, 32)]
