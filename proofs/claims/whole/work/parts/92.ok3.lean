/-! door, quiet, count, lost -/
def Dσ (σ : Sg) (n : Nat) (a b w h : Int32) : Sg := st (st (st (st (st σ 21 n a) 22 n b) 23 n (if w < h then h else w)) 24 n (if h < w then h else w)) 4 0 (σ 4 0 + 1)
def Dτ (τ : Sg) (n : Nat) (a b w h : Int32) : Sg := st (st (st (st (st (st τ 0 0 0) 12 n a) 13 n b) 14 n w) 15 n h) 0 4 (τ 0 4 + 1)
theorem II_door {σ τ : Sg} (hI : II σ τ) (hlt : ndr τ < 40) {a b : Nat} (ha : a < np τ) (hb : b < np τ) (w h : Int32) : II (Dσ σ (ndr τ) (nI a) (nI b) w h) (Dτ τ (ndr τ) (nI a) (nI b) w h) := by
  obtain ⟨⟨g1, g2, g3, g4, g5, g6, g7, g8, g9⟩, ⟨c1, c2, c3, c4, c5, c6, c7, c8⟩, hpr⟩ := hI
  have e2 : Dτ τ (ndr τ) (nI a) (nI b) w h 0 4 = τ 0 4 + 1 := rfl
  have ep : ndr (Dτ τ (ndr τ) (nI a) (nI b) w h) = ndr τ + 1 := by
    show (Dτ τ (ndr τ) (nI a) (nI b) w h 0 4).toNatClampNeg = _
    rw [e2, g1.2.2.1.1, nI_1, nI_clamp (by omega)]
  refine ⟨⟨⟨g1.1, g1.2.1, ⟨by rw [e2, ep, g1.2.2.1.1, nI_1], by omega⟩, g1.2.2.2⟩, g2, g3, g4, ?_, g6, g7, g8, g9⟩, ⟨c1, c2, c3, c4, c5, ⟨?_, ?_⟩, c7, c8⟩, hpr⟩
  · intro d hd
    rw [ep] at hd
    show (∃ a', a' < np τ ∧ upd (τ 12) (ndr τ) (nI a) d = nI a') ∧ (∃ a', a' < np τ ∧ upd (τ 13) (ndr τ) (nI b) d = nI a')
    by_cases z : d = ndr τ
    · rw [z, pk_us, pk_us]
      exact ⟨⟨a, ha, rfl⟩, ⟨b, hb, rfl⟩⟩
    · rw [pk_un z, pk_un z]
      exact g5 d (by omega)
  · show σ 4 0 + 1 = τ 0 4 + 1
    rw [c6.1]
  · intro d hd
    rw [ep] at hd
    show upd (σ 21) (ndr τ) (nI a) d = upd (τ 12) (ndr τ) (nI a) d ∧ upd (σ 22) (ndr τ) (nI b) d = upd (τ 13) (ndr τ) (nI b) d ∧ upd (σ 23) (ndr τ) (if w < h then h else w) d = (if upd (τ 14) (ndr τ) w d < upd (τ 15) (ndr τ) h d then upd (τ 15) (ndr τ) h d else upd (τ 14) (ndr τ) w d) ∧ upd (σ 24) (ndr τ) (if h < w then h else w) d = (if upd (τ 15) (ndr τ) h d < upd (τ 14) (ndr τ) w d then upd (τ 15) (ndr τ) h d else upd (τ 14) (ndr τ) w d)
    by_cases z : d = ndr τ
    · rw [z, pk_us, pk_us, pk_us, pk_us, pk_us, pk_us, pk_us, pk_us]
      exact ⟨rfl, rfl, rfl, rfl⟩
    · rw [pk_un z, pk_un z, pk_un z, pk_un z, pk_un z, pk_un z, pk_un z, pk_un z]
      exact c6.2 d (by omega)
theorem door_0 (τ : Sg) (p1 p2 p3 p4 : Int32) : C_MD_door_22 p1 p2 p3 p4 0 τ = some (0, st τ 0 0 1) := by
  have h : ∀ a b, C_MD_door_61 p1 p2 p3 p4 a b 0 τ = some (0, st τ 0 0 1) := fun a b => rfl
  unfold C_MD_door_22
  rw [size_eq, size_eq, within_eq, within_eq]
  simp only [Option.bind_some, h, ite_self]
theorem ok_door : Ok_door II := by
  intro σ τ y p1 p2 p3 p4 hI
  have hn := hI.1.1.2.2.1
  have hnp := hI.1.1.1.2
  have hs := hI.2.1.2.2.2.2.2.1.1
  unfold h_door f_PM_door f_MD_door
  rcases plc_cases hI p1 with ⟨a, b⟩ | ⟨o, ho, e, a, b⟩
  · rw [a, b]
    exact ⟨1, 0, σ, st τ 0 0 1, y, rfl, door_0 τ p1 p2 p3 p4, rfl, fun h => absurd h (by decide), II_th hI⟩
  rw [a, b]
  simp only [Option.bind_some, ↓reduceIte]
  rw [if_neg (show ¬ (1 : Int32) = 0 by decide)]
  rcases plc_cases hI p2 with ⟨a, b⟩ | ⟨o2, ho2, e2, a, b⟩
  · rw [a, b]
    exact ⟨1, 0, σ, st τ 0 0 1, y, rfl, door_0 τ p1 p2 p3 p4, rfl, fun h => absurd h (by decide), II_th hI⟩
  rw [a, b]
  simp only [Option.bind_some, ↓reduceIte]
  rw [if_neg (show ¬ (1 : Int32) = 0 by decide)]
  have h2 : ∀ a, C_MD_door_61 p1 p2 p3 p4 a 0 1 τ = some (0, st τ 0 0 2) := fun a => rfl
  unfold C_MD_door_22
  rw [size_eq, size_eq]
  simp only [h2, ite_self]
  by_cases z : p1 = p2
  · rw [if_pos z, if_pos z]
    exact ⟨2, 0, σ, st τ 0 0 2, y, rfl, rfl, rfl, fun h => absurd h (by decide), II_th hI⟩
  rw [if_neg z, if_neg z]
  rcases rng_cases σ τ p3 1 10000 with ⟨a1, b1, _⟩ | ⟨_, _, a1, b1⟩
  · rw [a1, b1]
    exact ⟨2, 0, σ, st τ 0 0 2, y, rfl, rfl, rfl, fun h => absurd h (by decide), II_th hI⟩
  rw [a1, b1]
  simp only [Option.bind_some, ↓reduceIte]
  rw [if_neg (show ¬ (1 : Int32) = 0 by decide)]
  rcases rng_cases σ τ p4 1 10000 with ⟨a1, b1, _⟩ | ⟨_, _, a1, b1⟩
  · rw [a1, b1]
    exact ⟨2, 0, σ, st τ 0 0 2, y, rfl, rfl, rfl, fun h => absurd h (by decide), II_th hI⟩
  rw [a1, b1]
  simp only [Option.bind_some, ↓reduceIte]
  rw [if_neg (show ¬ (1 : Int32) = 0 by decide), hs, hn.1, show (40 : Int32) = nI 40 from rfl]
  by_cases z : ndr τ < 40
  · rw [room_yes σ z (by omega), if_neg (nI_ge z (by omega))]
    simp only [Option.bind_some, ↓reduceIte]
    unfold f_Doors_add C_MD_door_61
    rw [goes_0, hs, hn.1, inB_nI z (by omega), nI_clamp (by omega)]
    simp only [gd_t, lt1, Option.bind_some]
    have f1 : st τ 0 0 0 0 4 = nI (ndr τ) := hn.1
    have f2 : ∀ j v, st (st τ 0 0 0) 12 j v 0 4 = nI (ndr τ) := fun j v => hn.1
    have f3 : ∀ j v j2 v2, st (st (st τ 0 0 0) 12 j v) 13 j2 v2 0 4 = nI (ndr τ) := fun j v j2 v2 => hn.1
    have f4 : ∀ j v j2 v2 j3 v3, st (st (st (st τ 0 0 0) 12 j v) 13 j2 v2) 14 j3 v3 0 4 = nI (ndr τ) := fun j v j2 v2 j3 v3 => hn.1
    have f5 : ∀ j v j2 v2 j3 v3 j4 v4, st (st (st (st (st τ 0 0 0) 12 j v) 13 j2 v2) 14 j3 v3) 15 j4 v4 0 4 = nI (ndr τ) := fun j v j2 v2 j3 v3 j4 v4 => hn.1
    simp only [f1, f2, f3, f4, f5]
    rw [inB_nI z (by omega), nI_clamp (by omega), if_neg (show ¬ (1 : Int32) = 0 by decide)]
    simp only [gd_t]
    have hII := II_door hI z ho ho2 p3 p4
    rw [← e, ← e2] at hII
    have eσ : Dσ σ (ndr τ) p1 p2 p3 p4 = st (st (st (st (st σ 21 (ndr τ) p1) 22 (ndr τ) p2) 23 (ndr τ) (if p3 < p4 then p4 else p3)) 24 (ndr τ) (if p4 < p3 then p4 else p3)) 4 0 (nI (ndr τ) + 1) := by unfold Dσ; rw [hs, hn.1]
    have eτ : Dτ τ (ndr τ) p1 p2 p3 p4 = st (st (st (st (st (st τ 0 0 0) 12 (ndr τ) p1) 13 (ndr τ) p2) 14 (ndr τ) p3) 15 (ndr τ) p4) 0 4 (nI (ndr τ) + 1) := by unfold Dτ; rw [hn.1]
    rw [eσ, eτ] at hII
    refine ⟨0, nI (ndr τ), _, _, vp_updL y (Int32.toNatClampNeg 0) (Int32.toInt64 (nI (ndr τ))), rfl, ?_, rfl, fun _ => pk_uLs, hII⟩
    show some (nI (ndr τ) + 1 - 1, _) = _
    rw [Int32.add_sub_cancel]
  · rw [room_no σ (by omega) (by omega), if_pos (nI_le (by omega) (by omega))]
    exact ⟨3, 0, σ, st τ 0 0 3, y, rfl, rfl, rfl, fun h => absurd h (by decide), II_th hI⟩
def Qσ (σ : Sg) (n : Nat) (p f t : Int32) : Sg := st (st (st (st σ 29 n p) 30 n f) 31 n t) 6 0 (σ 6 0 + 1)
def Qτ (τ : Sg) (n : Nat) (p f t : Int32) : Sg := st (st (st (st (st τ 0 0 0) 21 n p) 22 n f) 23 n t) 0 6 (τ 0 6 + 1)
theorem II_quiet {σ τ : Sg} (hI : II σ τ) (hlt : nqt τ < 20) {a : Nat} (ha : a < np τ) (f t : Int32) : II (Qσ σ (nqt τ) (nI a) f t) (Qτ τ (nqt τ) (nI a) f t) := by
  obtain ⟨⟨g1, g2, g3, g4, g5, g6, g7, g8, g9⟩, ⟨c1, c2, c3, c4, c5, c6, c7, c8⟩, hpr⟩ := hI
  have e2 : Qτ τ (nqt τ) (nI a) f t 0 6 = τ 0 6 + 1 := rfl
  have ep : nqt (Qτ τ (nqt τ) (nI a) f t) = nqt τ + 1 := by
    show (Qτ τ (nqt τ) (nI a) f t 0 6).toNatClampNeg = _
    rw [e2, g1.2.2.2.2.1, nI_1, nI_clamp (by omega)]
  refine ⟨⟨⟨g1.1, g1.2.1, g1.2.2.1, g1.2.2.2.1, ⟨by rw [e2, ep, g1.2.2.2.2.1, nI_1], by omega⟩⟩, g2, g3, g4, g5, ?_, g7, g8, g9⟩, ⟨c1, c2, c3, c4, c5, c6, ⟨?_, ?_⟩, c8⟩, hpr⟩
  · intro d hd
    rw [ep] at hd
    show (∃ a', a' < np τ ∧ upd (τ 21) (nqt τ) (nI a) d = nI a')
    by_cases z : d = nqt τ
    · rw [z, pk_us]
      exact ⟨a, ha, rfl⟩
    · rw [pk_un z]
      exact g6 d (by omega)
  · show σ 6 0 + 1 = τ 0 6 + 1
    rw [c7.1]
  · intro d hd
    rw [ep] at hd
    show upd (σ 29) (nqt τ) (nI a) d = upd (τ 21) (nqt τ) (nI a) d ∧ upd (σ 30) (nqt τ) f d = upd (τ 22) (nqt τ) f d ∧ upd (σ 31) (nqt τ) t d = upd (τ 23) (nqt τ) t d
    by_cases z : d = nqt τ
    · rw [z, pk_us, pk_us, pk_us, pk_us, pk_us, pk_us]
      exact ⟨rfl, rfl, rfl⟩
    · rw [pk_un z, pk_un z, pk_un z, pk_un z, pk_un z, pk_un z]
      exact c7.2 d (by omega)
theorem ok_quiet : Ok_quiet II := by
  intro σ τ y p1 p2 p3 hI
  have hn := hI.1.1.2.2.2.2
  have hs := hI.2.1.2.2.2.2.2.2.1.1
  unfold h_quiet f_PM_quiet f_MD_quiet
  rcases plc_cases hI p1 with ⟨a, b⟩ | ⟨o, ho, e, a, b⟩
  · rw [a, b]
    have h : ∀ a b, C_MD_quiet_34 p1 p2 p3 a b 0 τ = some (st τ 0 0 1) := fun a b => rfl
    simp only [Option.bind_some, h, ite_self]
    exact ⟨1, σ, st τ 0 0 1, y, rfl, rfl, rfl, II_th hI⟩
  rw [a, b]
  simp only [Option.bind_some, ↓reduceIte]
  have h2 : ∀ a, C_MD_quiet_34 p1 p2 p3 a 0 1 τ = some (st τ 0 0 2) := fun a => rfl
  simp only [h2, ite_self]
  by_cases z1 : p2 < 0
  · rw [if_pos z1, if_pos z1]
    exact ⟨2, σ, st τ 0 0 2, y, rfl, rfl, rfl, II_th hI⟩
  rw [if_neg z1, if_neg z1]
  by_cases z2 : p3 < p2
  · rw [if_neg (by rw [Int32.not_le]; exact z2), if_pos z2]
    exact ⟨2, σ, st τ 0 0 2, y, rfl, rfl, rfl, II_th hI⟩
  rw [if_pos (by rw [← Int32.not_lt]; exact z2), if_neg z2, hs, hn.1, show (20 : Int32) = nI 20 from rfl]
  by_cases z : nqt τ < 20
  · rw [room_yes σ z (by omega), if_neg (nI_ge z (by omega))]
    simp only [Option.bind_some, ↓reduceIte]
    unfold f_QuietTimes_add C_MD_quiet_34
    rw [goes_0]
    simp only [lt1, Option.bind_some]
    have f1 : st τ 0 0 0 0 6 = nI (nqt τ) := hn.1
    have f2 : ∀ j v, st (st τ 0 0 0) 21 j v 0 6 = nI (nqt τ) := fun j v => hn.1
    have f3 : ∀ j v j2 v2, st (st (st τ 0 0 0) 21 j v) 22 j2 v2 0 6 = nI (nqt τ) := fun j v j2 v2 => hn.1
    have f4 : ∀ j v j2 v2 j3 v3, st (st (st (st τ 0 0 0) 21 j v) 22 j2 v2) 23 j3 v3 0 6 = nI (nqt τ) := fun j v j2 v2 j3 v3 => hn.1
    have s1 : σ 6 0 = nI (nqt τ) := hs.trans hn.1
    have s2 : ∀ j v, st σ 29 j v 6 0 = nI (nqt τ) := fun j v => s1
    have s3 : ∀ j v j2 v2, st (st σ 29 j v) 30 j2 v2 6 0 = nI (nqt τ) := fun j v j2 v2 => s1
    have s4 : ∀ j v j2 v2 j3 v3, st (st (st σ 29 j v) 30 j2 v2) 31 j3 v3 6 0 = nI (nqt τ) := fun j v j2 v2 j3 v3 => s1
    simp only [f1, f2, f3, f4, s1, s2, s3, s4]
    rw [inB_nI z (by omega), nI_clamp (by omega), if_neg (show ¬ (1 : Int32) = 0 by decide)]
    simp only [gd_t]
    have hII := II_quiet hI z ho p2 p3
    rw [← e] at hII
    have eσ : Qσ σ (nqt τ) p1 p2 p3 = st (st (st (st σ 29 (nqt τ) p1) 30 (nqt τ) p2) 31 (nqt τ) p3) 6 0 (nI (nqt τ) + 1) := by unfold Qσ; rw [s1]
    have eτ : Qτ τ (nqt τ) p1 p2 p3 = st (st (st (st (st τ 0 0 0) 21 (nqt τ) p1) 22 (nqt τ) p2) 23 (nqt τ) p3) 0 6 (nI (nqt τ) + 1) := by unfold Qτ; rw [hn.1]
    rw [eσ, eτ] at hII
    exact ⟨0, _, _, y, rfl, rfl, rfl, hII⟩
  · rw [room_no σ (by omega) (by omega), if_pos (nI_le (by omega) (by omega))]
    exact ⟨3, σ, st τ 0 0 3, y, rfl, rfl, rfl, II_th hI⟩
def cntF (τ : Sg) (p1 v : Int32) : Option (Int32 × Sg) := if p1 = 0 then (some (τ 0 2, τ)) else (if p1 = 1 then (some (τ 0 3, τ)) else (if p1 = 2 then (some (τ 0 4, τ)) else (if p1 = 3 then (some (τ 0 5, τ)) else (if p1 = 4 then (some (τ 0 1, τ)) else (some (v, τ))))))
theorem count_L {τ : Sg} (hN : NG τ) (p1 : Int32) : ∀ (c k N : Nat), k + c = no τ → c < N → L_MD_count_21 N p1 (tl (τ 8) k) (nI k) τ = cntF τ p1 (tl (τ 8) (no τ)) := by
  have hn := hN.2.1
  intro c
  induction c with
  | zero =>
    intro k N hk hc
    obtain ⟨N, rfl⟩ : ∃ N', N = N' + 1 := ⟨N - 1, by omega⟩
    show B_MD_count_21 (L_MD_count_21 N) p1 (tl (τ 8) k) (nI k) τ = _
    unfold B_MD_count_21
    rw [hn.1, if_pos (nI_le (by omega) (by omega)), show k = no τ by omega]
    unfold cntF
    rw [hn.1]
  | succ c ih =>
    intro k N hk hc
    obtain ⟨N, rfl⟩ : ∃ N', N = N' + 1 := ⟨N - 1, by omega⟩
    show B_MD_count_21 (L_MD_count_21 N) p1 (tl (τ 8) k) (nI k) τ = _
    unfold B_MD_count_21
    rw [hn.1, if_neg (nI_ge (by omega) (by omega)), inB_nI (by omega) (by omega), nI_clamp (by omega), nI_1]
    exact ih (k + 1) N (by omega) (by omega)
theorem ok_count : Ok_count II := by
  intro σ τ y p1 hI
  have hn := hI.1.1.2.1.2
  obtain ⟨hg, ⟨c1, c2, c3, c4, c5, c6, c7, c8⟩, hpr⟩ := id hI
  have hI0 : II σ (st τ 0 0 0) := II_th hI
  have yes : f_MD_within τ p1 0 5 = some 1 → f_MD_count τ p1 = cntF (st τ 0 0 0) p1 (tl (τ 8) (no τ)) := by
    intro h
    unfold f_MD_count
    rw [h, Option.bind_some, goes_0, Option.bind_some]
    exact count_L hI0.1.1 p1 (no τ) 0 fuel (show 0 + no τ = no τ by omega) (by unfold fuel; omega)
  unfold h_count f_PM_count
  by_cases z0 : p1 = 0
  · rw [if_pos z0, yes (by rw [z0]; rfl)]
    refine ⟨0, τ 0 2, σ, st τ 0 0 0, _, rfl, ?_, rfl, fun _ => ?_, hI0⟩
    · unfold cntF; rw [if_pos z0]; rfl
    · rw [pk_uLs, c2.1]
  rw [if_neg z0]
  by_cases z1 : p1 = 1
  · rw [if_pos z1, yes (by rw [z1]; rfl)]
    refine ⟨0, τ 0 3, σ, st τ 0 0 0, _, rfl, ?_, rfl, fun _ => ?_, hI0⟩
    · unfold cntF; rw [if_neg z0, if_pos z1]; rfl
    · rw [pk_uLs, c4.1]
  rw [if_neg z1]
  by_cases z2 : p1 = 2
  · rw [if_pos z2, yes (by rw [z2]; rfl)]
    refine ⟨0, τ 0 4, σ, st τ 0 0 0, _, rfl, ?_, rfl, fun _ => ?_, hI0⟩
    · unfold cntF; rw [if_neg z0, if_neg z1, if_pos z2]; rfl
    · rw [pk_uLs, c6.1]
  rw [if_neg z2]
  by_cases z3 : p1 = 3
  · rw [if_pos z3, yes (by rw [z3]; rfl)]
    refine ⟨0, τ 0 5, σ, st τ 0 0 0, _, rfl, ?_, rfl, fun _ => ?_, hI0⟩
    · unfold cntF; rw [if_neg z0, if_neg z1, if_neg z2, if_pos z3]; rfl
    · rw [pk_uLs, c3.1]
  rw [if_neg z3]
  by_cases z4 : p1 = 4
  · rw [if_pos z4, yes (by rw [z4]; rfl)]
    refine ⟨0, τ 0 1, σ, st τ 0 0 0, _, rfl, ?_, rfl, fun _ => ?_, hI0⟩
    · unfold cntF; rw [if_neg z0, if_neg z1, if_neg z2, if_neg z3, if_pos z4]; rfl
    · rw [pk_uLs, hpr]
  rw [if_neg z4]
  by_cases z5 : p1 = 5
  · rw [if_pos z5, yes (by rw [z5]; rfl)]
    refine ⟨0, tl (τ 8) (no τ), σ, st τ 0 0 0, _, rfl, ?_, rfl, fun _ => ?_, hI0⟩
    · unfold cntF; rw [if_neg z0, if_neg z1, if_neg z2, if_neg z3, if_neg z4]
    · rw [pk_uLs]; exact congrArg Int32.toInt64 c8
  rw [if_neg z5]
  have no5 : f_MD_within τ p1 0 5 = some 0 := by
    rcases rng_cases σ τ p1 0 5 with ⟨_, d, _⟩ | ⟨d1, d2, _, _⟩
    · exact d
    · exfalso
      obtain ⟨j, hj, e⟩ := nI_of2 (M := 5) (n := 5) (by decide) d1 (by rw [← Int32.not_lt]; exact d2)
      have : j = 0 ∨ j = 1 ∨ j = 2 ∨ j = 3 ∨ j = 4 ∨ j = 5 := by omega
      rcases this with q | q | q | q | q | q <;> subst q
      · exact z0 e
      · exact z1 e
      · exact z2 e
      · exact z3 e
      · exact z4 e
      · exact z5 e
  refine ⟨1, 0, σ, st τ 0 0 1, y, rfl, ?_, rfl, fun h => absurd h (by decide), II_th hI⟩
  unfold f_MD_count
  rw [no5]
  rfl
