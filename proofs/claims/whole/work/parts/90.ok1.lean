/-! the calls that need no chain: place, object, keys, key, box, where, history, count, quiet, door, used, lost -/
theorem II_th {σ τ : Sg} {v : Int32} (h : II σ τ) : II σ (st τ 0 0 v) := h
theorem goes_1 (τ : Sg) (b c : Int32) : f_MD_goes τ 0 b c = some (0, st τ 0 0 1) := rfl
theorem goes_2 (τ : Sg) (c : Int32) : f_MD_goes τ 1 0 c = some (0, st τ 0 0 2) := rfl
theorem goes_3 (τ : Sg) : f_MD_goes τ 1 1 0 = some (0, st τ 0 0 3) := rfl
theorem goes_0 (τ : Sg) : f_MD_goes τ 1 1 1 = some (1, st τ 0 0 0) := rfl
theorem known_no (σ : Sg) {x M : Int32} (h : x < 0 ∨ M ≤ x) : f_PM_needKnown σ x M = some 1 := by
  unfold f_PM_needKnown
  by_cases z : x < 0
  · rw [if_pos z]
  · rw [if_neg z]
    rcases h with h | h
    · exact absurd h z
    · rw [if_neg (by rw [Int32.not_lt]; exact h)]
theorem known_yes (σ : Sg) {j n : Nat} (h : j < n) (hn : n < 2 ^ 31) : f_PM_needKnown σ (nI j) (nI n) = some 0 := by
  unfold f_PM_needKnown
  rw [if_neg (nI_pos (by omega)), if_pos (nI_lt h hn)]
theorem obj_cases {σ τ : Sg} (hI : II σ τ) (x : Int32) : (f_PM_needObject σ x = some 1 ∧ f_MD_isObject τ x = some 0) ∨ ∃ o, o < no τ ∧ x = nI o ∧ f_PM_needObject σ x = some 0 ∧ f_MD_isObject τ x = some 1 := by
  have hn := hI.1.1.2.1
  have hs := hI.2.1.2.2.2.1.1
  unfold f_PM_needObject f_MD_isObject
  rw [hs, hn.1]
  rcases pk_ix x (n := no τ) (by omega) with h | h | ⟨j, hj, h⟩
  · left
    rw [known_no σ (Or.inl h), if_pos h]
    exact ⟨rfl, rfl⟩
  · left
    rw [known_no σ (Or.inr h), if_pos h]
    refine ⟨rfl, ?_⟩
    split <;> rfl
  · right
    refine ⟨j, hj, h, ?_⟩
    rw [h, known_yes σ hj (by omega), if_neg (nI_pos (by omega)), if_neg (nI_ge hj (by omega))]
    exact ⟨rfl, rfl⟩
theorem plc_cases {σ τ : Sg} (hI : II σ τ) (x : Int32) : (f_PM_needPlace σ x = some 1 ∧ f_MD_isPlace τ x = some 0) ∨ ∃ o, o < np τ ∧ x = nI o ∧ f_PM_needPlace σ x = some 0 ∧ f_MD_isPlace τ x = some 1 := by
  have hn := hI.1.1.1
  have hs := hI.2.1.2.1.1
  unfold f_PM_needPlace f_MD_isPlace
  rw [hs, hn.1]
  rcases pk_ix x (n := np τ) (by omega) with h | h | ⟨j, hj, h⟩
  · left
    rw [known_no σ (Or.inl h), if_pos h]
    exact ⟨rfl, rfl⟩
  · left
    rw [known_no σ (Or.inr h), if_pos h]
    refine ⟨rfl, ?_⟩
    split <;> rfl
  · right
    refine ⟨j, hj, h, ?_⟩
    rw [h, known_yes σ hj (by omega), if_neg (nI_pos (by omega)), if_neg (nI_ge hj (by omega))]
    exact ⟨rfl, rfl⟩
theorem per_cases (σ τ : Sg) (x : Int32) : (f_PM_needPerson σ x = some 1 ∧ f_MD_isPerson τ x = some 0) ∨ ∃ o, o < 10 ∧ x = nI o ∧ f_PM_needPerson σ x = some 0 ∧ f_MD_isPerson τ x = some 1 := by
  unfold f_PM_needPerson f_MD_isPerson
  rw [show (10 : Int32) = nI 10 from rfl]
  rcases pk_ix x (n := 10) (by omega) with h | h | ⟨j, hj, h⟩
  · left
    rw [known_no σ (Or.inl h), if_pos h]
    exact ⟨rfl, rfl⟩
  · left
    rw [known_no σ (Or.inr h), if_pos h]
    refine ⟨rfl, ?_⟩
    split <;> rfl
  · right
    refine ⟨j, hj, h, ?_⟩
    rw [h, known_yes σ hj (by omega), if_neg (nI_pos (by omega)), if_neg (nI_ge hj (by omega))]
    exact ⟨rfl, rfl⟩
theorem rng_cases (σ τ : Sg) (x a b : Int32) : (f_PM_needRange σ x a b = some 2 ∧ f_MD_within τ x a b = some 0 ∧ (x < a ∨ b < x)) ∨ (¬ x < a ∧ ¬ b < x ∧ f_PM_needRange σ x a b = some 0 ∧ f_MD_within τ x a b = some 1) := by
  unfold f_PM_needRange f_MD_within
  by_cases z1 : x < a
  · left; rw [if_pos z1, if_pos z1]; exact ⟨rfl, rfl, Or.inl z1⟩
  · rw [if_neg z1, if_neg z1]
    by_cases z2 : b < x
    · left; rw [if_neg (by rw [Int32.not_le]; exact z2), if_pos z2]; exact ⟨rfl, rfl, Or.inr z2⟩
    · right; rw [if_pos (by rw [← Int32.not_lt]; exact z2), if_neg z2]; exact ⟨z1, z2, rfl, rfl⟩
theorem size_eq (τ : Sg) (x : Int32) : f_MD_isSize τ x = f_MD_within τ x 1 10000 := rfl
theorem room_yes (σ : Sg) {j n : Nat} (h : j < n) (hn : n < 2 ^ 31) : f_PM_needRoom σ (nI j) (nI n) = some 0 := by
  unfold f_PM_needRoom
  rw [if_pos (nI_lt h hn)]
theorem room_no (σ : Sg) {j n : Nat} (h : n ≤ j) (hn : j < 2 ^ 31) : f_PM_needRoom σ (nI j) (nI n) = some 3 := by
  unfold f_PM_needRoom
  rw [if_neg (nI_nlt h hn)]
theorem ok_where : Ok_where II := by
  intro σ τ y p1 p2 hI
  have hn := hI.1.1.2.1.2
  unfold h_where f_PM_where f_MD_where
  rcases obj_cases hI p1 with ⟨a, b⟩ | ⟨o, ho, e, a, b⟩
  · rw [a, b]
    exact ⟨1, 0, σ, st τ 0 0 1, y, rfl, rfl, rfl, fun h => absurd h (by decide), II_th hI⟩
  · rw [a, b, e]
    simp only [Option.bind_some, goes_0]
    have hI0 : II σ (st τ 0 0 0) := II_th hI
    rw [placeAt_eq hI.1.1 hI.1.2.1 hI.2.1.1 p2 (by omega), at_eq hI0.1.1 hI0.1.2.1 p2 (by omega), AQ_AT hI0.1.1 hI0.1.2.1 hI0.1.2.2.2.2.2.2.2.2 p2 (by omega)]
    exact ⟨0, _, σ, st τ 0 0 0, _, rfl, rfl, rfl, fun _ => pk_uLs, hI0⟩
theorem ok_keys : Ok_keys II := by
  intro σ τ y p1 p2 hI
  have hn := hI.1.1.2.1.2
  unfold h_keys f_PM_keys f_MD_keys
  rcases obj_cases hI p1 with ⟨a, b⟩ | ⟨o, ho, e, a, b⟩
  · rw [a, b]
    rcases rng_cases σ τ p2 0 2 with ⟨_, d, _⟩ | ⟨_, _, _, d⟩
    · rw [d]
      exact ⟨1, 0, σ, st τ 0 0 1, y, rfl, rfl, rfl, fun h => absurd h (by decide), II_th hI⟩
    · rw [d]
      exact ⟨1, 0, σ, st τ 0 0 1, y, rfl, rfl, rfl, fun h => absurd h (by decide), II_th hI⟩
  · rcases rng_cases σ τ p2 0 2 with ⟨c, d, _⟩ | ⟨_, _, c, d⟩
    · rw [a, b, e]
      simp only [Option.bind_some]
      rw [c, d]
      exact ⟨2, 0, σ, st τ 0 0 2, y, rfl, rfl, rfl, fun h => absurd h (by decide), II_th hI⟩
    · rw [a, b, e]
      simp only [Option.bind_some]
      rw [c, d]
      simp only [Option.bind_some, goes_0]
      rw [inB_nI (by omega) (by omega), nI_clamp (by omega)]
      simp only [gd_t, lt1]
      refine ⟨0, τ 5 o, st σ 15 o p2, st (st τ 0 0 0) 5 o p2, _, rfl, rfl, rfl, fun _ => ?_, ?_⟩
      · rw [pk_uLs, (hI.2.1.2.2.2.2.1.1 o (by omega)).1]
      · obtain ⟨hg, ⟨c1, c2, c3, c4, c5, c6, c7, c8⟩, hp⟩ := hI
        refine ⟨hg, ⟨c1, c2, c3, c4, ⟨?_, c5.2.1, c5.2.2⟩, c6, c7, c8⟩, hp⟩
        intro i hi
        refine ⟨?_, (c5.1 i hi).2⟩
        show upd (σ 15) o p2 i = upd (τ 5) o p2 i
        by_cases z : i = o
        · rw [z, pk_us, pk_us]
        · rw [pk_un z, pk_un z]; exact (c5.1 i hi).1
theorem ok_key : Ok_key II := by
  intro σ τ y p1 p2 hI hp2
  unfold h_key f_PM_key f_MD_key
  rcases per_cases σ τ p1 with ⟨a, b⟩ | ⟨o, ho, e, a, b⟩
  · rw [a, b]
    exact ⟨1, 0, σ, st τ 0 0 1, y, rfl, rfl, rfl, fun h => absurd h (by decide), II_th hI⟩
  · rw [a, b, e]
    simp only [Option.bind_some, goes_0]
    have hI2 : ∀ v : Int32, II (st σ 7 o v) (st (st τ 0 0 0) 7 o v) := by
      intro v
      obtain ⟨hg, ⟨c1, c2, c3, c4, c5, c6, c7, c8⟩, hp⟩ := hI
      refine ⟨hg, ⟨c1, c2, c3, c4, ⟨c5.1, ?_, c5.2.2⟩, c6, c7, c8⟩, hp⟩
      intro i hi
      show upd (σ 7) o v i = upd (τ 7) o v i
      by_cases z : i = o
      · rw [z, pk_us, pk_us]
      · rw [pk_un z, pk_un z]; exact c5.2.1 i hi
    have e7 : st τ 0 0 0 7 = τ 7 := rfl
    rw [inB_nI (by omega) (by omega), nI_clamp (by omega), e7, hI.2.1.2.2.2.2.1.2.1 o ho]
    simp only [gd_t, lt1]
    by_cases z : τ 7 o = p2
    · rw [if_pos z, if_pos z]
      exact ⟨0, 0, _, _, _, rfl, rfl, rfl, fun _ => pk_uLs, hI2 _⟩
    · rw [if_neg z, if_neg z]
      exact ⟨0, 1, _, _, _, rfl, rfl, rfl, fun _ => pk_uLs, hI2 _⟩
theorem ok_box : Ok_box II := by
  intro σ τ y p1 hI
  have hn := hI.1.1.2.1.2
  unfold h_box f_PM_box f_MD_box
  rcases obj_cases hI p1 with ⟨a, b⟩ | ⟨o, ho, e, a, b⟩
  · rw [a, b]
    exact ⟨1, 0, σ, st τ 0 0 1, y, rfl, rfl, rfl, fun h => absurd h (by decide), II_th hI⟩
  · rw [a, b, e]
    simp only [Option.bind_some, goes_0]
    have hI2 : ∀ v : Int32, II (st σ 16 o v) (st (st τ 0 0 0) 6 o v) := by
      intro v
      obtain ⟨hg, ⟨c1, c2, c3, c4, c5, c6, c7, c8⟩, hp⟩ := hI
      refine ⟨hg, ⟨c1, c2, c3, c4, ⟨?_, c5.2.1, c5.2.2⟩, c6, c7, c8⟩, hp⟩
      intro i hi
      refine ⟨(c5.1 i hi).1, ?_⟩
      show upd (σ 16) o v i = upd (τ 6) o v i
      by_cases z : i = o
      · rw [z, pk_us, pk_us]
      · rw [pk_un z, pk_un z]; exact (c5.1 i hi).2
    have e7 : st τ 0 0 0 6 = τ 6 := rfl
    rw [inB_nI (by omega) (by omega), nI_clamp (by omega), e7, (hI.2.1.2.2.2.2.1.1 o (by omega)).2]
    simp only [gd_t, lt1]
    by_cases z : τ 6 o = 0
    · rw [if_pos z, if_pos z]
      exact ⟨0, 1, _, _, _, rfl, rfl, rfl, fun _ => pk_uLs, hI2 _⟩
    · rw [if_neg z, if_neg z]
      exact ⟨0, 0, _, _, _, rfl, rfl, rfl, fun _ => pk_uLs, hI2 _⟩
theorem ok_used : Ok_used II := by
  intro σ τ y p1 p2 hI
  have hn := hI.1.1.1.2
  unfold h_used f_PM_used f_MD_used
  rcases plc_cases hI p1 with ⟨a, b⟩ | ⟨o, ho, e, a, b⟩
  · rw [a, b]
    exact ⟨1, 0, σ, st τ 0 0 1, y, rfl, rfl, rfl, fun h => absurd h (by decide), II_th hI⟩
  · rw [a, b, e]
    simp only [Option.bind_some, goes_0]
    have hI0 : II σ (st τ 0 0 0) := II_th hI
    obtain ⟨g1, g2, g3, g4, g5, g6, g7, g8, g9⟩ := id hI0.1
    obtain ⟨c1, c2, c3, c4, c5, c6, c7, c8⟩ := id hI0.2.1
    obtain ⟨b8, e8, h8⟩ := weighAt_eq g1 g2 g4 c1 c2 c3 c4 p2
    rw [e8, Option.bind_some, weightOf_eq g1 c4 h8 (by omega), weight_eq g1 g2 g3 g4 (fun o ho => by rw [AQ_AT g1 g2 g9 p2 ho]; exact AT_VP g1 g2 ho) (by omega), wF_congr g1.2.1.2 (fun o ho => AQ_AT g1 g2 g9 p2 ho) o]
    exact ⟨0, _, w8 σ b8, st τ 0 0 0, _, rfl, rfl, rfl, fun _ => pk_uLs, II_w8 hI0⟩
theorem ok_history : Ok_history II := by
  intro σ τ y p1 p2 p3 hI
  have hn := hI.1.1.2.1.2
  unfold h_history f_PM_history f_MD_history C_MD_history_28
  have refuse1 : ∀ r, f_MD_within τ p3 0 2 = some r → ((f_MD_within τ p3 0 2).bind fun r2 => (f_MD_goes τ 0 r2 1).bind fun r3 => if r3.1 = 0 then (some ((0 : Int32), r3.2)) else (lt1 ((40 * p1) + p2) fun y4 => if p3 = 0 then (gd (inB y4 800) <| some (r3.2 9 (Int32.toNatClampNeg y4), r3.2)) else (if p3 = 1 then (gd (inB y4 800) <| some (r3.2 10 (Int32.toNatClampNeg y4), r3.2)) else (gd (inB y4 800) <| some (r3.2 11 (Int32.toNatClampNeg y4), r3.2))))) = some (0, st τ 0 0 1) := by
    intro r e
    rw [e]
    rfl
  have hr : ∃ r, f_MD_within τ p3 0 2 = some r := ⟨_, within_eq τ p3 0 2⟩
  obtain ⟨r, hr⟩ := hr
  have rf := refuse1 r hr
  rcases obj_cases hI p1 with ⟨a, b⟩ | ⟨o, ho, e, a, b⟩
  · rw [a, b]
    exact ⟨1, 0, σ, st τ 0 0 1, y, rfl, rf, rfl, fun h => absurd h (by decide), II_th hI⟩
  · obtain ⟨m1, m2⟩ := hI.1.2.1.1 o (by omega)
    rw [a, b]
    simp only [Option.bind_some, ↓reduceIte]
    rw [if_neg (by decide), rf, e, inB_nI (by omega) (by omega), nI_clamp (by omega), hI.2.1.1.1 o (by omega), m1]
    simp only [gd_t]
    rcases pk_ix p2 (n := mm τ o) (by omega) with h | h | ⟨k, hk, h⟩
    · rw [known_no σ (Or.inl h), if_pos h]
      exact ⟨1, 0, σ, st τ 0 0 1, y, rfl, rfl, rfl, fun h => absurd h (by decide), II_th hI⟩
    · rw [known_no σ (Or.inr h), if_pos h]
      refine ⟨1, 0, σ, st τ 0 0 1, y, rfl, ?_, rfl, fun h => absurd h (by decide), II_th hI⟩
      split <;> rfl
    · rw [h, known_yes σ hk (by omega), if_neg (nI_pos (by omega)), if_neg (nI_ge hk (by omega)), Option.bind_some, if_pos rfl]
      rcases rng_cases σ τ p3 0 2 with ⟨c, d, _⟩ | ⟨d1, d2, c, d⟩
      · rw [c, d]
        exact ⟨2, 0, σ, st τ 0 0 2, y, rfl, rfl, rfl, fun h => absurd h (by decide), II_th hI⟩
      · rw [c, d]
        simp only [Option.bind_some, goes_0, lt1]
        unfold f_Rows_index
        rw [ix40, xi40]
        simp only [Option.bind_some]
        rw [inB_nI (by omega) (by omega), nI_clamp (by omega)]
        simp only [gd_t]
        obtain ⟨q1, q2, q3⟩ := hI.2.1.1.2 o (by omega) k hk
        rw [q1, q2, q3, if_neg (show ¬ (1 : Int32) = 0 by decide)]
        by_cases z0 : p3 = 0
        · rw [if_pos z0, if_pos z0]
          exact ⟨0, _, σ, st τ 0 0 0, _, rfl, rfl, rfl, fun _ => pk_uLs, II_th hI⟩
        · rw [if_neg z0, if_neg z0]
          by_cases z1 : p3 = 1
          · rw [if_pos z1, if_pos z1]
            exact ⟨0, _, σ, st τ 0 0 0, _, rfl, rfl, rfl, fun _ => pk_uLs, II_th hI⟩
          · rw [if_neg z1, if_neg z1]
            exact ⟨0, _, σ, st τ 0 0 0, _, rfl, rfl, rfl, fun _ => pk_uLs, II_th hI⟩
