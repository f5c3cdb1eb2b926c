/-! the calls that add: place, object, door, quiet; count -/
theorem an_upd {τ : Sg} (hN : NG τ) (hP : PG τ) (v q : Int32) : ∀ (s : Nat) (x : Int32), VP τ x → an (upd (τ 1) (np τ) v) q s x = an (τ 1) q s x := by
  have hn := hN.1.2
  intro s
  induction s with
  | zero => intro x _; rfl
  | succ s ih =>
    intro x hx
    rcases hx with rfl | ⟨p, hp, rfl⟩
    · rw [an_m1, an_m1]
    · have hv : VP τ (τ 1 p) := by
        rcases hP p hp with e | ⟨k, hk, e⟩
        · exact Or.inl e
        · exact Or.inr ⟨k, by omega, e⟩
      rw [an_s (by omega), an_s (by omega), pk_un (by omega), ih _ hv]
theorem an_stab {τ : Sg} (hN : NG τ) (hP : PG τ) (q : Int32) : ∀ j, j < np τ → ∀ s t, j + 1 ≤ s → j + 1 ≤ t → an (τ 1) q s (nI j) = an (τ 1) q t (nI j) := by
  have hn := hN.1.2
  intro j
  induction j using Nat.strongRecOn with
  | ind j ih =>
    intro hj s t h1 h2
    obtain ⟨s, rfl⟩ : ∃ s', s = s' + 1 := ⟨s - 1, by omega⟩
    obtain ⟨t, rfl⟩ : ∃ s', t = s' + 1 := ⟨t - 1, by omega⟩
    rw [an_s (by omega), an_s (by omega)]
    rcases hP j hj with e | ⟨k, hk, e⟩
    · rw [e, an_m1, an_m1]
    · rw [e, ih k hk (by omega) s t (by omega) (by omega)]
/-- a place more, in both -/
def Pσ (σ : Sg) (n : Nat) (l r : Int32) : Sg := st (st (st σ 9 n l) 10 n r) 1 0 (σ 1 0 + 1)
def Pτ (τ : Sg) (n : Nat) (p l : Int32) : Sg := st (st (st (st τ 0 0 0) 1 n p) 2 n l) 0 2 (τ 0 2 + 1)
theorem II_place {σ τ : Sg} (hI : II σ τ) (hlt : np τ < 24) {p l r : Int32} (hp : VP τ p) (hr : ∀ q, q < 24 → bt r q = (lb τ p q || decide (q = np τ))) : II (Pσ σ (np τ) l r) (Pτ τ (np τ) p l) := by
  obtain ⟨⟨g1, g2, g3, g4, g5, g6, g7, g8, g9⟩, ⟨c1, c2, c3, c4, c5, c6, c7, c8⟩, hpr⟩ := hI
  have e2 : Pτ τ (np τ) p l 0 2 = τ 0 2 + 1 := rfl
  have e1 : Pτ τ (np τ) p l 1 = upd (τ 1) (np τ) p := rfl
  have ep : np (Pτ τ (np τ) p l) = np τ + 1 := by
    show (Pτ τ (np τ) p l 0 2).toNatClampNeg = _
    rw [e2, g1.1.1, nI_1, nI_clamp (by omega)]
  have wk : ∀ {k : Nat} {x : Int32}, (∃ a, a < np τ ∧ x = nI a) → ∃ a, a < np (Pτ τ (np τ) p l) ∧ x = nI a := fun ⟨a, ha, e⟩ => ⟨a, by omega, e⟩
  have hP : PG (Pτ τ (np τ) p l) := by
    intro j hj
    rw [ep] at hj
    rw [e1]
    by_cases z : j = np τ
    · rw [z, pk_us]
      exact hp
    · rw [pk_un z]
      exact g3 j (by omega)
  refine ⟨⟨⟨⟨by rw [e2, ep, g1.1.1, nI_1], by omega⟩, g1.2⟩, ⟨g2.1, ?_⟩, hP, ?_, ?_, ?_, g7, g8, g9⟩, ⟨c1, ⟨?_, ?_, ?_⟩, c3, c4, c5, c6, c7, c8⟩, hpr⟩
  · intro o ho k hk
    obtain ⟨q1, q2, q3⟩ := g2.2 o ho k hk
    refine ⟨q1, q2, ?_⟩
    rcases q3 with ⟨a, b⟩ | q3 | q3
    · exact Or.inl ⟨a, wk (k := 0) b⟩
    · exact Or.inr (Or.inl q3)
    · exact Or.inr (Or.inr q3)
  · intro k hk
    obtain ⟨q1, q2, q3⟩ := g4 k hk
    exact ⟨q1, wk (k := 0) q2, q3⟩
  · intro d hd
    obtain ⟨q1, q2⟩ := g5 d hd
    exact ⟨wk (k := 0) q1, wk (k := 0) q2⟩
  · intro k hk
    exact wk (k := 0) (g6 k hk)
  · show σ 1 0 + 1 = τ 0 2 + 1
    rw [c2.1]
  · intro j hj
    rw [ep] at hj
    show upd (σ 9) (np τ) l j = upd (τ 2) (np τ) l j
    by_cases z : j = np τ
    · rw [z, pk_us, pk_us]
    · rw [pk_un z, pk_un z]
      exact c2.2.1 j (by omega)
  · intro j hj q hq
    rw [ep] at hj
    show bt (upd (σ 10) (np τ) r j) q = an (upd (τ 1) (np τ) p) (nI q) 24 (nI j)
    by_cases z : j = np τ
    · rw [z, pk_us, hr q hq, an_s (by omega), pk_us, an_upd g1 g3 p (nI q) 23 p hp]
      have st : an (τ 1) (nI q) 23 p = lb τ p q := by
        unfold lb
        rcases hp with e | ⟨a, ha, e⟩
        · rw [e, an_m1, an_m1]
        · rw [e]
          exact an_stab g1 g3 (nI q) a ha 23 24 (by omega) (by omega)
      rw [st]
      by_cases y : q = np τ
      · rw [if_pos (by rw [y]), decide_eq_true y, Bool.or_true]
      · rw [if_neg (fun a => y ((nI_eq (by omega) (by omega)).mp a).symm), decide_eq_false y, Bool.or_false]
    · rw [pk_un z, an_upd g1 g3 p (nI q) 24 (nI j) (Or.inr ⟨j, by omega, rfl⟩)]
      exact c2.2.2 j (by omega) q hq
theorem place_core {σ τ : Sg} (y : Nat → Int64) {p1 : Int32} (p2 : Int32) (hI : II σ τ) (hp : VP τ p1) : ∃ (k b9 : Int32) (σ' τ' : Sg) (y' : Nat → Int64),
    ((C_PM_place_10 p1 p2 σ).bind fun r => if r.1 = 0 then (some (0, vp_updL y (Int32.toNatClampNeg 0) (Int32.toInt64 r.2.1), r.2.2)) else (if r.1 = 1 then some (1, y, r.2.2) else (if r.1 = 2 then some (2, y, r.2.2) else (if r.1 = 3 then some (3, y, r.2.2) else (none))))) = some (k, y', σ') ∧
    ((f_MD_within τ p2 1 1000000000).bind fun r8 => if 24 ≤ (τ 0 2) then (C_MD_place_40 p1 p2 0 r8 1 τ) else (C_MD_place_40 p1 p2 1 r8 1 τ)) = some (b9, τ') ∧ f_MD_thrown τ' = some k ∧ (k = 0 → y' (Int32.toNatClampNeg 0) = Int32.toInt64 b9) ∧ II σ' τ' := by
  have hn := hI.1.1.1
  have hs := hI.2.1.2.1.1
  unfold C_PM_place_10 C_MD_place_40
  rcases rng_cases σ τ p2 1 1000000000 with ⟨c, d, _⟩ | ⟨_, _, c, d⟩
  · rw [c, d]
    refine ⟨2, 0, σ, st τ 0 0 2, y, rfl, ?_, rfl, fun h => absurd h (by decide), II_th hI⟩
    simp only [Option.bind_some, goes_2]
    split <;> rfl
  · rw [c, d]
    simp only [Option.bind_some, ↓reduceIte]
    rw [hs, hn.1, show (24 : Int32) = nI 24 from rfl]
    by_cases z : np τ < 24
    · rw [room_yes σ z (by omega), if_neg (nI_ge z (by omega)), goes_0]
      unfold f_Places_add
      rw [hs, hn.1, inB_nI z (by omega), nI_clamp (by omega)]
      simp only [gd_t, lt1]
      have ea : f_Places_around (st σ 9 (np τ) p2) p1 = f_Places_around σ p1 := rfl
      obtain ⟨r, er, hr⟩ := around_eq hI.1.1 hI.2.1.2.1 hp
      rw [ea, er]
      have e2 : st τ 0 0 0 0 2 = nI (np τ) := hn.1
      have e3 : st (st τ 0 0 0) 1 (np τ) p1 0 2 = nI (np τ) := hn.1
      have e4 : st (st (st τ 0 0 0) 1 (np τ) p1) 2 (np τ) p2 0 2 = nI (np τ) := hn.1
      simp only [Option.bind_some]
      rw [e2, nI_clamp (by omega), inB_nI z (by omega), e3, nI_clamp (by omega), inB_nI z (by omega), e4]
      have hII := II_place hI z (l := p2) hp (r := r ||| 1 <<< (nI (np τ) &&& 31)) (fun q hq => by rw [b_or, hr q hq, shl_bit (by omega) (by omega)])
      have eσ : Pσ σ (np τ) p2 (r ||| 1 <<< (nI (np τ) &&& 31)) = st (st (st σ 9 (np τ) p2) 10 (np τ) (r ||| 1 <<< (nI (np τ) &&& 31))) 1 0 (nI (np τ) + 1) := by unfold Pσ; rw [hs, hn.1]
      have eτ : Pτ τ (np τ) p1 p2 = st (st (st (st τ 0 0 0) 1 (np τ) p1) 2 (np τ) p2) 0 2 (nI (np τ) + 1) := by unfold Pτ; rw [hn.1]
      rw [eσ, eτ] at hII
      refine ⟨0, nI (np τ), _, _, _, rfl, ?_, rfl, fun _ => pk_uLs, hII⟩
      show some (nI (np τ) + 1 - 1, _) = _
      rw [Int32.add_sub_cancel]
    · rw [room_no σ (by omega) (by omega), if_pos (nI_le (by omega) (by omega)), goes_3]
      exact ⟨3, 0, σ, st τ 0 0 3, y, rfl, rfl, rfl, fun h => absurd h (by decide), II_th hI⟩
theorem ok_place : Ok_place II := by
  intro σ τ y p1 p2 hI
  unfold h_place f_PM_place f_MD_place
  by_cases z : p1 = -1
  · rw [if_pos z, if_pos z]
    exact place_core y p2 hI (Or.inl z)
  · rw [if_neg z, if_neg z]
    rcases plc_cases hI p1 with ⟨a, b⟩ | ⟨o, ho, e, a, b⟩
    · rw [a, b]
      refine ⟨1, 0, σ, st τ 0 0 1, y, rfl, ?_, rfl, fun h => absurd h (by decide), II_th hI⟩
      simp only [Option.bind_some, ↓reduceIte]
      rw [within_eq]
      unfold C_MD_place_40
      simp only [Option.bind_some, goes_1]
      split <;> rfl
    · rw [a, b]
      exact place_core y p2 hI (Or.inr ⟨o, ho, e⟩)
/-- an object more -/
def Oσ (σ : Sg) (n : Nat) (a b c g : Int32) : Sg := st (st (st (st (st σ 11 n (mn3 a b c)) 13 n (mx3 a b c)) 12 n (a + b + c - mn3 a b c - mx3 a b c)) 14 n g) 2 0 (σ 2 0 + 1)
def Oτ (τ : Sg) (n : Nat) (a b c g : Int32) : Sg := st (st (st (st (st (st τ 0 0 0) 3 (3 * n) a) 3 (3 * n + 1) b) 3 (3 * n + 2) c) 4 n g) 0 3 (τ 0 3 + 1)
theorem II_object {σ τ : Sg} (hI : II σ τ) (hlt : no τ < 20) (a b c g : Int32) : II (Oσ σ (no τ) a b c g) (Oτ τ (no τ) a b c g) := by
  obtain ⟨⟨g1, g2, g3, g4, g5, g6, g7, g8, g9⟩, ⟨c1, c2, c3, c4, c5, c6, c7, c8⟩, hpr⟩ := hI
  have e2 : Oτ τ (no τ) a b c g 0 3 = τ 0 3 + 1 := rfl
  have ep : no (Oτ τ (no τ) a b c g) = no τ + 1 := by
    show (Oτ τ (no τ) a b c g 0 3).toNatClampNeg = _
    rw [e2, g1.2.1.1, nI_1, nI_clamp (by omega)]
  have e3 : Oτ τ (no τ) a b c g 3 = upd (upd (upd (τ 3) (3 * no τ) a) (3 * no τ + 1) b) (3 * no τ + 2) c := rfl
  have wk : ∀ {k : Nat} {x : Int32}, (∃ a, a < no τ ∧ x = nI a) → ∃ a', a' < no (Oτ τ (no τ) a b c g) ∧ x = nI a' := fun ⟨a, ha, e⟩ => ⟨a, by omega, e⟩
  refine ⟨⟨⟨g1.1, ⟨by rw [e2, ep, g1.2.1.1, nI_1], by omega⟩, g1.2.2⟩, ⟨g2.1, ?_⟩, g3, ?_, g5, g6, ?_, g8, g9⟩, ⟨c1, c2, c3, ⟨?_, ?_⟩, ⟨c5.1, c5.2.1, ?_⟩, c6, c7, ?_⟩, hpr⟩
  · intro o ho k hk
    obtain ⟨q1, q2, q3⟩ := g2.2 o ho k hk
    refine ⟨q1, q2, ?_⟩
    rcases q3 with q3 | ⟨a, b⟩ | q3
    · exact Or.inl q3
    · exact Or.inr (Or.inl ⟨a, wk (k := 0) b⟩)
    · exact Or.inr (Or.inr q3)
  · intro k hk
    obtain ⟨q1, q2, q3⟩ := g4 k hk
    exact ⟨wk (k := 0) q1, q2, q3⟩
  · intro o h1 h2
    rw [ep] at h1
    exact g7 o (by omega) h2
  · show σ 2 0 + 1 = τ 0 3 + 1
    rw [c4.1]
  · intro o ho
    rw [ep] at ho
    show upd (σ 14) (no τ) g o = upd (τ 4) (no τ) g o
    by_cases z : o = no τ
    · rw [z, pk_us, pk_us]
    · rw [pk_un z, pk_un z]
      exact c4.2 o (by omega)
  · intro o ho
    rw [ep] at ho
    rw [e3]
    show upd (σ 11) (no τ) (mn3 a b c) o = _ ∧ upd (σ 13) (no τ) (mx3 a b c) o = _ ∧ upd (σ 12) (no τ) (a + b + c - mn3 a b c - mx3 a b c) o = _ - upd (σ 11) (no τ) (mn3 a b c) o - upd (σ 13) (no τ) (mx3 a b c) o
    by_cases z : o = no τ
    · rw [z, pk_us, pk_us, pk_us, pk_us, pk_un (show 3 * no τ + 1 ≠ 3 * no τ + 2 by omega), pk_us, pk_un (show 3 * no τ ≠ 3 * no τ + 2 by omega), pk_un (show 3 * no τ ≠ 3 * no τ + 1 by omega), pk_us]
      exact ⟨rfl, rfl, rfl⟩
    · rw [pk_un z, pk_un z, pk_un z, pk_un (show 3 * o + 1 ≠ 3 * no τ + 2 by omega), pk_un (show 3 * o + 1 ≠ 3 * no τ + 1 by omega), pk_un (show 3 * o + 1 ≠ 3 * no τ by omega), pk_un (show 3 * o ≠ 3 * no τ + 2 by omega), pk_un (show 3 * o ≠ 3 * no τ + 1 by omega), pk_un (show 3 * o ≠ 3 * no τ by omega), pk_un (show 3 * o + 2 ≠ 3 * no τ + 2 by omega), pk_un (show 3 * o + 2 ≠ 3 * no τ + 1 by omega), pk_un (show 3 * o + 2 ≠ 3 * no τ by omega)]
      exact c5.2.2 o (by omega)
  · unfold SA at c8 ⊢
    rw [ep]
    show σ 3 0 = tl (τ 8) (no τ) + τ 8 (no τ)
    rw [g7 (no τ) (Nat.le_refl _) hlt, Int32.add_zero]
    exact c8
theorem x3_0 (n : Nat) : 3 * nI n = nI (3 * n) := pk_mul 3 n
theorem ok_object : Ok_object II := by
  intro σ τ y p1 p2 p3 p4 hI
  have hn := hI.1.1.2.1
  have hs := hI.2.1.2.2.2.1.1
  unfold h_object f_PM_object f_MD_object
  rw [size_eq, size_eq, size_eq]
  have no1 : C_MD_object_51 p1 p2 p3 p4 1 τ = some (0, st τ 0 0 1) := rfl
  rcases rng_cases σ τ p1 1 10000 with ⟨a1, b1, _⟩ | ⟨_, _, a1, b1⟩
  · rw [a1, b1]
    exact ⟨1, 0, σ, st τ 0 0 1, y, rfl, rfl, rfl, fun h => absurd h (by decide), II_th hI⟩
  rw [a1, b1]
  simp only [Option.bind_some, ↓reduceIte]
  rw [if_neg (show ¬ (1 : Int32) = 0 by decide)]
  rcases rng_cases σ τ p2 1 10000 with ⟨a1, b1, _⟩ | ⟨_, _, a1, b1⟩
  · rw [a1, b1]
    exact ⟨1, 0, σ, st τ 0 0 1, y, rfl, rfl, rfl, fun h => absurd h (by decide), II_th hI⟩
  rw [a1, b1]
  simp only [Option.bind_some, ↓reduceIte]
  rw [if_neg (show ¬ (1 : Int32) = 0 by decide)]
  rcases rng_cases σ τ p3 1 10000 with ⟨a1, b1, _⟩ | ⟨_, _, a1, b1⟩
  · rw [a1, b1]
    exact ⟨1, 0, σ, st τ 0 0 1, y, rfl, rfl, rfl, fun h => absurd h (by decide), II_th hI⟩
  rw [a1, b1]
  simp only [Option.bind_some, ↓reduceIte]
  rw [if_neg (show ¬ (1 : Int32) = 0 by decide)]
  rcases rng_cases σ τ p4 1 1000000 with ⟨a1, b1, _⟩ | ⟨_, _, a1, b1⟩
  · rw [a1, b1]
    exact ⟨1, 0, σ, st τ 0 0 1, y, rfl, rfl, rfl, fun h => absurd h (by decide), II_th hI⟩
  rw [a1, b1]
  simp only [Option.bind_some, ↓reduceIte]
  rw [if_neg (show ¬ (1 : Int32) = 0 by decide), hs, hn.1, show (20 : Int32) = nI 20 from rfl]
  by_cases z : no τ < 20
  · rw [room_yes σ z (by omega), if_neg (fun a => by have := (nI_eq (by omega) (by omega)).mp a; omega)]
    simp only [Option.bind_some, ↓reduceIte]
    unfold f_Things_add C_MD_object_51
    rw [hs, hn.1, inB_nI z (by omega), nI_clamp (by omega)]
    simp only [gd_t, lt1]
    have e0 : st τ 0 0 0 0 0 = 0 := rfl
    have e1 : st τ 0 0 0 0 3 = nI (no τ) := hn.1
    have e2 : ∀ j v, st (st τ 0 0 0) 3 j v 0 3 = nI (no τ) := fun j v => hn.1
    have e3 : ∀ j v j2 v2, st (st (st τ 0 0 0) 3 j v) 3 j2 v2 0 3 = nI (no τ) := fun j v j2 v2 => hn.1
    have e4 : ∀ j v j2 v2 j3 v3, st (st (st (st τ 0 0 0) 3 j v) 3 j2 v2) 3 j3 v3 0 3 = nI (no τ) := fun j v j2 v2 j3 v3 => hn.1
    have e5 : ∀ j v j2 v2 j3 v3 j4 v4, st (st (st (st (st τ 0 0 0) 3 j v) 3 j2 v2) 3 j3 v3) 4 j4 v4 0 3 = nI (no τ) := fun j v j2 v2 j3 v3 j4 v4 => hn.1
    rw [if_pos e0]
    simp only [e1, e2, e3, e4, e5, x3_0]
    have f1 : nI (3 * no τ) + 1 = nI (3 * no τ + 1) := nI_1 _
    have f2 : nI (3 * no τ) + 2 = nI (3 * no τ + 2) := nI_add _ 2
    rw [f1, f2, inB_nI (by omega) (by omega), inB_nI (by omega) (by omega), inB_nI (by omega) (by omega), inB_nI (by omega) (by omega), nI_clamp (by omega), nI_clamp (by omega), nI_clamp (by omega), nI_clamp (by omega)]
    simp only [gd_t]
    have hII := II_object hI z p1 p2 p3 p4
    have eσ : Oσ σ (no τ) p1 p2 p3 p4 = st (st (st (st (st σ 11 (no τ) (mn3 p1 p2 p3)) 13 (no τ) (mx3 p1 p2 p3)) 12 (no τ) (p1 + p2 + p3 - mn3 p1 p2 p3 - mx3 p1 p2 p3)) 14 (no τ) p4) 2 0 (nI (no τ) + 1) := by unfold Oσ; rw [hs, hn.1]
    have eτ : Oτ τ (no τ) p1 p2 p3 p4 = st (st (st (st (st (st τ 0 0 0) 3 (3 * no τ) p1) 3 (3 * no τ + 1) p2) 3 (3 * no τ + 2) p3) 4 (no τ) p4) 0 3 (nI (no τ) + 1) := by unfold Oτ; rw [hn.1]
    rw [eσ, eτ] at hII
    have m11 : st (st σ 11 (no τ) (mn3 p1 p2 p3)) 13 (no τ) (mx3 p1 p2 p3) 11 (no τ) = mn3 p1 p2 p3 := by
      show upd (σ 11) (no τ) _ (no τ) = _
      rw [pk_us]
    have m13 : st (st σ 11 (no τ) (mn3 p1 p2 p3)) 13 (no τ) (mx3 p1 p2 p3) 13 (no τ) = mx3 p1 p2 p3 := by
      show upd (σ 13) (no τ) _ (no τ) = _
      rw [pk_us]
    refine ⟨0, nI (no τ), _, _, vp_updL y (Int32.toNatClampNeg 0) (Int32.toInt64 (nI (no τ))), ?_, ?_, rfl, fun _ => pk_uLs, hII⟩
    · show some ((0 : Int32), vp_updL y (Int32.toNatClampNeg 0) (Int32.toInt64 (nI (no τ))), st (st (st (st (st σ 11 (no τ) (mn3 p1 p2 p3)) 13 (no τ) (mx3 p1 p2 p3)) 12 (no τ) (p1 + p2 + p3 - st (st σ 11 (no τ) (mn3 p1 p2 p3)) 13 (no τ) (mx3 p1 p2 p3) 11 (no τ) - st (st σ 11 (no τ) (mn3 p1 p2 p3)) 13 (no τ) (mx3 p1 p2 p3) 13 (no τ))) 14 (no τ) p4) 2 0 (nI (no τ) + 1)) = _
      rw [m11, m13]
    · show some (nI (no τ) + 1 - 1, _) = _
      rw [Int32.add_sub_cancel]
  · have e : no τ = 20 := by omega
    rw [room_no σ (by omega) (by omega), e, if_pos rfl]
    exact ⟨2, 0, σ, st τ 0 0 2, y, rfl, rfl, rfl, fun h => absurd h (by decide), II_th hI⟩
