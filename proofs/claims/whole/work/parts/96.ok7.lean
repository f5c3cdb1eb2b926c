/-! last -/
theorem dec_i {m : Int32} (h : ¬ m < 0) : (m - 1).toInt = m.toInt - 1 := by
  obtain ⟨j, hj, rfl⟩ := nI_of h
  cases j with
  | zero => decide
  | succ j => rw [nI_pred, nI_toInt (by omega), nI_toInt (by omega)]; omega
theorem i_0 : (0 : Int32).toInt = 0 := by decide
theorem i_m1 : (-1 : Int32).toInt = -1 := by decide
def LaS (τ : Sg) (o : Nat) (h v : Int32) : Prop :=
  (v = -1 ∧ ∀ h', ¬ h' < 0 → h' ≤ h → AT τ h' o = -1) ∨ (v ≠ -1 ∧ ∃ h', ¬ h' < 0 ∧ h' ≤ h ∧ AT τ h' o = v ∧ ∀ h'', h' < h'' → h'' ≤ h → AT τ h'' o = -1)
theorem LaS_eq {τ : Sg} {o : Nat} {h v w : Int32} (a : LaS τ o h v) (b : LaS τ o h w) : v = w := by
  rcases a with ⟨a1, a2⟩ | ⟨a1, x, a2, a3, a4, a5⟩
  · rcases b with ⟨b1, _⟩ | ⟨b1, x', b2, b3, b4, _⟩
    · rw [a1, b1]
    · exact absurd (b4.symm.trans (a2 x' b2 b3)) b1
  · rcases b with ⟨b1, b2⟩ | ⟨b1, x', b2, b3, b4, b5⟩
    · exact absurd (a4.symm.trans (b2 x a2 a3)) a1
    · by_cases z1 : x < x'
      · exact absurd (b4.symm.trans (a5 x' z1 b3)) b1
      · by_cases z2 : x' < x
        · exact absurd (a4.symm.trans (b5 x z2 a3)) a1
        · have : x = x' := by
            apply Int32.toInt_inj.mp
            rw [Int32.lt_iff_toInt_lt] at z1 z2
            omega
          rw [← a4, ← b4, this]
theorem LaS_neg {τ : Sg} {o : Nat} {h : Int32} (hh : h < 0) : LaS τ o h (-1) := by
  refine Or.inl ⟨rfl, fun h' a b => absurd hh ?_⟩
  rw [Int32.lt_iff_toInt_lt] at a ⊢
  rw [Int32.le_iff_toInt_le] at b
  omega
theorem LaS_here {τ : Sg} {o : Nat} {h : Int32} (hh : ¬ h < 0) (hv : AT τ h o ≠ -1) : LaS τ o h (AT τ h o) :=
  Or.inr ⟨hv, h, hh, Int32.le_refl h, rfl, fun h'' a b => by
    exfalso
    rw [Int32.lt_iff_toInt_lt] at a
    rw [Int32.le_iff_toInt_le] at b
    omega⟩
theorem LaS_none {τ : Sg} {o : Nat} {h : Int32} (he : ∀ h', -1 ≤ h' → h' ≤ h → AT τ h' o = -1) : LaS τ o h (-1) := by
  refine Or.inl ⟨rfl, fun h' a b => he h' ?_ b⟩
  rw [Int32.lt_iff_toInt_lt] at a
  rw [Int32.le_iff_toInt_le, i_m1]
  rw [i_0] at a
  omega
theorem LaS_down {τ : Sg} {o : Nat} {h s v : Int32} (hs : ¬ s < 0) (hsh : s ≤ h) (he : ∀ h', s ≤ h' → h' ≤ h → AT τ h' o = -1) (a : LaS τ o (s - 1) v) : LaS τ o h v := by
  have d := dec_i hs
  have split : ∀ h', ¬ h' ≤ s - 1 → s ≤ h' := by
    intro h' q
    rw [Int32.le_iff_toInt_le] at q ⊢
    omega
  rcases a with ⟨a1, a2⟩ | ⟨a1, x, a2, a3, a4, a5⟩
  · refine Or.inl ⟨a1, fun h' b c => ?_⟩
    by_cases z : h' ≤ s - 1
    · exact a2 h' b z
    · exact he h' (split h' z) c
  · refine Or.inr ⟨a1, x, a2, ?_, a4, fun h'' b c => ?_⟩
    · rw [Int32.le_iff_toInt_le] at a3 hsh ⊢
      omega
    · by_cases z : h'' ≤ s - 1
      · exact a5 h'' b z
      · exact he h'' (split h'' z) c
def uR (τ : Sg) (j : Nat) : Bool := decide (j % 40 < mm τ (j / 40))
def cH (τ : Sg) (h : Int32) : Nat := cnt (fun j => uR τ j && !decide (h < τ 9 j)) 800
theorem uR_of {τ : Sg} (hG : RG τ) {o k : Nat} (ho : o < 20) (hk : k < mm τ o) : uR τ (40 * o + k) = true ∧ 40 * o + k < 800 := by
  have a := (hG.1 o ho).2
  refine ⟨?_, by omega⟩
  unfold uR
  rw [show (40 * o + k) % 40 = k by omega, show (40 * o + k) / 40 = o by omega]
  exact decide_eq_true hk
theorem cH_lt {τ : Sg} (hG : RG τ) {h s : Int32} {j : Nat} (hj : j < 800) (hu : uR τ j = true) (hs : ¬ s < 0) (e : τ 9 j = s) (hsh : s ≤ h) : cH τ (s - 1) < cH τ h := by
  have d := dec_i hs
  unfold cH
  refine cnt_lt (j := j) ?_ ?_ 800 hj ?_
  · show (uR τ j && !decide (h < τ 9 j)) = true
    rw [hu, e, decide_eq_false (by rw [Int32.not_lt]; exact hsh)]
    rfl
  · show (uR τ j && !decide (s - 1 < τ 9 j)) = false
    rw [e, decide_eq_true (by rw [Int32.lt_iff_toInt_lt]; omega)]
    simp
  · intro i _ q
    have q : (uR τ i && !decide (s - 1 < τ 9 i)) = true := q
    rw [Bool.and_eq_true] at q
    show (uR τ i && !decide (h < τ 9 i)) = true
    have q2 : ¬ s - 1 < τ 9 i := by simpa using q.2
    rw [q.1, decide_eq_false (show ¬ h < τ 9 i by
      rw [Int32.lt_iff_toInt_lt] at q2 ⊢
      rw [Int32.le_iff_toInt_le] at hsh
      omega)]
    rfl
theorem last_c {σ τ : Sg} (hI : II σ τ) {o : Nat} (ho : o < 20) : ∀ (c : Nat) (h : Int32) (i N : Nat), cH τ h ≤ c → i + c ≤ 800 → c + 2 ≤ N → ∃ v, L_PM_last_12 σ N (nI o) h (nI i) = some (0, v) ∧ LaS τ o h v := by
  obtain ⟨g1, g2, g3, g4, g5, g6, g7, g8, g9⟩ := id hI.1
  have c1 := hI.2.1.1
  intro c
  induction c using Nat.strongRecOn with
  | ind c ih =>
    intro h i N hc hi hN
    obtain ⟨N, rfl⟩ : ∃ N', N = N' + 1 := ⟨N - 1, by omega⟩
    have hB : L_PM_last_12 σ (N + 1) (nI o) h (nI i) = B_PM_last_12 σ (L_PM_last_12 σ N) (nI o) h (nI i) := rfl
    have h800 : ¬ (800 : Int32) < nI i := nI_nlt (a := 800) (by omega) (by omega)
    rw [hB]
    unfold B_PM_last_12
    rw [if_neg h800]
    by_cases z0 : h < 0
    · rw [if_pos z0]
      exact ⟨-1, rfl, LaS_neg z0⟩
    rw [if_neg z0, placeAt_eq g1 g2 c1 h ho, Option.bind_some]
    by_cases z1 : AT τ h o = -1
    · rw [if_pos z1]
      obtain ⟨s, e, hs, hsame⟩ := since_eq g1 g2 c1 h ho
      rw [e, Option.bind_some, nI_1]
      rcases hs with hs | ⟨o', k', ho', hk', e', hsh⟩
      · refine ⟨-1, ?_, LaS_none (fun h' a b => by rw [hsame h' (by rw [hs]; exact a) b, z1])⟩
        obtain ⟨N, rfl⟩ : ∃ N', N = N' + 1 := ⟨N - 1, by omega⟩
        rw [hs]
        show B_PM_last_12 σ (L_PM_last_12 σ N) (nI o) (-1 - 1) (nI (i + 1)) = _
        unfold B_PM_last_12
        rw [if_pos (show (-1 - 1 : Int32) < 0 by decide)]
        split <;> rfl
      · have hs0 : ¬ s < 0 := by rw [← e']; exact (g2.2 o' ho' k' hk').1
        obtain ⟨u1, u2⟩ := uR_of g2 ho' hk'
        have hl := cH_lt g2 u2 u1 hs0 e' hsh
        obtain ⟨v, i1, i2⟩ := ih (c - 1) (by omega) (s - 1) (i + 1) N (by omega) (by omega) (by omega)
        exact ⟨v, i1, LaS_down hs0 hsh (fun h' a b => by rw [hsame h' a b, z1]) i2⟩
    · rw [if_neg z1]
      exact ⟨_, rfl, LaS_here z0 z1⟩
/-- hours between which no row lies -/
theorem lr_gap {hr : Nat → Int32} {b : Nat} {h h' : Int32} : ∀ {n : Nat}, (∀ k, k < n → (h < hr (b + k) ↔ h' < hr (b + k))) → lr hr b h n = lr hr b h' n := by
  intro n
  induction n with
  | zero => intro _; rfl
  | succ n ih =>
    intro e
    simp only [lr]
    rw [ih (fun k hk => e k (by omega))]
    by_cases z : h < hr (b + n)
    · rw [if_pos z, if_pos ((e n (by omega)).mp z)]
    · rw [if_neg z, if_neg (fun q => z ((e n (by omega)).mpr q))]
theorem AT_gap {τ : Sg} (hN : NG τ) (hG : RG τ) {h h' : Int32} (e : ∀ o k, o < 20 → k < mm τ o → (h' < τ 9 (40 * o + k) ↔ h < τ 9 (40 * o + k))) {o : Nat} (ho : o < 20) : AT τ h' o = AT τ h o := by
  unfold AT
  rw [wk_congr (nd_lt hN hG) (nd' := nd τ h) (fun o ho => by
    have q := lr_gap (hr := τ 9) (b := 40 * o) (n := mm τ o) (fun k hk => e o k ho hk)
    cases f : lr (τ 9) (40 * o) h (mm τ o) with
    | none => rw [nd_n f, nd_n (q.trans f)]
    | some j => rw [nd_s f, nd_s (q.trans f)]) 20 o ho]
def fnL (K : Int32 → Int32 → Int32 → Sg → Option (Int32 × Sg)) (τ : Sg) (o : Nat) (m : Int32) : Option (Int32 × Sg) :=
  if (m - 1) < 0 then (K (nI o) (m - 1) ((-1)) τ) else ((f_MD_at τ (nI o) (m - 1)).bind fun r5 => K (nI o) (m - 1) r5 τ)
theorem last_i {τ : Sg} (hG : RG τ) (K : Int32 → Int32 → Int32 → Sg → Option (Int32 × Sg)) {o : Nat} (h : Int32) : ∀ (c k N : Nat) (x4 : Int32), k + c = 800 → c < N →
    ∃ m, L_MD_last_43 K N (nI o) h x4 (nI k) τ = fnL K τ o m ∧ (m = x4 ∨ ∃ j, j < 800 ∧ uR τ j = true ∧ τ 9 j = m ∧ m ≤ h) ∧ x4 ≤ m ∧ ∀ j, k ≤ j → j < 800 → uR τ j = true → ¬ h < τ 9 j → τ 9 j ≤ m := by
  intro c
  induction c with
  | zero =>
    intro k N x4 hk hc
    obtain ⟨N, rfl⟩ : ∃ N', N = N' + 1 := ⟨N - 1, by omega⟩
    refine ⟨x4, ?_, Or.inl rfl, Int32.le_refl x4, fun j a b => absurd b (by omega)⟩
    show B_MD_last_43 K (L_MD_last_43 K N) (nI o) h x4 (nI k) τ = _
    unfold B_MD_last_43
    rw [show k = 800 by omega, if_pos (by decide)]
    rfl
  | succ c ih =>
    intro k N x4 hk hc
    obtain ⟨N, rfl⟩ : ∃ N', N = N' + 1 := ⟨N - 1, by omega⟩
    have hB : L_MD_last_43 K (N + 1) (nI o) h x4 (nI k) τ = B_MD_last_43 K (L_MD_last_43 K N) (nI o) h x4 (nI k) τ := rfl
    have h800 : ¬ (800 : Int32) ≤ nI k := nI_ge (b := 800) (by omega) (by omega)
    have hd : nI k / 40 = nI (k / 40) := pk_div (d := 40) (by omega) (by omega) (by omega)
    have hr : nI k - nI (k / 40) * 40 = nI (k % 40) := by
      have := pk_rem (a := k) (d := 40) (by omega) (by omega) (by omega)
      rw [← hd]
      exact this
    have m1 := hG.1 (k / 40) (by omega)
    have skip : ∀ x4', (x4' = x4 ∨ (uR τ k = true ∧ τ 9 k = x4' ∧ x4' ≤ h)) → x4 ≤ x4' → (uR τ k = true → ¬ h < τ 9 k → τ 9 k ≤ x4') → ∃ m, L_MD_last_43 K N (nI o) h x4' (nI (k + 1)) τ = fnL K τ o m ∧ (m = x4 ∨ ∃ j, j < 800 ∧ uR τ j = true ∧ τ 9 j = m ∧ m ≤ h) ∧ x4 ≤ m ∧ ∀ j, k ≤ j → j < 800 → uR τ j = true → ¬ h < τ 9 j → τ 9 j ≤ m := by
      intro x4' s1 s2 s3
      obtain ⟨m, i1, i2, i3, i4⟩ := ih (k + 1) N x4' (by omega) (by omega)
      refine ⟨m, i1, ?_, Int32.le_trans s2 i3, fun j a b u w => ?_⟩
      · rcases i2 with i2 | i2
        · rcases s1 with s1 | ⟨s1, s4, s5⟩
          · exact Or.inl (i2.trans s1)
          · exact Or.inr ⟨k, by omega, s1, by rw [i2]; exact s4, by rw [i2]; exact s5⟩
        · exact Or.inr i2
      · by_cases z : j = k
        · rw [z] at u w ⊢
          exact Int32.le_trans (s3 u w) i3
        · exact i4 j (by omega) b u w
    rw [hB]
    unfold B_MD_last_43 C_MD_last_85
    rw [if_neg h800, hd, hr, inB_nI (by omega) (by omega), nI_clamp (by omega), m1.1, inB_nI (by omega) (by omega), nI_clamp (by omega), nI_1]
    simp only [gd_t, lt1]
    by_cases z1 : k % 40 < mm τ (k / 40)
    · have hu : uR τ k = true := decide_eq_true z1
      rw [if_neg (nI_ge z1 (by omega))]
      by_cases z2 : h < τ 9 k
      · rw [if_pos z2, if_pos trivial]
        exact skip x4 (Or.inl rfl) (Int32.le_refl x4) (fun _ w => absurd z2 w)
      · rw [if_neg z2, if_neg (by decide)]
        by_cases z3 : τ 9 k ≤ x4
        · rw [if_pos z3]
          exact skip x4 (Or.inl rfl) (Int32.le_refl x4) (fun _ _ => z3)
        · rw [if_neg z3]
          refine skip (τ 9 k) (Or.inr ⟨hu, rfl, by rw [← Int32.not_lt]; exact z2⟩) ?_ (fun _ _ => Int32.le_refl _)
          rw [Int32.not_le] at z3
          exact Int32.le_of_lt z3
    · rw [if_pos (nI_le (by omega) (by omega)), if_pos trivial]
      exact skip x4 (Or.inl rfl) (Int32.le_refl x4) (fun u _ => absurd (of_decide_eq_true u) z1)
theorem last_r {τ : Sg} (hG : GG τ) {o : Nat} (ho : o < 20) : ∀ (c : Nat) (h v0 : Int32) (N : Nat), cH τ h ≤ c → c + 2 ≤ N → (h < 0 → v0 = -1) → (¬ h < 0 → v0 = AT τ h o) → ∃ v, L_MD_last_28 N (nI o) h v0 τ = some (v, τ) ∧ LaS τ o h v := by
  obtain ⟨g1, g2, g3, g4, g5, g6, g7, g8, g9⟩ := id hG
  intro c
  induction c using Nat.strongRecOn with
  | ind c ih =>
    intro h v0 N hc hN e0 e1
    obtain ⟨N, rfl⟩ : ∃ N', N = N' + 1 := ⟨N - 1, by omega⟩
    have hB : L_MD_last_28 (N + 1) (nI o) h v0 τ = B_MD_last_28 (L_MD_last_28 N) (nI o) h v0 τ := rfl
    rw [hB]
    unfold B_MD_last_28
    by_cases z0 : h < 0
    · rw [if_pos (e0 z0), if_pos z0, e0 z0]
      exact ⟨-1, rfl, LaS_neg z0⟩
    by_cases z1 : AT τ h o = -1
    · rw [if_pos ((e1 z0).trans z1), if_neg z0]
      obtain ⟨m, i1, i2, i3, i4⟩ := last_i g2 (L_MD_last_28 N) (o := o) h 800 0 fuel (-1) (by omega) (by unfold fuel; omega)
      rw [show (0 : Int32) = nI 0 from rfl, i1]
      have hsame : ∀ h', m ≤ h' → h' ≤ h → AT τ h' o = -1 := by
        intro h' a b
        rw [← z1]
        refine AT_gap g1 g2 (fun o' k' ho' hk' => ?_) ho
        obtain ⟨u1, u2⟩ := uR_of g2 ho' hk'
        have q := i4 (40 * o' + k') (by omega) u2 u1
        constructor
        · intro w
          by_cases z : h < τ 9 (40 * o' + k')
          · exact z
          · have q := q z
            exfalso
            rw [Int32.le_iff_toInt_le] at q a
            rw [Int32.lt_iff_toInt_lt] at w
            omega
        · intro w
          rw [Int32.le_iff_toInt_le] at b
          rw [Int32.lt_iff_toInt_lt] at w ⊢
          omega
      unfold fnL
      rcases i2 with i2 | ⟨j, j1, j2, j3, j4⟩
      · refine ⟨-1, ?_, LaS_none (fun h' a b => hsame h' (by rw [i2]; exact a) b)⟩
        obtain ⟨N, rfl⟩ : ∃ N', N = N' + 1 := ⟨N - 1, by omega⟩
        rw [i2, if_pos (by decide)]
        show B_MD_last_28 (L_MD_last_28 N) (nI o) (-1 - 1) (-1) τ = _
        unfold B_MD_last_28
        rw [if_pos rfl, if_pos (by decide)]
      · have hm0 : ¬ m < 0 := by
          have q := (g2.2 (j / 40) (by omega) (j % 40) (of_decide_eq_true j2)).1
          rw [show 40 * (j / 40) + j % 40 = j by omega, j3] at q
          exact q
        have hl := cH_lt g2 j1 j2 hm0 j3 j4
        by_cases z2 : m - 1 < 0
        · rw [if_pos z2]
          obtain ⟨v, k1, k2⟩ := ih (c - 1) (by omega) (m - 1) (-1) N (by omega) (by omega) (fun _ => rfl) (fun q => absurd z2 q)
          exact ⟨v, k1, LaS_down hm0 j4 hsame k2⟩
        · rw [if_neg z2, at_eq g1 g2 _ ho, AQ_AT g1 g2 g9 _ ho, Option.bind_some]
          obtain ⟨v, k1, k2⟩ := ih (c - 1) (by omega) (m - 1) (AT τ (m - 1) o) N (by omega) (by omega) (fun q => absurd q z2) (fun _ => rfl)
          exact ⟨v, k1, LaS_down hm0 j4 hsame k2⟩
    · rw [e1 z0, if_neg z1]
      exact ⟨_, rfl, LaS_here z0 z1⟩
theorem ok_last : Ok_last II := by
  intro σ τ y p1 hI
  have hn := hI.1.1.2.1.2
  unfold h_last f_PM_last f_MD_last
  rcases obj_cases hI p1 with ⟨a, b⟩ | ⟨o, ho, e, a, b⟩
  · rw [a, b]
    exact ⟨1, 0, σ, st τ 0 0 1, y, rfl, rfl, rfl, fun h => absurd h (by decide), II_th hI⟩
  · rw [a, b, e]
    simp only [Option.bind_some, goes_0, ↓reduceIte]
    have hI0 : II σ (st τ 0 0 0) := II_th hI
    have cl : cH (st τ 0 0 0) (st τ 0 0 0 0 1) ≤ 800 := cnt_le _ 800
    obtain ⟨v, e1, h1⟩ := last_c hI0 (o := o) (by omega) 800 (σ 0 0) 0 fuel (by rw [hI0.2.2]; exact cl) (by omega) (by unfold fuel; omega)
    obtain ⟨w, e2, h2⟩ := last_r hI0.1 (o := o) (by omega) 800 (st τ 0 0 0 0 1) (AT (st τ 0 0 0) (st τ 0 0 0 0 1) o) fuel cl (by unfold fuel; omega) (fun q => absurd q hI0.1.2.2.2.2.2.2.2.1) (fun _ => rfl)
    rw [hI0.2.2] at h1
    have evw : v = w := LaS_eq h1 h2
    rw [if_neg (show ¬ (1 : Int32) = 0 by decide), at_eq hI0.1.1 hI0.1.2.1 _ (by omega), AQ_AT hI0.1.1 hI0.1.2.1 hI0.1.2.2.2.2.2.2.2.2 _ (by omega), Option.bind_some, e2, show (0 : Int32) = nI 0 from rfl, e1]
    refine ⟨0, w, σ, st τ 0 0 0, _, rfl, rfl, rfl, fun _ => ?_, hI0⟩
    rw [evw]
    exact pk_uLs
