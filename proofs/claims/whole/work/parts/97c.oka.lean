/-! way: the reference's distances -/
def w16 (τ : Sg) (F : Nat → Int32) : Sg := fun q => if q = 16 then F else τ q
theorem w16_16 (τ : Sg) (F : Nat → Int32) : w16 τ F 16 = F := if_pos rfl
theorem w16_n (τ : Sg) (F : Nat → Int32) {q : Nat} (h : q ≠ 16) : w16 τ F q = τ q := if_neg h
theorem w16_st (τ : Sg) (F : Nat → Int32) (j : Nat) (x : Int32) : st (w16 τ F) 16 j x = w16 τ (upd F j x) := by
  funext q
  unfold st
  by_cases h : q = 16
  · rw [if_pos h, w16_16, h, w16_16]
  · rw [if_neg h, w16_n τ F h, w16_n τ _ h]
theorem w16_id (τ : Sg) : w16 τ (τ 16) = τ := by
  funext q
  by_cases h : q = 16
  · rw [h, w16_16]
  · rw [w16_n _ _ h]
theorem II_w16 {σ τ : Sg} {F : Nat → Int32} (h : II σ τ) : II σ (w16 τ F) := h
theorem upd_id (F : Nat → Int32) (j : Nat) : upd F j (F j) = F := by
  funext p
  by_cases z : p = j
  · rw [z, pk_us]
  · rw [pk_un z]
def uV (V : Nat → Nat) (j x p : Nat) : Nat := if p = j then x else V p
def FaV (F : Nat → Int32) (V : Nat → Nat) : Prop := ∀ p, p < 24 → F p = nI (V p)
theorem FaV_u {F : Nat → Int32} {V : Nat → Nat} (h : FaV F V) (j x : Nat) : FaV (upd F j (nI x)) (uV V j x) := by
  intro p hp
  unfold uV
  by_cases z : p = j
  · rw [z, pk_us, if_pos rfl]
  · rw [pk_un z, if_neg z]
    exact h p hp
def rx (V : Nat → Nat) (a b p : Nat) : Nat := uV V b (if V b ≤ V a + 1 then V b else V a + 1) p
theorem rx_le (V : Nat → Nat) (a b p : Nat) : rx V a b p ≤ V p := by
  unfold rx uV
  by_cases z : p = b
  · rw [if_pos z, z]
    split <;> omega
  · rw [if_neg z]
    exact Nat.le_refl _
theorem rx_b (V : Nat → Nat) (a b : Nat) : rx V a b b ≤ V a + 1 := by
  unfold rx uV
  rw [if_pos rfl]
  split <;> omega
def SoD (τ : Sg) (pz : Nat → Bool) (x : Int32) (V : Nat → Nat) : Prop := ∀ p, p < 24 → V p ≤ 99 ∧ (V p = 99 ∨ rs τ pz x (V p) p = true)
def CoM (τ : Sg) (pz : Nat → Bool) (x : Int32) (r : Nat) (V : Nat → Nat) : Prop := ∀ p, p < 24 → ∀ s, s ≤ r → rs τ pz x s p = true → V p ≤ s
def DoN (τ : Sg) (pz : Nat → Bool) (x : Int32) (r k : Nat) (V : Nat → Nat) : Prop := ∀ d, d < k → pz d = true → (rs τ pz x r (ea τ d) = true → V (eb τ d) ≤ r + 1) ∧ (rs τ pz x r (eb τ d) = true → V (ea τ d) ≤ r + 1)
theorem rx_SoD {τ : Sg} {pz : Nat → Bool} {x : Int32} {V : Nat → Nat} (h : SoD τ pz x V) {a b : Nat} (ha : a < 24) (lk : ∀ s, rs τ pz x s a = true → rs τ pz x (s + 1) b = true) : SoD τ pz x (rx V a b) := by
  intro p hp
  by_cases z : p = b
  · subst z
    unfold rx uV
    rw [if_pos rfl]
    by_cases y : V p ≤ V a + 1
    · rw [if_pos y]
      exact h p hp
    · rw [if_neg y]
      obtain ⟨h1, h2⟩ := h a ha
      obtain ⟨h3, _⟩ := h p hp
      refine ⟨by omega, Or.inr (lk _ ?_)⟩
      rcases h2 with h2 | h2
      · omega
      · exact h2
  · have e : rx V a b p = V p := by
      unfold rx uV
      rw [if_neg z]
    rw [e]
    exact h p hp
theorem c175 {τ : Sg} {F : Nat → Int32} {V : Nat → Nat} (hF : FaV F V) (hV : ∀ p, p < 24 → V p ≤ 99) {a b : Nat} (ha : a < 24) (hb : b < 24) (K : Int32 → Int32 → Int32 → Int32 → Sg → Option (Int32 × Sg)) (k90 : Int32 → Int32 → Int32 → Int32 → Int32 → Sg → Option (Int32 × Sg)) (x1 x2 x3 x4 x5 : Int32) {v : Nat} (hv : v ≤ 100) :
    ∃ F', C_MD_way_175 K k90 x1 x2 x3 x4 x5 1 (nI a) (nI b) (nI v) (nI b) (w16 τ F) = k90 x1 x2 x3 x4 (x5 + 1) (w16 τ F') ∧ FaV F' (rx (uV V b v) b a) := by
  have h1 : FaV (upd F b (nI v)) (uV V b v) := FaV_u hF b v
  have hV1 : ∀ p, p < 24 → uV V b v p ≤ 100 := by
    intro p hp
    have := hV p hp
    unfold uV
    split <;> omega
  unfold C_MD_way_175
  rw [inB_nI ha (by omega), inB_nI hb (by omega), nI_clamp (n := a) (by omega), nI_clamp (n := b) (by omega)]
  simp only [gd_t, lt1]
  rw [if_neg (show ¬ (1 : Int32) = 0 by decide), w16_st, w16_16]
  generalize upd F b (nI v) = F1 at h1
  generalize uV V b v = V1 at h1 hV1
  have va := hV1 a ha
  have vb := hV1 b hb
  rw [h1 a ha, h1 b hb, nI_1]
  by_cases y : V1 a ≤ V1 b + 1
  · have e : rx V1 b a = uV V1 a (V1 a) := by
      funext p
      unfold rx
      rw [if_pos y]
    rw [if_pos ((nI_leI (by omega) (by omega)).mpr y), w16_st, e]
    exact ⟨_, rfl, FaV_u h1 a _⟩
  · have e : rx V1 b a = uV V1 a (V1 b + 1) := by
      funext p
      unfold rx
      rw [if_neg y]
    rw [if_neg (fun q => y ((nI_leI (by omega) (by omega)).mp q)), w16_st, e]
    exact ⟨_, rfl, FaV_u h1 a _⟩
theorem c175_0 {τ : Sg} {F : Nat → Int32} {a b : Nat} (ha : a < 24) (hb : b < 24) (K : Int32 → Int32 → Int32 → Int32 → Sg → Option (Int32 × Sg)) (k90 : Int32 → Int32 → Int32 → Int32 → Int32 → Sg → Option (Int32 × Sg)) (x1 x2 x3 x4 x5 : Int32) :
    C_MD_way_175 K k90 x1 x2 x3 x4 x5 0 (nI a) (nI b) (F b) (nI b) (w16 τ F) = k90 x1 x2 x3 x4 (x5 + 1) (w16 τ F) := by
  unfold C_MD_way_175
  rw [inB_nI ha (by omega), inB_nI hb (by omega), nI_clamp (n := a) (by omega), nI_clamp (n := b) (by omega)]
  simp only [gd_t, lt1]
  rw [if_pos trivial, w16_st, upd_id, w16_16, w16_st, upd_id]
theorem relax_L {σ τ : Sg} (hI : II σ τ) {o : Nat} (ho : o < no τ) {x2 x : Int32} {K : Int32 → Int32 → Int32 → Int32 → Sg → Option (Int32 × Sg)} {r : Nat} : ∀ (c k N : Nat) (F : Nat → Int32) (V : Nat → Nat), k + c = ndr τ → c < N → FaV F V → SoD τ (PS σ τ o) x V → CoM τ (PS σ τ o) x r V → DoN τ (PS σ τ o) x r k V →
    ∃ F' V', L_MD_way_90 K N (nI o) x2 x (nI r) (nI k) (w16 τ F) = K (nI o) x2 x (nI (r + 1)) (w16 τ F') ∧ FaV F' V' ∧ SoD τ (PS σ τ o) x V' ∧ CoM τ (PS σ τ o) x (r + 1) V' := by
  have hn := hI.1.1.2.2.1
  intro c
  induction c with
  | zero =>
    intro k N F V hk hc hF hS hC hD
    obtain ⟨N, rfl⟩ : ∃ N', N = N' + 1 := ⟨N - 1, by omega⟩
    refine ⟨F, V, ?_, hF, hS, ?_⟩
    · show B_MD_way_90 K (L_MD_way_90 K N) (nI o) x2 x (nI r) (nI k) (w16 τ F) = _
      have e04 : w16 τ F 0 4 = nI (ndr τ) := hn.1
      unfold B_MD_way_90
      rw [e04, if_pos (nI_le (by omega) (by omega)), nI_1]
    · intro p hp s hs q
      by_cases z : s ≤ r
      · exact hC p hp s z q
      · rw [show s = r + 1 by omega] at q ⊢
        rw [rs_s, Bool.or_eq_true] at q
        rcases q with q | q
        · have := hC p hp r (Nat.le_refl r) q
          omega
        · obtain ⟨d, _, hd, q⟩ := (ex_iff _ _ _).mp q
          obtain ⟨_, a1, _, a2⟩ := ends hI.1 (d := d) (by omega)
          obtain ⟨q1, q2, q3⟩ := dF_iff.mp q
          obtain ⟨d1, d2⟩ := hD d (by omega) q1
          rcases q2 with q2 | q2
          · rcases q3 with q3 | q3
            · have := hC (ea τ d) a1 r (Nat.le_refl r) q2
              rw [q3]; omega
            · rw [q3]; exact d1 q2
          · rcases q3 with q3 | q3
            · rw [q3]; exact d2 q2
            · have := hC (eb τ d) a2 r (Nat.le_refl r) q2
              rw [q3]; omega
  | succ c ih =>
    intro k N F V hk hc hF hS hC hD
    obtain ⟨N, rfl⟩ : ∃ N', N = N' + 1 := ⟨N - 1, by omega⟩
    obtain ⟨e1, a1, e2, a2⟩ := ends hI.1 (d := k) (by omega)
    have hB : L_MD_way_90 K (N + 1) (nI o) x2 x (nI r) (nI k) (w16 τ F) = B_MD_way_90 K (L_MD_way_90 K N) (nI o) x2 x (nI r) (nI k) (w16 τ F) := rfl
    have e04 : w16 τ F 0 4 = nI (ndr τ) := hn.1
    have e12 : w16 τ F 12 k = nI (ea τ k) := e1
    have e13 : w16 τ F 13 k = nI (eb τ k) := e2
    have t : f_MD_through (w16 τ F) (nI o) (nI k) = some (bI (PS σ τ o k)) := through_eq (II_w16 (F := F) hI) ho (show k < ndr τ by omega)
    have hV : ∀ p, p < 24 → V p ≤ 99 := fun p hp => (hS p hp).1
    rw [hB]
    unfold B_MD_way_90
    rw [e04, if_neg (nI_ge (by omega) (by omega)), t, Option.bind_some, inB_nI (by omega) (by omega), nI_clamp (by omega), e12, e13]
    simp only [gd_t, lt1]
    rw [inB_nI a1 (by omega), inB_nI a2 (by omega), nI_clamp (n := ea τ k) (by omega), nI_clamp (n := eb τ k) (by omega), w16_16]
    simp only [gd_t]
    by_cases z : PS σ τ o k = true
    · rw [z, bI_t, if_neg (show ¬ (1 : Int32) = 0 by decide), hF _ a1, hF _ a2, nI_1]
      have lk1 : ∀ s, rs τ (PS σ τ o) x s (ea τ k) = true → rs τ (PS σ τ o) x (s + 1) (eb τ k) = true := by
        intro s q
        rw [rs_s, (ex_iff _ _ _).mpr ⟨k, by omega, by omega, dF_iff.mpr ⟨z, Or.inl q, Or.inr rfl⟩⟩, Bool.or_true]
      have lk2 : ∀ s, rs τ (PS σ τ o) x s (eb τ k) = true → rs τ (PS σ τ o) x (s + 1) (ea τ k) = true := by
        intro s q
        rw [rs_s, (ex_iff _ _ _).mpr ⟨k, by omega, by omega, dF_iff.mpr ⟨z, Or.inr q, Or.inl rfl⟩⟩, Bool.or_true]
      have go : ∃ F', (if nI (V (eb τ k)) ≤ nI (V (ea τ k) + 1) then C_MD_way_175 K (L_MD_way_90 K N) (nI o) x2 x (nI r) (nI k) 1 (nI (ea τ k)) (nI (eb τ k)) (nI (V (eb τ k))) (nI (eb τ k)) (w16 τ F) else C_MD_way_175 K (L_MD_way_90 K N) (nI o) x2 x (nI r) (nI k) 1 (nI (ea τ k)) (nI (eb τ k)) (nI (V (ea τ k) + 1)) (nI (eb τ k)) (w16 τ F)) = L_MD_way_90 K N (nI o) x2 x (nI r) (nI k + 1) (w16 τ F') ∧ FaV F' (rx (rx V (ea τ k) (eb τ k)) (eb τ k) (ea τ k)) := by
        have va := hV _ a1
        have vb := hV _ a2
        by_cases y : V (eb τ k) ≤ V (ea τ k) + 1
        · have e : rx V (ea τ k) (eb τ k) = uV V (eb τ k) (V (eb τ k)) := by
            funext p
            unfold rx
            rw [if_pos y]
          rw [if_pos ((nI_leI (by omega) (by omega)).mpr y), e]
          exact c175 hF hV a1 a2 K _ _ _ _ _ _ (by omega)
        · have e : rx V (ea τ k) (eb τ k) = uV V (eb τ k) (V (ea τ k) + 1) := by
            funext p
            unfold rx
            rw [if_neg y]
          rw [if_neg (fun q => y ((nI_leI (by omega) (by omega)).mp q)), e]
          exact c175 hF hV a1 a2 K _ _ _ _ _ _ (by omega)
      obtain ⟨F', g1, g2⟩ := go
      rw [g1, nI_1]
      have le1 : ∀ p, rx (rx V (ea τ k) (eb τ k)) (eb τ k) (ea τ k) p ≤ V p := fun p => Nat.le_trans (rx_le _ _ _ p) (rx_le _ _ _ p)
      refine ih (k + 1) N F' _ (by omega) (by omega) g2 (rx_SoD (rx_SoD hS a1 lk1) a2 lk2) (fun p hp s hs q => Nat.le_trans (le1 p) (hC p hp s hs q)) ?_
      intro d hd hz
      by_cases y : d = k
      · subst y
        constructor
        · intro q
          have q1 := hC _ a1 r (Nat.le_refl r) q
          have q2 := rx_b V (ea τ d) (eb τ d)
          have q3 := rx_le (rx V (ea τ d) (eb τ d)) (eb τ d) (ea τ d) (eb τ d)
          omega
        · intro q
          have q1 := hC _ a2 r (Nat.le_refl r) q
          have q2 := rx_b (rx V (ea τ d) (eb τ d)) (eb τ d) (ea τ d)
          have q3 := rx_le V (ea τ d) (eb τ d) (eb τ d)
          omega
      · obtain ⟨d1, d2⟩ := hD d (by omega) hz
        exact ⟨fun q => Nat.le_trans (le1 _) (d1 q), fun q => Nat.le_trans (le1 _) (d2 q)⟩
    · rw [ts_nt z, bI_f, if_pos rfl, c175_0 a1 a2, nI_1]
      refine ih (k + 1) N F V (by omega) (by omega) hF hS hC ?_
      intro d hd hz
      by_cases y : d = k
      · rw [y] at hz
        exact absurd hz z
      · exact hD d (by omega) hz
def fnW (x2 x : Int32) (τ : Sg) : Option (Int32 × Sg) := if x = ((-1)) then (some ((-1), τ)) else (gd (inB x2 24) <| if (τ 16 (Int32.toNatClampNeg x2)) ≤ 24 then (gd (inB x2 24) <| some (τ 16 (Int32.toNatClampNeg x2), τ)) else (some ((-1), τ)))
theorem rounds_L {σ τ : Sg} (hI : II σ τ) {o : Nat} (ho : o < no τ) {x2 x : Int32} : ∀ (c r N : Nat) (F : Nat → Int32) (V : Nat → Nat), r + c = 24 → c < N → FaV F V → SoD τ (PS σ τ o) x V → CoM τ (PS σ τ o) x r V →
    ∃ F' V', L_MD_way_80 N (nI o) x2 x (nI r) (w16 τ F) = fnW x2 x (w16 τ F') ∧ FaV F' V' ∧ SoD τ (PS σ τ o) x V' ∧ CoM τ (PS σ τ o) x 24 V' := by
  have hn := hI.1.1.2.2.1
  intro c
  induction c with
  | zero =>
    intro r N F V hr hc hF hS hC
    obtain ⟨N, rfl⟩ : ∃ N', N = N' + 1 := ⟨N - 1, by omega⟩
    have er : r = 24 := by omega
    subst er
    refine ⟨F, V, ?_, hF, hS, hC⟩
    show B_MD_way_80 (L_MD_way_80 N) (nI o) x2 x (nI 24) (w16 τ F) = _
    unfold B_MD_way_80
    rw [if_pos (by decide)]
    rfl
  | succ c ih =>
    intro r N F V hr hc hF hS hC
    obtain ⟨N, rfl⟩ : ∃ N', N = N' + 1 := ⟨N - 1, by omega⟩
    have hB : L_MD_way_80 (N + 1) (nI o) x2 x (nI r) (w16 τ F) = B_MD_way_80 (L_MD_way_80 N) (nI o) x2 x (nI r) (w16 τ F) := rfl
    have h24 : ¬ (24 : Int32) ≤ nI r := nI_ge (b := 24) (by omega) (by omega)
    obtain ⟨F1, V1, e1, f1, s1, m1⟩ := relax_L hI ho (x2 := x2) (K := L_MD_way_80 N) (ndr τ) 0 fuel F V (by omega) (by unfold fuel; omega) hF hS hC (fun d hd => absurd hd (Nat.not_lt_zero d))
    obtain ⟨F2, V2, e2, f2, s2, m2⟩ := ih (r + 1) N F1 V1 (by omega) (by omega) f1 s1 m1
    refine ⟨F2, V2, ?_, f2, s2, m2⟩
    rw [hB]
    unfold B_MD_way_80
    rw [if_neg h24]
    exact e1.trans e2
theorem init_L {τ : Sg} {x1 x2 x : Int32} : ∀ (c k N : Nat) (F : Nat → Int32), k + c = 24 → c < N → (∀ p, p < k → F p = if x = nI p then 0 else 99) →
    ∃ F', L_MD_way_45 N x1 x2 x (nI k) (w16 τ F) = L_MD_way_80 fuel x1 x2 x 0 (w16 τ F') ∧ ∀ p, p < 24 → F' p = if x = nI p then 0 else 99 := by
  intro c
  induction c with
  | zero =>
    intro k N F hk hc h
    obtain ⟨N, rfl⟩ : ∃ N', N = N' + 1 := ⟨N - 1, by omega⟩
    have ek : k = 24 := by omega
    subst ek
    refine ⟨F, ?_, h⟩
    show B_MD_way_45 (L_MD_way_45 N) x1 x2 x (nI 24) (w16 τ F) = _
    unfold B_MD_way_45
    rw [if_pos (by decide)]
  | succ c ih =>
    intro k N F hk hc h
    obtain ⟨N, rfl⟩ : ∃ N', N = N' + 1 := ⟨N - 1, by omega⟩
    have hB : L_MD_way_45 (N + 1) x1 x2 x (nI k) (w16 τ F) = B_MD_way_45 (L_MD_way_45 N) x1 x2 x (nI k) (w16 τ F) := rfl
    have h24 : ¬ (24 : Int32) ≤ nI k := nI_ge (b := 24) (by omega) (by omega)
    have nx : ∀ v : Int32, v = (if x = nI k then 0 else 99) → ∀ p, p < k + 1 → upd F k v p = if x = nI p then 0 else 99 := by
      intro v hv p hp
      by_cases z : p = k
      · rw [z, pk_us, hv]
      · rw [pk_un z]
        exact h p (by omega)
    rw [hB]
    unfold B_MD_way_45
    rw [if_neg h24, inB_nI (by omega) (by omega), nI_clamp (by omega), nI_1]
    simp only [gd_t, lt1]
    rw [w16_st, w16_st]
    by_cases z : nI k = x
    · rw [if_pos z]
      exact ih (k + 1) N _ (by omega) (by omega) (nx 0 (by rw [if_pos z.symm]))
    · rw [if_neg z]
      exact ih (k + 1) N _ (by omega) (by omega) (nx 99 (by rw [if_neg (fun q => z q.symm)]))
theorem way_r {σ τ : Sg} (hI : II σ τ) {o t : Nat} (ho : o < no τ) (ht : t < 24) (x : Int32) : ∃ v F', L_MD_way_45 fuel (nI o) (nI t) x 0 τ = some (v, w16 τ F') ∧ (x = -1 → v = -1) ∧ (x ≠ -1 → WaY τ (PS σ τ o) x t v) := by
  obtain ⟨F1, e1, h1⟩ := init_L (τ := τ) (x1 := nI o) (x2 := nI t) (x := x) 24 0 fuel (τ 16) (by omega) (by unfold fuel; omega) (fun p hp => absurd hp (Nat.not_lt_zero p))
  rw [w16_id] at e1
  have hF : FaV F1 (fun p => if x = nI p then 0 else 99) := by
    intro p hp
    rw [h1 p hp]
    show _ = nI (if x = nI p then 0 else 99)
    by_cases z : x = nI p
    · rw [if_pos z, if_pos z]; rfl
    · rw [if_neg z, if_neg z]; rfl
  have hS : SoD τ (PS σ τ o) x (fun p => if x = nI p then 0 else 99) := by
    intro p hp
    show (if x = nI p then 0 else 99) ≤ 99 ∧ ((if x = nI p then 0 else 99) = 99 ∨ rs τ (PS σ τ o) x (if x = nI p then 0 else 99) p = true)
    by_cases z : x = nI p
    · rw [if_pos z]
      exact ⟨by omega, Or.inr (decide_eq_true z)⟩
    · rw [if_neg z]
      exact ⟨by omega, Or.inl rfl⟩
  have hC : CoM τ (PS σ τ o) x 0 (fun p => if x = nI p then 0 else 99) := by
    intro p hp s hs q
    rw [show s = 0 by omega] at q
    have z : x = nI p := of_decide_eq_true q
    show (if x = nI p then 0 else 99) ≤ s
    rw [if_pos z]
    omega
  obtain ⟨F2, V2, e2, f2, s2, m2⟩ := rounds_L hI ho (x2 := nI t) 24 0 fuel F1 _ (by omega) (by unfold fuel; omega) hF hS hC
  have e3 : L_MD_way_45 fuel (nI o) (nI t) x 0 τ = fnW (nI t) x (w16 τ F2) := e1.trans e2
  rw [e3]
  unfold fnW
  by_cases z : x = -1
  · rw [if_pos z]
    exact ⟨-1, F2, rfl, fun _ => rfl, fun q => absurd z q⟩
  · rw [if_neg z, inB_nI ht (by omega), nI_clamp (by omega), w16_16, f2 t ht]
    simp only [gd_t]
    obtain ⟨q1, q2⟩ := s2 t ht
    have q3 := m2 t ht
    have e24 : (24 : Int32) = nI 24 := rfl
    rw [e24]
    by_cases y : V2 t ≤ 24
    · rw [if_pos ((nI_leI (by omega) (by omega)).mpr y)]
      refine ⟨_, F2, rfl, fun q => absurd q z, fun _ => Or.inl ⟨V2 t, y, rfl, ?_, fun s' hs' => ?_⟩⟩
      · rcases q2 with q2 | q2
        · omega
        · exact q2
      · apply ts_nt
        intro q
        have := q3 s' (by omega) q
        omega
    · rw [if_neg (fun q => y ((nI_leI (by omega) (by omega)).mp q))]
      refine ⟨-1, F2, rfl, fun q => absurd q z, fun _ => Or.inr ⟨rfl, fun s hs => ?_⟩⟩
      apply ts_nt
      intro q
      have := q3 s hs q
      omega
theorem ok_way : Ok_way II := by
  intro σ τ y p1 p2 hI
  have hn := hI.1.1.2.1.2
  have hnp := hI.1.1.1.2
  have hnd := hI.1.1.2.2.1.2
  have l1 : C_MD_way_21 p1 p2 τ = some (0, st τ 0 0 1) := rfl
  unfold h_way f_PM_way f_MD_way
  rw [l1]
  rcases obj_cases hI p1 with ⟨a, b⟩ | ⟨o, ho, e, a, b⟩
  · rw [a, b]
    exact ⟨1, 0, σ, st τ 0 0 1, y, rfl, rfl, rfl, fun h => absurd h (by decide), II_th hI⟩
  rw [a, b]
  simp only [Option.bind_some, ↓reduceIte]
  rw [if_neg (show ¬ (1 : Int32) = 0 by decide)]
  rcases plc_cases hI p2 with ⟨a, b⟩ | ⟨t, ht, e2, a, b⟩
  · rw [a, b]
    exact ⟨1, 0, σ, st τ 0 0 1, y, rfl, rfl, rfl, fun h => absurd h (by decide), II_th hI⟩
  rw [a, b, goes_0]
  simp only [Option.bind_some, ↓reduceIte]
  rw [if_neg (show ¬ (1 : Int32) = 0 by decide), if_neg (show ¬ (1 : Int32) = 0 by decide), e, e2]
  have hI0 : II σ (st τ 0 0 0) := II_th hI
  obtain ⟨g1, g2, g3, g4, g5, g6, g7, g8, g9⟩ := id hI0.1
  rw [hI0.2.2, placeAt_eq g1 g2 hI0.2.1.1 _ (show o < 20 by omega), at_eq g1 g2 _ (show o < 20 by omega), AQ_AT g1 g2 g9 _ (show o < 20 by omega)]
  simp only [Option.bind_some]
  have hv := AT_VP g1 g2 (h := st τ 0 0 0 0 1) (o := o) (by omega)
  obtain ⟨w, F', r1, r2, r3⟩ := way_r hI0 ho (t := t) (by omega) (AT (st τ 0 0 0) (st τ 0 0 0 0 1) o)
  rw [r1]
  have hIF : II σ (w16 (st τ 0 0 0) F') := II_w16 hI0
  rcases hv with hv | ⟨f, hf, hv⟩
  · rw [if_pos hv, r2 hv]
    exact ⟨0, -1, σ, w16 (st τ 0 0 0) F', _, rfl, rfl, rfl, fun _ => pk_uLs, hIF⟩
  · have hne : AT (st τ 0 0 0) (st τ 0 0 0 0 1) o ≠ -1 := by
      rw [hv]
      have hf : f < np τ := hf
      exact nI_m1 (by omega)
    have hf : f < np τ := hf
    have r3 := r3 hne
    rw [if_neg hne, hv]
    rw [hv] at r3
    obtain ⟨X, fx, hX⟩ := fit_L hI0 ho (ndr τ) 0 fuel 0 (show 0 + ndr τ = ndr τ by omega) (by unfold fuel; omega) (fun d hd => absurd hd (Nat.not_lt_zero d)) (fun d _ _ => BitVec.getLsbD_zero)
    have fx' : f_PM_fittingDoors σ (nI o) = some X := fx
    obtain ⟨v, bx, hb⟩ := between_eq hI0 (pz := PS σ (st τ 0 0 0) o) (f := f) (by omega) hX (t := t) (by omega)
    have evw : v = w := WaY_eq hb r3
    rw [fx', Option.bind_some, bx, evw]
    exact ⟨0, w, σ, w16 (st τ 0 0 0) F', _, rfl, rfl, rfl, fun _ => pk_uLs, hIF⟩
