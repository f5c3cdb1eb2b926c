/-! lost, move, into, planned -/
theorem hx_of {τ : Sg} (hI : GG τ) {x : Int32} (h1 : ¬ x < τ 0 1) : ¬ x < 0 ∧ τ 0 1 ≤ x := by
  have hg : ¬ τ 0 1 < 0 := hI.2.2.2.2.2.2.2.1
  rw [Int32.lt_iff_toInt_lt] at h1 hg ⊢
  rw [Int32.le_iff_toInt_le]
  omega
theorem ok_lost : Ok_lost II := by
  intro σ τ y p1 p2 hI
  have hn := hI.1.1.2.1.2
  have hpr := hI.2.2
  unfold h_lost f_PM_lost f_MD_lost
  have l1 : ∀ a b, C_MD_lost_38 p1 p2 a b 0 τ = some (0, st τ 0 0 1) := fun a b => rfl
  have l2 : ∀ a, C_MD_lost_38 p1 p2 a 0 1 τ = some (0, st τ 0 0 2) := fun a => rfl
  rcases obj_cases hI p1 with ⟨a, b⟩ | ⟨o, ho, e, a, b⟩
  · rw [a, b, within_eq]
    simp only [Option.bind_some, l1, ite_self, ↓reduceIte]
    exact ⟨1, 0, σ, st τ 0 0 1, y, rfl, rfl, rfl, fun h => absurd h (by decide), II_th hI⟩
  obtain ⟨m1, m2⟩ := hI.1.2.1.1 o (by omega)
  rw [a, b, hpr]
  simp only [Option.bind_some, ↓reduceIte]
  rcases rng_cases σ τ p2 (τ 0 1) 1000000 with ⟨c, d, _⟩ | ⟨d1, d2, c, d⟩
  · rw [c, d]
    simp only [Option.bind_some, l2, ite_self]
    rw [if_neg (show ¬ (1 : Int32) = 0 by decide), e, inB_nI (by omega) (by omega)]
    exact ⟨2, 0, σ, st τ 0 0 2, y, rfl, rfl, rfl, fun h => absurd h (by decide), II_th hI⟩
  obtain ⟨hx0, hx⟩ := hx_of hI.1 d1
  rw [c, d]
  simp only [Option.bind_some, ↓reduceIte]
  rw [if_neg (show ¬ (1 : Int32) = 0 by decide), e, inB_nI (by omega) (by omega), nI_clamp (by omega), hI.2.1.1.1 o (by omega), m1, show (40 : Int32) = nI 40 from rfl]
  simp only [gd_t]
  by_cases z : mm τ o < 40
  · rw [room_yes σ z (by omega), if_neg (nI_ge z (by omega))]
    simp only [Option.bind_some, ↓reduceIte]
    have hI0 : II σ (st τ 0 0 0) := II_th hI
    unfold C_MD_lost_38
    rw [goes_0, Option.bind_some, if_neg (show ¬ (1 : Int32) = 0 by decide), held_eq hI.1.2.1 hI.2.1.1 (by omega) (τ 0 1), rowAt_eq hI0.1.2.1 (by omega) p2]
    have late : lr (st τ 0 0 0 9) (40 * o) p2 (mm (st τ 0 0 0) o) = lr (τ 9) (40 * o) (τ 0 1) (mm τ o) := nd_late hI.1.2.1 hx (by omega)
    rw [late]
    cases f : lr (τ 9) (40 * o) (τ 0 1) (mm τ o) with
    | none =>
      simp only [eR, Option.bind_some, ↓reduceIte]
      exact ⟨0, 0, σ, st τ 0 0 0, _, rfl, rfl, rfl, fun _ => pk_uLs, hI0⟩
    | some j =>
      obtain ⟨k', hk', hj, hj8, cc⟩ := row_at hI.1.2.1 (by omega) f
      have r := hI.2.1.1.2 o (by omega) k' hk'
      rw [← hj] at r
      simp only [eR, Option.bind_some]
      have e10 : st τ 0 0 0 10 = τ 10 := rfl
      rw [if_neg (nI_m1 (by omega)), if_neg (nI_m1 (by omega)), inB_nI hj8 (by omega), nI_clamp (by omega), r.2.1, e10]
      simp only [gd_t]
      by_cases k0 : τ 10 j = 0
      · rw [if_pos k0, if_pos k0, if_neg (show ¬ (1 : Int32) = 0 by decide)]
        obtain ⟨σ', ec, hc1, hc2⟩ := comes_eq hI0.1 hI0.2.1 (t := o) ho z hx0 hx (kd := 2) (tg := -1) (Or.inr (Or.inr ⟨rfl, rfl⟩))
        have hb : CB (st τ 0 0 0) o p2 2 (-1) = false := by
          unfold CB
          rw [AT_RW2 hI0.1.2.1 (by omega), if_pos rfl]
        rw [hb] at ec
        rw [ec, row_eq hI0.1.2.1 (by omega) z]
        obtain ⟨hc, hp⟩ := hc1 hb
        exact ⟨0, 1, σ', RW (st τ 0 0 0) o p2 2 (-1), _, rfl, rfl, rfl, fun _ => pk_uLs, GG_RW hI0.1 ho z hx0 hx (Or.inr (Or.inr ⟨rfl, rfl⟩)), hc, hp⟩
      · rw [if_neg k0, if_neg k0]
        exact ⟨0, 0, σ, st τ 0 0 0, _, rfl, rfl, rfl, fun _ => pk_uLs, hI0⟩
  · rw [room_no σ (by omega) (by omega), if_pos (nI_le (by omega) (by omega))]
    exact ⟨3, 0, σ, st τ 0 0 3, y, rfl, rfl, rfl, fun h => absurd h (by decide), II_th hI⟩
theorem keys_eq {σ τ : Sg} (hI : II σ τ) {o a b : Nat} (ho : o < 20) (ha : a < 10) (hb : b < 10) : ∃ m : Bool, f_PM_needKeysOf σ (nI o) (nI a) (nI b) = some (if m = true then 0 else 3) ∧ f_MD_mayOpen τ (nI o) (nI a) (nI b) = some (bI m) := by
  obtain ⟨t1, t2, _⟩ := hI.2.1.2.2.2.2.1
  unfold f_PM_needKeysOf f_MD_mayOpen C_PM_needKeysOf_31 C_MD_mayOpen_28
  rw [inB_nI ho (by omega), inB_nI ha (by omega), inB_nI hb (by omega), nI_clamp (by omega), nI_clamp (by omega), nI_clamp (by omega), (t1 o ho).1, t2 a ha, t2 b hb]
  simp only [gd_t, lt1]
  by_cases z0 : τ 5 o = 0
  · rw [if_pos z0, if_pos z0]; exact ⟨true, rfl, rfl⟩
  rw [if_neg z0, if_neg z0]
  by_cases z1 : τ 5 o = 1
  · rw [if_pos z1, if_pos z1]
    by_cases ka : τ 7 a = 0
    · refine ⟨false, ?_, ?_⟩ <;> simp [ka, z1, bI]
    · rw [if_neg ka, if_neg ka]; exact ⟨true, rfl, rfl⟩
  rw [if_neg z1, if_neg z1]
  by_cases z2 : τ 5 o = 2
  · rw [if_pos z2, if_pos z2]
    by_cases ka : τ 7 a = 0
    · rw [if_pos ka, if_pos ka]; exact ⟨false, rfl, rfl⟩
    rw [if_neg ka, if_neg ka]
    by_cases kb : τ 7 b = 0
    · rw [if_pos kb, if_pos kb]; exact ⟨false, rfl, rfl⟩
    rw [if_neg kb, if_neg kb]
    by_cases ab : nI a = nI b
    · rw [if_pos ab, if_pos ab]; exact ⟨false, rfl, rfl⟩
    · rw [if_neg ab, if_neg ab]; exact ⟨true, rfl, rfl⟩
  · rw [if_neg z2, if_neg z2]; exact ⟨false, rfl, rfl⟩
/-- the reference behind a thought -/
def T2 (τ : Sg) (o : Nat) (x : Int32) : Sg := st (TH τ o x) 0 7 (-1)
theorem II_T2 {σ τ : Sg} (h : II σ τ) (o : Nat) (x : Int32) : II σ (T2 τ o x) := by
  obtain ⟨⟨g1, g2, g3, g4, g5, g6, g7, g8, g9⟩, hC, hp⟩ := h
  exact ⟨⟨g1, g2, g3, g4, g5, g6, g7, g8, rfl⟩, hC, hp⟩
theorem CA_T2 {σ τ : Sg} {o : Nat} {x : Int32} {t : Nat} {h kd tg : Int32} (hC : CA σ (RW τ t h kd tg)) : CA σ (RW (T2 τ o x) t h kd tg) := hC
theorem ok_move : Ok_move II := by
  intro σ τ y p1 p2 p3 p4 p5 hI
  have hn := hI.1.1.2.1.2
  have hpr := hI.2.2
  unfold h_move f_PM_move f_MD_move
  have l1 : ∀ a b, C_MD_move_85 p1 p2 p3 a b 0 τ = some (0, st τ 0 0 1) := fun a b => rfl
  have l2 : ∀ a, C_MD_move_85 p1 p2 p3 a 0 1 τ = some (0, st τ 0 0 2) := fun a => rfl
  have l0 : C_MD_move_37 p1 p2 p3 p4 p5 0 τ = some (0, st τ 0 0 1) := by
    unfold C_MD_move_37
    rw [within_eq, Option.bind_some, if_pos rfl, l1]
  rcases obj_cases hI p1 with ⟨a, b⟩ | ⟨o, ho, e, a, b⟩
  · rw [a, b]
    exact ⟨1, 0, σ, st τ 0 0 1, y, rfl, l0, rfl, fun h => absurd h (by decide), II_th hI⟩
  rw [a, b]
  simp only [Option.bind_some, ↓reduceIte]
  rw [if_neg (show ¬ (1 : Int32) = 0 by decide)]
  rcases plc_cases hI p2 with ⟨a, b⟩ | ⟨q, hq, eq, a, b⟩
  · rw [a, b]
    exact ⟨1, 0, σ, st τ 0 0 1, y, rfl, l0, rfl, fun h => absurd h (by decide), II_th hI⟩
  rw [a, b]
  simp only [Option.bind_some, ↓reduceIte]
  rw [if_neg (show ¬ (1 : Int32) = 0 by decide)]
  rcases per_cases σ τ p4 with ⟨a, b⟩ | ⟨pa, ha, ea, a, b⟩
  · rw [a, b]
    exact ⟨1, 0, σ, st τ 0 0 1, y, rfl, l0, rfl, fun h => absurd h (by decide), II_th hI⟩
  rw [a, b]
  simp only [Option.bind_some, ↓reduceIte]
  rw [if_neg (show ¬ (1 : Int32) = 0 by decide)]
  rcases per_cases σ τ p5 with ⟨a, b⟩ | ⟨pb, hb, eb, a, b⟩
  · rw [a, b]
    exact ⟨1, 0, σ, st τ 0 0 1, y, rfl, l0, rfl, fun h => absurd h (by decide), II_th hI⟩
  rw [a, b]
  simp only [Option.bind_some, ↓reduceIte]
  rw [if_neg (show ¬ (1 : Int32) = 0 by decide), hpr]
  unfold C_MD_move_37
  obtain ⟨m1, m2⟩ := hI.1.2.1.1 o (by omega)
  obtain ⟨mk, k1, k2⟩ := keys_eq hI (o := o) (a := pa) (b := pb) (by omega) ha hb
  rw [← e, ← ea, ← eb] at k1 k2
  rcases rng_cases σ τ p3 (τ 0 1) 1000000 with ⟨c, d, _⟩ | ⟨d1, d2, c, d⟩
  · rw [c, d, k2]
    simp only [Option.bind_some, l2, ite_self]
    rw [e, inB_nI (by omega) (by omega)]
    refine ⟨2, 0, σ, st τ 0 0 2, y, rfl, ?_, rfl, fun h => absurd h (by decide), II_th hI⟩
    rfl
  obtain ⟨hx0, hx⟩ := hx_of hI.1 d1
  rw [c, d, k1, k2]
  simp only [Option.bind_some, ↓reduceIte]
  have l3 : C_MD_move_85 p1 p2 p3 0 1 1 τ = some (0, st τ 0 0 3) := rfl
  rw [if_neg (show ¬ (1 : Int32) = 0 by decide), l3]
  subst e
  rw [inB_nI (by omega) (by omega), nI_clamp (by omega), hI.2.1.1.1 o (by omega), m1, show (40 : Int32) = nI 40 from rfl]
  simp only [gd_t]
  by_cases z : mm τ o < 40
  · rw [room_yes σ z (by omega), if_neg (nI_ge z (by omega))]
    simp only [Option.bind_some, ↓reduceIte]
    by_cases y1 : mk = true
    · rw [y1, if_pos rfl, if_neg (show ¬ bI true = 0 by decide)]
      simp only [↓reduceIte]
      have hI0 : II σ (st τ 0 0 0) := II_th hI
      obtain ⟨g1, g2, g3, g4, g5, g6, g7, g8, g9⟩ := id hI0.1
      unfold C_MD_move_85
      rw [goes_0, Option.bind_some, if_neg (show ¬ (1 : Int32) = 0 by decide), placeAt_eq g1 g2 hI0.2.1.1 p3 (by omega), at_eq g1 g2 p3 (by omega), AQ_AT g1 g2 g9 p3 (by omega)]
      simp only [Option.bind_some]
      have v1 : VP (st τ 0 0 0) (AT (st τ 0 0 0) p3 o) := AT_VP g1 g2 (by omega)
      have v2 : VP (st τ 0 0 0) p2 := Or.inr ⟨q, hq, eq⟩
      rw [isBarred_eq hI0.1 hI0.2.1 p3 v1 v2, barred_eq hI0.1 p3 v1 v2]
      simp only [Option.bind_some]
      by_cases zb : QB (st τ 0 0 0) (AT (st τ 0 0 0) p3 o) p2 p3 = true
      · rw [zb]
        exact ⟨0, 1, σ, st τ 0 0 0, _, rfl, rfl, rfl, fun _ => pk_uLs, hI0⟩
      · rw [ts_nt zb, bI_f, if_pos rfl, if_pos rfl, mc_eq g1 g2 g3 g4 o p3 v2]
        have hkd : ((0 : Int32) = 0 ∧ ∃ p, p < np (st τ 0 0 0) ∧ p2 = nI p) ∨ ((0 : Int32) = 1 ∧ ∃ b, b < no (st τ 0 0 0) ∧ p2 = nI b) ∨ ((0 : Int32) = 2 ∧ p2 = -1) := Or.inl ⟨rfl, q, hq, eq⟩
        obtain ⟨σ', ec, hc1, hc2⟩ := comes_eq hI0.1 hI0.2.1 (t := o) ho z hx0 hx (kd := 0) (tg := p2) hkd
        have hR := RG_RW g2 (t := o) (by omega) z hx0 hx hkd
        have eA := AT_RW0 g2 (t := o) (by omega) p3 p2
        have hb : CB (st τ 0 0 0) o p3 0 p2 = MC (st τ 0 0 0) o p2 p3 := by
          unfold CB
          have hne : ¬ AT (RW (st τ 0 0 0) o p3 0 p2) p3 o = -1 := by
            rw [eA, eq]
            exact nI_m1 (by have := hI.1.1.1.2; omega)
          rw [if_neg hne, LH_MC hI0.1 ho z hR hne, eA]
        rw [ec, hb]
        simp only [Option.bind_some]
        by_cases zm : MC (st τ 0 0 0) o p2 p3 = true
        · obtain ⟨hc, hp⟩ := hc2 (hb.trans zm)
          rw [zm]
          exact ⟨0, 2, σ', T2 (st τ 0 0 0) o p2, _, rfl, rfl, rfl, fun _ => pk_uLs, (II_T2 hI0 o p2).1, hc, hp.trans hI0.2.2⟩
        · obtain ⟨hc, hp⟩ := hc1 (hb.trans (ts_nt zm))
          rw [ts_nt zm, if_neg (show ¬ (bI !false) = 0 by decide), if_neg (show ¬ (bI !false) = 0 by decide), row_eq (τ := st (TH (st τ 0 0 0) o p2) 0 7 (-1)) g2 (by omega) z]
          exact ⟨0, 0, σ', RW (T2 (st τ 0 0 0) o p2) o p3 0 p2, _, rfl, rfl, rfl, fun _ => pk_uLs, GG_RW (II_T2 hI0 o p2).1 ho z hx0 hx hkd, CA_T2 hc, hp⟩
    · rw [if_neg y1, ts_nt y1]
      exact ⟨3, 0, σ, st τ 0 0 3, y, rfl, rfl, rfl, fun h => absurd h (by decide), II_th hI⟩
  · rw [room_no σ (by omega) (by omega), if_pos (nI_le (by omega) (by omega))]
    exact ⟨3, 0, σ, st τ 0 0 3, y, rfl, rfl, rfl, fun h => absurd h (by decide), II_th hI⟩
