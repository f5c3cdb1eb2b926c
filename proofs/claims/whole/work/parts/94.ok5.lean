/-! into, planned -/
theorem le_n {x y : Int32} (h : ¬ x ≤ y) : y ≤ x := by
  rw [Int32.le_iff_toInt_le] at h ⊢
  omega
theorem mn3_of {a b c l : Int32} (h : l = a ∨ l = b ∨ l = c) (h1 : l ≤ a) (h2 : l ≤ b) (h3 : l ≤ c) : mn3 a b c = l := by
  have k1 := Int32.le_iff_toInt_le.mp h1
  have k2 := Int32.le_iff_toInt_le.mp h2
  have k3 := Int32.le_iff_toInt_le.mp h3
  have k : l.toInt = a.toInt ∨ l.toInt = b.toInt ∨ l.toInt = c.toInt := by
    rcases h with h | h | h
    · exact Or.inl (by rw [h])
    · exact Or.inr (Or.inl (by rw [h]))
    · exact Or.inr (Or.inr (by rw [h]))
  unfold mn3
  apply Int32.toInt_inj.mp
  by_cases y : c < b
  · have y' := Int32.lt_iff_toInt_lt.mp y
    rw [if_pos y]
    by_cases x : c < a
    · have x' := Int32.lt_iff_toInt_lt.mp x
      rw [if_pos x]
      omega
    · have x' : ¬ c.toInt < a.toInt := fun q => x (Int32.lt_iff_toInt_lt.mpr q)
      rw [if_neg x]
      omega
  · have y' : ¬ c.toInt < b.toInt := fun q => y (Int32.lt_iff_toInt_lt.mpr q)
    rw [if_neg y]
    by_cases x : b < a
    · have x' := Int32.lt_iff_toInt_lt.mp x
      rw [if_pos x]
      omega
    · have x' : ¬ b.toInt < a.toInt := fun q => x (Int32.lt_iff_toInt_lt.mpr q)
      rw [if_neg x]
      omega
theorem mx3_of {a b c l : Int32} (h : l = a ∨ l = b ∨ l = c) (h1 : a ≤ l) (h2 : b ≤ l) (h3 : c ≤ l) : mx3 a b c = l := by
  have k1 := Int32.le_iff_toInt_le.mp h1
  have k2 := Int32.le_iff_toInt_le.mp h2
  have k3 := Int32.le_iff_toInt_le.mp h3
  have k : l.toInt = a.toInt ∨ l.toInt = b.toInt ∨ l.toInt = c.toInt := by
    rcases h with h | h | h
    · exact Or.inl (by rw [h])
    · exact Or.inr (Or.inl (by rw [h]))
    · exact Or.inr (Or.inr (by rw [h]))
  unfold mx3
  apply Int32.toInt_inj.mp
  by_cases y : b < c
  · have y' := Int32.lt_iff_toInt_lt.mp y
    rw [if_pos y]
    by_cases x : a < c
    · have x' := Int32.lt_iff_toInt_lt.mp x
      rw [if_pos x]
      omega
    · have x' : ¬ a.toInt < c.toInt := fun q => x (Int32.lt_iff_toInt_lt.mpr q)
      rw [if_neg x]
      omega
  · have y' : ¬ b.toInt < c.toInt := fun q => y (Int32.lt_iff_toInt_lt.mpr q)
    rw [if_neg y]
    by_cases x : a < b
    · have x' := Int32.lt_iff_toInt_lt.mp x
      rw [if_pos x]
      omega
    · have x' : ¬ a.toInt < b.toInt := fun q => x (Int32.lt_iff_toInt_lt.mpr q)
      rw [if_neg x]
      omega
theorem size_low (a b c : Int32) : (if b ≤ a then (if c ≤ b then c else b) else (if c ≤ a then c else a)) = mn3 a b c := by
  symm
  have r := Int32.le_refl
  by_cases z1 : b ≤ a
  · rw [if_pos z1]
    by_cases z2 : c ≤ b
    · rw [if_pos z2]
      exact mn3_of (Or.inr (Or.inr rfl)) (Int32.le_trans z2 z1) z2 (r c)
    · rw [if_neg z2]
      exact mn3_of (Or.inr (Or.inl rfl)) z1 (r b) (le_n z2)
  · rw [if_neg z1]
    by_cases z2 : c ≤ a
    · rw [if_pos z2]
      exact mn3_of (Or.inr (Or.inr rfl)) z2 (Int32.le_trans z2 (le_n z1)) (r c)
    · rw [if_neg z2]
      exact mn3_of (Or.inl rfl) (r a) (le_n z1) (le_n z2)
theorem size_high (a b c : Int32) : (if a ≤ b then (if b ≤ c then c else b) else (if a ≤ c then c else a)) = mx3 a b c := by
  symm
  have r := Int32.le_refl
  by_cases z1 : a ≤ b
  · rw [if_pos z1]
    by_cases z2 : b ≤ c
    · rw [if_pos z2]
      exact mx3_of (Or.inr (Or.inr rfl)) (Int32.le_trans z1 z2) z2 (r c)
    · rw [if_neg z2]
      exact mx3_of (Or.inr (Or.inl rfl)) z1 (r b) (le_n z2)
  · rw [if_neg z1]
    by_cases z2 : a ≤ c
    · rw [if_pos z2]
      exact mx3_of (Or.inr (Or.inr rfl)) z2 (Int32.le_trans (le_n z1) z2) (r c)
    · rw [if_neg z2]
      exact mx3_of (Or.inl rfl) (r a) (le_n z1) (le_n z2)
theorem size_val {σ τ : Sg} (hI : II σ τ) {o : Nat} (ho : o < no τ) : f_MD_size τ (nI o) 0 = some (σ 11 o) ∧ f_MD_size τ (nI o) 1 = some (σ 12 o) ∧ f_MD_size τ (nI o) 2 = some (σ 13 o) := by
  have hn := hI.1.1.2.1.2
  obtain ⟨s1, s2, s3⟩ := hI.2.1.2.2.2.2.1.2.2 o ho
  have key : ∀ r, f_MD_size τ (nI o) r = C_MD_size_91 τ r (τ 3 (3 * o)) (τ 3 (3 * o + 1)) (τ 3 (3 * o + 2)) (σ 11 o) (σ 13 o) := by
    intro r
    unfold f_MD_size C_MD_size_61
    have f1 : nI (3 * o) + 1 = nI (3 * o + 1) := nI_1 _
    have f2 : nI (3 * o) + 2 = nI (3 * o + 2) := nI_add _ 2
    rw [x3_0, f1, f2, inB_nI (by omega) (by omega), inB_nI (by omega) (by omega), inB_nI (by omega) (by omega), nI_clamp (by omega), nI_clamp (by omega), nI_clamp (by omega), s1, s2, ← size_low, ← size_high]
    simp only [gd_t, lt1]
    repeat' split
    all_goals first | rfl | (exfalso; simp only [Int32.le_iff_toInt_le, Int32.lt_iff_toInt_lt] at *; omega)
  rw [key, key, key]
  unfold C_MD_size_91
  rw [s3]
  exact ⟨rfl, rfl, rfl⟩
theorem small_eq {σ τ : Sg} (hI : II σ τ) {o b : Nat} (ho : o < no τ) (hb : b < no τ) : ∃ m : Bool, f_Things_isSmaller σ (nI o) (nI b) = some (bI m) ∧ f_MD_fits τ (nI o) (nI b) = some (bI m) := by
  have hn := hI.1.1.2.1.2
  obtain ⟨a1, a2, a3⟩ := size_val hI ho
  obtain ⟨b1, b2, b3⟩ := size_val hI hb
  unfold f_Things_isSmaller f_MD_fits
  rw [a1, a2, a3, b1, b2, b3, inB_nI (by omega) (by omega), inB_nI (by omega) (by omega), nI_clamp (by omega), nI_clamp (by omega)]
  simp only [gd_t, Option.bind_some]
  by_cases z1 : σ 11 b ≤ σ 11 o
  · rw [if_pos z1]; exact ⟨false, rfl, rfl⟩
  rw [if_neg z1]
  by_cases z2 : σ 12 b ≤ σ 12 o
  · rw [if_pos z2]; exact ⟨false, rfl, rfl⟩
  rw [if_neg z2]
  by_cases z3 : σ 13 b ≤ σ 13 o
  · rw [if_pos z3]; exact ⟨false, rfl, rfl⟩
  rw [if_neg z3]; exact ⟨true, rfl, rfl⟩
theorem wk01 {τ : Sg} {h : Int32} {b : Nat} : ∀ (s o : Nat), (wk (nw τ h b) s o).getD 0 = 0 ∨ (wk (nw τ h b) s o).getD 0 = 1 := by
  intro s
  induction s with
  | zero => intro o; exact Or.inl rfl
  | succ s ih =>
    intro o
    cases f : lr (τ 9) (40 * o) h (mm τ o) with
    | none => rw [wk_l (nw_n f)]; exact Or.inl rfl
    | some j =>
      have w := nw_s (b := b) f
      by_cases z : τ 10 j = 1
      · rw [if_pos z] at w
        by_cases z2 : τ 11 j = nI b
        · rw [if_pos z2] at w
          rw [wk_l w]; exact Or.inr rfl
        · rw [if_neg z2] at w
          rw [wk_r w]; exact ih _
      · rw [if_neg z] at w
        rw [wk_l w]; exact Or.inl rfl
theorem ok_into : Ok_into II := by
  intro σ τ y p1 p2 p3 hI
  have hn := hI.1.1.2.1.2
  have hpr := hI.2.2
  unfold h_into f_PM_into f_MD_into
  have l1 : ∀ a b, C_MD_into_57 p1 p2 p3 a b 0 τ = some (0, st τ 0 0 1) := fun a b => rfl
  have l2 : ∀ a, C_MD_into_57 p1 p2 p3 a 0 1 τ = some (0, st τ 0 0 2) := fun a => rfl
  have l0 : C_MD_into_21 p1 p2 p3 0 τ = some (0, st τ 0 0 1) := by
    unfold C_MD_into_21
    rw [within_eq, Option.bind_some, if_pos rfl, l1]
  rcases obj_cases hI p1 with ⟨a, b⟩ | ⟨o, ho, e, a, b⟩
  · rw [a, b]
    exact ⟨1, 0, σ, st τ 0 0 1, y, rfl, l0, rfl, fun h => absurd h (by decide), II_th hI⟩
  rw [a, b]
  simp only [Option.bind_some, ↓reduceIte]
  rw [if_neg (show ¬ (1 : Int32) = 0 by decide)]
  rcases obj_cases hI p2 with ⟨a, b⟩ | ⟨q, hq, eq, a, b⟩
  · rw [a, b]
    exact ⟨1, 0, σ, st τ 0 0 1, y, rfl, l0, rfl, fun h => absurd h (by decide), II_th hI⟩
  rw [a, b]
  simp only [Option.bind_some, ↓reduceIte]
  rw [if_neg (show ¬ (1 : Int32) = 0 by decide), hpr]
  unfold C_MD_into_21
  obtain ⟨m1, m2⟩ := hI.1.2.1.1 o (by omega)
  rcases rng_cases σ τ p3 (τ 0 1) 1000000 with ⟨c, d, _⟩ | ⟨d1, d2, c, d⟩
  · rw [c, d]
    simp only [Option.bind_some, l2, ite_self]
    rw [e, inB_nI (by omega) (by omega)]
    refine ⟨2, 0, σ, st τ 0 0 2, y, rfl, ?_, rfl, fun h => absurd h (by decide), II_th hI⟩
    rfl
  obtain ⟨hx0, hx⟩ := hx_of hI.1 d1
  rw [c, d]
  simp only [Option.bind_some, ↓reduceIte]
  have l3 : C_MD_into_57 p1 p2 p3 0 1 1 τ = some (0, st τ 0 0 3) := rfl
  rw [if_neg (show ¬ (1 : Int32) = 0 by decide), l3]
  subst e
  subst eq
  rw [inB_nI (by omega) (by omega), nI_clamp (by omega), hI.2.1.1.1 o (by omega), m1, show (40 : Int32) = nI 40 from rfl]
  simp only [gd_t]
  by_cases z : mm τ o < 40
  · rw [room_yes σ z (by omega), if_neg (nI_ge z (by omega))]
    simp only [Option.bind_some, ↓reduceIte]
    have hI0 : II σ (st τ 0 0 0) := II_th hI
    obtain ⟨g1, g2, g3, g4, g5, g6, g7, g8, g9⟩ := id hI0.1
    have v1 : VP (st τ 0 0 0) (AT (st τ 0 0 0) p3 o) := AT_VP g1 g2 (by omega)
    have v2 : VP (st τ 0 0 0) (AT (st τ 0 0 0) p3 q) := AT_VP g1 g2 (by omega)
    have t1 := hI0.2.1.2.2.2.2.1.1
    obtain ⟨ms, q1, q2⟩ := small_eq hI0 ho hq
    unfold C_MD_into_57 C_MD_into_92
    rw [goes_0, Option.bind_some, if_neg (show ¬ (1 : Int32) = 0 by decide), at_eq g1 g2 p3 (o := q) (by omega), AQ_AT g1 g2 g9 p3 (o := q) (by omega), Option.bind_some, inB_nI (n := q) (by omega) (by omega), inB_nI (n := o) (by omega) (by omega), nI_clamp (n := q) (by omega), nI_clamp (n := o) (by omega), (t1 q (by omega)).2, (t1 o (by omega)).1]
    simp only [gd_t]
    by_cases zb : st τ 0 0 0 6 q = 0
    · rw [if_pos zb, if_pos zb]
      exact ⟨0, 1, σ, st τ 0 0 0, _, rfl, rfl, rfl, fun _ => pk_uLs, hI0⟩
    rw [if_neg zb, if_neg zb, holds_eq g1 g2 p3 (b := o) (o := q) (by omega) (by omega), Option.bind_some]
    by_cases zq : q = o
    · rw [if_pos (show nI q = nI o by rw [zq]), if_pos zq]
      exact ⟨0, 1, σ, st τ 0 0 0, _, rfl, rfl, rfl, fun _ => pk_uLs, hI0⟩
    rw [if_neg (fun a => zq ((nI_eq (by omega) (by omega)).mp a)), if_neg zq, isWithin_eq g1 g2 hI0.2.1.1 p3 o (o := q) (by omega), Option.bind_some]
    rcases wk01 (τ := st τ 0 0 0) (h := p3) (b := o) 20 q with w | w
    · rw [w, q1, q2]
      simp only [Option.bind_some, ↓reduceIte]
      by_cases zs : ms = true
      · rw [zs, bI_t, if_neg (show ¬ (1 : Int32) = 0 by decide), if_neg (show ¬ (1 : Int32) = 0 by decide)]
        by_cases zk : st τ 0 0 0 5 o ≤ 0
        · rw [if_pos zk, if_pos zk, placeAt_eq g1 g2 hI0.2.1.1 p3 (o := o) (by omega), placeAt_eq g1 g2 hI0.2.1.1 p3 (o := q) (by omega), at_eq g1 g2 p3 (o := o) (by omega), AQ_AT g1 g2 g9 p3 (o := o) (by omega)]
          simp only [Option.bind_some]
          rw [isBarred_eq hI0.1 hI0.2.1 p3 v1 v2, barred_eq hI0.1 p3 v1 v2]
          simp only [Option.bind_some]
          by_cases zb : QB (st τ 0 0 0) (AT (st τ 0 0 0) p3 o) (AT (st τ 0 0 0) p3 q) p3 = true
          · rw [zb, bI_t, if_neg (show ¬ (1 : Int32) = 0 by decide), if_neg (show ¬ (1 : Int32) = 0 by decide)]
            exact ⟨0, 4, σ, st τ 0 0 0, _, rfl, rfl, rfl, fun _ => pk_uLs, hI0⟩
          · rw [ts_nt zb, bI_f, if_pos rfl, if_pos rfl]
            have hkd : ((1 : Int32) = 0 ∧ ∃ p, p < np (st τ 0 0 0) ∧ nI q = nI p) ∨ ((1 : Int32) = 1 ∧ ∃ b, b < no (st τ 0 0 0) ∧ nI q = nI b) ∨ ((1 : Int32) = 2 ∧ nI q = -1) := Or.inr (Or.inl ⟨rfl, q, hq, rfl⟩)
            obtain ⟨σ', ec, hc1, hc2⟩ := comes_eq hI0.1 hI0.2.1 (t := o) ho z hx0 hx (kd := 1) (tg := nI q) hkd
            have hR := RG_RW g2 (t := o) (by omega) z hx0 hx hkd
            have eA := AT_RW1 g1 g2 (t := o) (b := q) (by omega) (by omega) z hR zq w
            rw [ec]
            by_cases zp : AT (st τ 0 0 0) p3 q = -1
            · have hb : CB (st τ 0 0 0) o p3 1 (nI q) = false := by
                unfold CB
                rw [eA, if_pos zp]
              rw [hb, if_pos zp, row_eq g2 (by omega) z]
              obtain ⟨hc, hp⟩ := hc1 hb
              exact ⟨0, 0, σ', RW (st τ 0 0 0) o p3 1 (nI q), _, rfl, rfl, rfl, fun _ => pk_uLs, GG_RW hI0.1 ho z hx0 hx hkd, hc, hp⟩
            · have hb : CB (st τ 0 0 0) o p3 1 (nI q) = MC (st τ 0 0 0) o (AT (st τ 0 0 0) p3 q) p3 := by
                unfold CB
                have hne : ¬ AT (RW (st τ 0 0 0) o p3 1 (nI q)) p3 o = -1 := by rw [eA]; exact zp
                rw [if_neg hne, LH_MC hI0.1 ho z hR hne, eA]
              rw [if_neg zp, mc_eq g1 g2 g3 g4 o p3 v2, hb]
              simp only [Option.bind_some]
              by_cases zm : MC (st τ 0 0 0) o (AT (st τ 0 0 0) p3 q) p3 = true
              · obtain ⟨hc, hp⟩ := hc2 (hb.trans zm)
                rw [zm]
                exact ⟨0, 5, σ', T2 (st τ 0 0 0) o (AT (st τ 0 0 0) p3 q), _, rfl, rfl, rfl, fun _ => pk_uLs, (II_T2 hI0 o _).1, hc, hp.trans hI0.2.2⟩
              · obtain ⟨hc, hp⟩ := hc1 (hb.trans (ts_nt zm))
                rw [ts_nt zm, if_neg (show ¬ (bI !false) = 0 by decide), if_neg (show ¬ (bI !false) = 0 by decide), row_eq (τ := st (TH (st τ 0 0 0) o (AT (st τ 0 0 0) p3 q)) 0 7 (-1)) g2 (by omega) z]
                exact ⟨0, 0, σ', RW (T2 (st τ 0 0 0) o (AT (st τ 0 0 0) p3 q)) o p3 1 (nI q), _, rfl, rfl, rfl, fun _ => pk_uLs, GG_RW (II_T2 hI0 o _).1 ho z hx0 hx hkd, CA_T2 hc, hp⟩
        · rw [if_neg zk, if_neg zk]
          exact ⟨0, 3, σ, st τ 0 0 0, _, rfl, rfl, rfl, fun _ => pk_uLs, hI0⟩
      · rw [ts_nt zs, bI_f, if_pos rfl, if_pos rfl]
        exact ⟨0, 2, σ, st τ 0 0 0, _, rfl, rfl, rfl, fun _ => pk_uLs, hI0⟩
    · rw [w, if_neg (show ¬ (1 : Int32) = 0 by decide), if_neg (show ¬ (1 : Int32) = 0 by decide)]
      exact ⟨0, 1, σ, st τ 0 0 0, _, rfl, rfl, rfl, fun _ => pk_uLs, hI0⟩
  · rw [room_no σ (by omega) (by omega), if_pos (nI_le (by omega) (by omega))]
    exact ⟨3, 0, σ, st τ 0 0 3, y, rfl, rfl, rfl, fun h => absurd h (by decide), II_th hI⟩
