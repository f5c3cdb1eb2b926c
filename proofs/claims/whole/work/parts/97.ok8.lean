/-! passes: a face through a door -/
def FB (P Q W H : Int64) : Bool := !decide (H < Q) && (decide (P ≤ W) || !decide (((((W + H) * (W + H)) * (P - Q)) * (P - Q)) + ((((W - H) * (W - H)) * (P + Q)) * (P + Q)) < (2 * ((P * P) - (Q * Q))) * ((P * P) - (Q * Q))))
theorem t64_le (a b : Int32) : a.toInt64 ≤ b.toInt64 ↔ a ≤ b := by
  rw [Int64.le_iff_toInt_le, Int32.toInt_toInt64, Int32.toInt_toInt64, Int32.le_iff_toInt_le]
theorem face_s (τ : Sg) (P Q W H : Int64) : C_MD_face_58 τ P Q W H = some (bI (FB P Q W H)) := by
  unfold C_MD_face_58 C_MD_face_138 FB
  simp only [lt1, lg_cmp_lt, lg_cmp_le, lg_cmp_gt]
  by_cases z1 : H < Q
  · rw [if_pos z1, if_pos z1, decide_eq_true z1, ite_self]
    rfl
  · rw [if_neg z1, if_neg z1, decide_eq_false z1]
    by_cases z2 : P ≤ W
    · rw [if_pos z2, if_pos z2, decide_eq_true z2, ite_self]
      rfl
    · rw [if_neg z2, if_neg z2, decide_eq_false z2]
      by_cases z3 : ((((W + H) * (W + H)) * (P - Q)) * (P - Q)) + ((((W - H) * (W - H)) * (P + Q)) * (P + Q)) < (2 * ((P * P) - (Q * Q))) * ((P * P) - (Q * Q))
      · rw [if_pos z3, decide_eq_true z3]
        rfl
      · rw [if_neg z3, decide_eq_false z3]
        rfl
theorem face_eq (τ : Sg) (a b w h : Int64) : f_MD_face τ a b w h = some (bI (FB (if a ≤ b then b else a) (if a ≤ b then a else b) (if w ≤ h then h else w) (if w ≤ h then w else h))) := by
  unfold f_MD_face C_MD_face_24
  simp only [lg_cmp_le, face_s]
  by_cases z1 : a ≤ b
  · by_cases z2 : w ≤ h
    · simp only [if_pos z1, if_pos z2]
    · simp only [if_pos z1, if_neg z2]
  · by_cases z2 : w ≤ h
    · simp only [if_neg z1, if_pos z2]
    · simp only [if_neg z1, if_neg z2]
theorem lets_eq (σ : Sg) {d : Nat} (hd : d < 40) (x2 x3 : Int32) : f_Doors_letsThrough σ (nI d) x2 x3 = some (bI (FB x2.toInt64 x3.toInt64 (σ 23 d).toInt64 (σ 24 d).toInt64)) := by
  unfold f_Doors_letsThrough f_Doors_goesTurned
  rw [inB_nI hd (by omega), nI_clamp (by omega)]
  simp only [gd_t, lt1, lg_cmp_lt]
  by_cases z1 : x3 ≤ σ 24 d
  · have z1' : ¬ (σ 24 d).toInt64 < x3.toInt64 := by rw [Int64.not_lt]; exact (t64_le _ _).mpr z1
    rw [if_pos z1]
    by_cases z2 : x2 ≤ σ 23 d
    · rw [if_pos z2]
      unfold FB
      rw [decide_eq_false z1', decide_eq_true ((t64_le _ _).mpr z2)]
      rfl
    · rw [if_neg z2]
      unfold FB
      rw [decide_eq_false z1', decide_eq_false (fun q => z2 ((t64_le _ _).mp q))]
      generalize x2.toInt64 = P
      generalize x3.toInt64 = Q
      generalize (σ 23 d).toInt64 = W
      generalize (σ 24 d).toInt64 = H
      have e1 : (W + H) * (P - Q) * ((W + H) * (P - Q)) = ((((W + H) * (W + H)) * (P - Q)) * (P - Q)) := by ac_rfl
      have e2 : (W - H) * (P + Q) * ((W - H) * (P + Q)) = ((((W - H) * (W - H)) * (P + Q)) * (P + Q)) := by ac_rfl
      rw [e1, e2]
      by_cases z3 : ((((W + H) * (W + H)) * (P - Q)) * (P - Q)) + ((((W - H) * (W - H)) * (P + Q)) * (P + Q)) < (2 * ((P * P) - (Q * Q))) * ((P * P) - (Q * Q))
      · rw [if_pos z3, decide_eq_true z3]
        rfl
      · rw [if_neg z3, decide_eq_false z3]
        rfl
  · rw [if_neg z1]
    unfold FB
    rw [decide_eq_true (show (σ 24 d).toInt64 < x3.toInt64 by rw [← Int64.not_le]; exact fun q => z1 ((t64_le _ _).mp q))]
    rfl
def GF (W H : Int64) (a b : Int32) : Bool := FB (if a ≤ b then b else a).toInt64 (if a ≤ b then a else b).toInt64 W H
theorem GF_c (W H : Int64) (a b : Int32) : GF W H a b = GF W H b a := by
  unfold GF
  by_cases z1 : a ≤ b
  · by_cases z2 : b ≤ a
    · have : a = b := by
        apply Int32.toInt_inj.mp
        rw [Int32.le_iff_toInt_le] at z1 z2
        omega
      rw [this]
    · rw [if_pos z1, if_pos z1, if_neg z2, if_neg z2]
  · have z2 : b ≤ a := by
      rw [Int32.le_iff_toInt_le] at z1 ⊢
      omega
    rw [if_neg z1, if_neg z1, if_pos z2, if_pos z2]
theorem GF_s {W H : Int64} {a b : Int32} (h : a ≤ b) : GF W H a b = FB b.toInt64 a.toInt64 W H := by
  unfold GF
  rw [if_pos h, if_pos h]
theorem GF_r (a b w h : Int32) {W H : Int32} (hW : W = (if w < h then h else w)) (hH : H = (if h < w then h else w)) (τ : Sg) : f_MD_face τ a.toInt64 b.toInt64 w.toInt64 h.toInt64 = some (bI (GF W.toInt64 H.toInt64 a b)) := by
  rw [face_eq]
  unfold GF
  simp only [t64_le]
  have eW : (if w ≤ h then h.toInt64 else w.toInt64) = W.toInt64 := by
    rw [hW]
    by_cases z : w ≤ h
    · rw [if_pos z]
      by_cases z2 : w < h
      · rw [if_pos z2]
      · have : w = h := by
          apply Int32.toInt_inj.mp
          rw [Int32.le_iff_toInt_le] at z
          rw [Int32.lt_iff_toInt_lt] at z2
          omega
        rw [if_neg z2, this]
    · rw [if_neg z, if_neg (fun q => z (Int32.le_of_lt q))]
  have eH : (if w ≤ h then w.toInt64 else h.toInt64) = H.toInt64 := by
    rw [hH]
    by_cases z : w ≤ h
    · rw [if_pos z, if_neg (by rw [Int32.not_lt]; exact z)]
    · rw [if_neg z, if_pos (by rw [← Int32.not_le]; exact z)]
  rw [eW, eH]
  by_cases z : a ≤ b
  · simp only [if_pos z]
  · simp only [if_neg z]
theorem tri (W H : Int64) (a b c : Int32) : mn3 a b c ≤ a + b + c - mn3 a b c - mx3 a b c ∧ a + b + c - mn3 a b c - mx3 a b c ≤ mx3 a b c ∧
    (GF W H (mn3 a b c) (a + b + c - mn3 a b c - mx3 a b c) || (GF W H (mn3 a b c) (mx3 a b c) || GF W H (a + b + c - mn3 a b c - mx3 a b c) (mx3 a b c))) = (GF W H a b || (GF W H a c || GF W H b c)) := by
  have tot : ∀ x y : Int32, x ≤ y ∨ y ≤ x := by
    intro x y
    rw [Int32.le_iff_toInt_le, Int32.le_iff_toInt_le]
    omega
  have bo : ∀ x y z : Bool, (y || (x || z)) = (x || (y || z)) := by decide
  have go : ∀ l m g : Int32, l ≤ m → m ≤ g → ((l = a ∧ m = b ∧ g = c) ∨ (l = a ∧ m = c ∧ g = b) ∨ (l = b ∧ m = a ∧ g = c) ∨ (l = b ∧ m = c ∧ g = a) ∨ (l = c ∧ m = a ∧ g = b) ∨ (l = c ∧ m = b ∧ g = a)) →
      mn3 a b c = l ∧ mx3 a b c = g ∧ a + b + c - l - g = m ∧ (GF W H l m || (GF W H l g || GF W H m g)) = (GF W H a b || (GF W H a c || GF W H b c)) := by
    intro l m g h1 h2 h
    have h3 := Int32.le_trans h1 h2
    have r := Int32.le_refl
    rcases h with ⟨rfl, rfl, rfl⟩ | ⟨rfl, rfl, rfl⟩ | ⟨rfl, rfl, rfl⟩ | ⟨rfl, rfl, rfl⟩ | ⟨rfl, rfl, rfl⟩ | ⟨rfl, rfl, rfl⟩
    · refine ⟨mn3_of (Or.inl rfl) (r _) h1 h3, mx3_of (Or.inr (Or.inr rfl)) h3 h2 (r _), ?_, rfl⟩
      rw [show l + m + g = m + g + l by ac_rfl, Int32.add_sub_cancel, Int32.add_sub_cancel]
    · refine ⟨mn3_of (Or.inl rfl) (r _) h3 h1, mx3_of (Or.inr (Or.inl rfl)) h3 (r _) h2, ?_, ?_⟩
      · rw [show l + g + m = m + g + l by ac_rfl, Int32.add_sub_cancel, Int32.add_sub_cancel]
      · rw [GF_c W H m g, bo]
    · refine ⟨mn3_of (Or.inr (Or.inl rfl)) h1 (r _) h3, mx3_of (Or.inr (Or.inr rfl)) h2 h3 (r _), ?_, ?_⟩
      · rw [show m + l + g = m + g + l by ac_rfl, Int32.add_sub_cancel, Int32.add_sub_cancel]
      · rw [GF_c W H l m, Bool.or_comm (GF W H l g)]
    · refine ⟨mn3_of (Or.inr (Or.inl rfl)) h3 (r _) h1, mx3_of (Or.inl rfl) (r _) h3 h2, ?_, ?_⟩
      · rw [show g + l + m = m + g + l by ac_rfl, Int32.add_sub_cancel, Int32.add_sub_cancel]
      · rw [GF_c W H l g, GF_c W H m g]
        cases GF W H l m <;> cases GF W H g l <;> cases GF W H g m <;> rfl
    · refine ⟨mn3_of (Or.inr (Or.inr rfl)) h1 h3 (r _), mx3_of (Or.inr (Or.inl rfl)) h2 (r _) h3, ?_, ?_⟩
      · rw [show m + g + l = m + g + l from rfl, Int32.add_sub_cancel, Int32.add_sub_cancel]
      · rw [GF_c W H l m, GF_c W H l g]
        cases GF W H m l <;> cases GF W H g l <;> cases GF W H m g <;> rfl
    · refine ⟨mn3_of (Or.inr (Or.inr rfl)) h3 h1 (r _), mx3_of (Or.inl rfl) (r _) h2 h3, ?_, ?_⟩
      · rw [show g + m + l = m + g + l by ac_rfl, Int32.add_sub_cancel, Int32.add_sub_cancel]
      · rw [GF_c W H l m, GF_c W H l g, GF_c W H m g]
        cases GF W H m l <;> cases GF W H g l <;> cases GF W H g m <;> rfl
  have fin : ∀ l m g : Int32, l ≤ m → m ≤ g → ((l = a ∧ m = b ∧ g = c) ∨ (l = a ∧ m = c ∧ g = b) ∨ (l = b ∧ m = a ∧ g = c) ∨ (l = b ∧ m = c ∧ g = a) ∨ (l = c ∧ m = a ∧ g = b) ∨ (l = c ∧ m = b ∧ g = a)) →
      mn3 a b c ≤ a + b + c - mn3 a b c - mx3 a b c ∧ a + b + c - mn3 a b c - mx3 a b c ≤ mx3 a b c ∧
    (GF W H (mn3 a b c) (a + b + c - mn3 a b c - mx3 a b c) || (GF W H (mn3 a b c) (mx3 a b c) || GF W H (a + b + c - mn3 a b c - mx3 a b c) (mx3 a b c))) = (GF W H a b || (GF W H a c || GF W H b c)) := by
    intro l m g h1 h2 h
    obtain ⟨q1, q2, q3, q4⟩ := go l m g h1 h2 h
    rw [q1, q2, q3]
    exact ⟨h1, h2, q4⟩
  rcases tot a b with x | x
  · rcases tot b c with y | y
    · exact fin a b c x y (Or.inl ⟨rfl, rfl, rfl⟩)
    · rcases tot a c with z | z
      · exact fin a c b z y (Or.inr (Or.inl ⟨rfl, rfl, rfl⟩))
      · exact fin c a b z x (Or.inr (Or.inr (Or.inr (Or.inr (Or.inl ⟨rfl, rfl, rfl⟩)))))
  · rcases tot a c with y | y
    · exact fin b a c x y (Or.inr (Or.inr (Or.inl ⟨rfl, rfl, rfl⟩)))
    · rcases tot b c with z | z
      · exact fin b c a z y (Or.inr (Or.inr (Or.inr (Or.inl ⟨rfl, rfl, rfl⟩))))
      · exact fin c b a z x (Or.inr (Or.inr (Or.inr (Or.inr (Or.inr ⟨rfl, rfl, rfl⟩)))))
def PS (σ τ : Sg) (o d : Nat) : Bool := GF (σ 23 d).toInt64 (σ 24 d).toInt64 (τ 3 (3 * o)) (τ 3 (3 * o + 1)) || (GF (σ 23 d).toInt64 (σ 24 d).toInt64 (τ 3 (3 * o)) (τ 3 (3 * o + 2)) || GF (σ 23 d).toInt64 (σ 24 d).toInt64 (τ 3 (3 * o + 1)) (τ 3 (3 * o + 2)))
theorem or3 {x y z : Bool} : ((some (bI x)).bind fun r4 => if r4 = 0 then ((some (bI y)).bind fun r5 => if r5 = 0 then ((some (bI z)).bind fun r6 => if r6 = 0 then (some (0 : Int32)) else (some 1)) else (some 1)) else (some 1)) = some (bI (x || (y || z))) := by
  cases x <;> cases y <;> cases z <;> rfl
theorem fits_eq {σ τ : Sg} (hI : II σ τ) {o d : Nat} (ho : o < no τ) (hd : d < ndr τ) : f_PM_fits σ (nI o) (nI d) = some (bI (PS σ τ o d)) := by
  have hn := hI.1.1.2.1.2
  have hnd := hI.1.1.2.2.1.2
  obtain ⟨s1, s2, s3⟩ := hI.2.1.2.2.2.2.1.2.2 o ho
  rw [s1, s2] at s3
  obtain ⟨t1, t2, t3⟩ := tri (σ 23 d).toInt64 (σ 24 d).toInt64 (τ 3 (3 * o)) (τ 3 (3 * o + 1)) (τ 3 (3 * o + 2))
  unfold f_PM_fits
  rw [inB_nI (by omega) (by omega), nI_clamp (by omega)]
  simp only [gd_t, lt1]
  rw [s1, s2, s3, lets_eq σ (by omega), lets_eq σ (by omega), lets_eq σ (by omega), or3]
  unfold PS
  rw [← t3, GF_s t1, GF_s (Int32.le_trans t1 t2), GF_s t2]
theorem through_eq {σ τ : Sg} (hI : II σ τ) {o d : Nat} (ho : o < no τ) (hd : d < ndr τ) : f_MD_through τ (nI o) (nI d) = some (bI (PS σ τ o d)) := by
  have hn := hI.1.1.2.1.2
  have hnd := hI.1.1.2.2.1.2
  obtain ⟨_, _, hW, hH⟩ := hI.2.1.2.2.2.2.2.1.2 d hd
  unfold f_MD_through
  have f1 : nI (3 * o) + 1 = nI (3 * o + 1) := nI_1 _
  have f2 : nI (3 * o) + 2 = nI (3 * o + 2) := nI_add _ 2
  rw [x3_0, f1, f2, inB_nI (n := 3 * o) (by omega) (by omega), inB_nI (n := 3 * o + 1) (by omega) (by omega), inB_nI (n := 3 * o + 2) (by omega) (by omega), inB_nI (n := d) (by omega) (by omega), nI_clamp (n := 3 * o) (by omega), nI_clamp (n := 3 * o + 1) (by omega), nI_clamp (n := 3 * o + 2) (by omega), nI_clamp (n := d) (by omega)]
  simp only [gd_t, lt1]
  rw [GF_r _ _ _ _ hW hH, GF_r _ _ _ _ hW hH, GF_r _ _ _ _ hW hH, or3]
  rfl
theorem ok_passes : Ok_passes II := by
  intro σ τ y p1 p2 hI
  have hnd := hI.1.1.2.2.1
  have hs : σ 4 0 = nI (ndr τ) := hI.2.1.2.2.2.2.2.1.1.trans hnd.1
  have l1 : C_MD_passes_26 p1 p2 0 τ = some (0, st τ 0 0 1) := rfl
  unfold h_passes f_PM_passes f_MD_passes
  rw [l1]
  rcases obj_cases hI p1 with ⟨a, b⟩ | ⟨o, ho, e, a, b⟩
  · rw [a, b]
    exact ⟨1, 0, σ, st τ 0 0 1, y, rfl, rfl, rfl, fun h => absurd h (by decide), II_th hI⟩
  rw [a, b]
  simp only [Option.bind_some, ↓reduceIte]
  rw [if_neg (show ¬ (1 : Int32) = 0 by decide), hs, hnd.1]
  rcases pk_ix p2 (n := ndr τ) (by omega) with h | h | ⟨d, hd, h⟩
  · rw [known_no σ (Or.inl h), if_pos h]
    exact ⟨1, 0, σ, st τ 0 0 1, y, rfl, rfl, rfl, fun h => absurd h (by decide), II_th hI⟩
  · rw [known_no σ (Or.inr h), if_pos h]
    refine ⟨1, 0, σ, st τ 0 0 1, y, rfl, ?_, rfl, fun h => absurd h (by decide), II_th hI⟩
    split <;> rfl
  · rw [h, known_yes σ hd (by omega), if_neg (nI_pos (by omega)), if_neg (nI_ge hd (by omega)), e, fits_eq hI ho hd]
    have hI0 : II σ (st τ 0 0 0) := II_th hI
    have t := through_eq hI0 ho hd
    have ePS : PS σ (st τ 0 0 0) o d = PS σ τ o d := rfl
    rw [ePS] at t
    unfold C_MD_passes_26
    rw [goes_0]
    simp only [Option.bind_some, ↓reduceIte]
    rw [if_neg (show ¬ (1 : Int32) = 0 by decide), t]
    cases PS σ τ o d
    · exact ⟨0, 0, σ, st τ 0 0 0, _, rfl, rfl, rfl, fun _ => pk_uLs, hI0⟩
    · exact ⟨0, 1, σ, st τ 0 0 0, _, rfl, rfl, rfl, fun _ => pk_uLs, hI0⟩
