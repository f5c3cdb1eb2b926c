/-! way: words of bits against distances -/
theorem and1c (y : Int64) : y &&& 1 = 0 ∨ y &&& 1 = 1 := by
  by_cases h : y.toBitVec.getLsbD 0 = true
  · right
    rw [← Int64.toBitVec_inj, Int64.toBitVec_and]
    show y.toBitVec &&& 1#64 = 1#64
    apply BitVec.eq_of_getLsbD_eq
    intro i hi
    cases i with
    | zero => simp [h]
    | succ i => simp
  · left
    rw [← Int64.toBitVec_inj, Int64.toBitVec_and]
    show y.toBitVec &&& 1#64 = 0#64
    apply BitVec.eq_of_getLsbD_eq
    intro i hi
    cases i with
    | zero => have q := ts_nt h; simpa using q
    | succ i => simp
theorem s_l64 : ∀ n, n < 64 → ((nI n).toInt64.toUInt64 &&& Int64.toUInt64 63).toNat = n := by decide +kernel
theorem one_l64 : ∀ n, n < 64 → (1 <<< ((nI n).toInt64 &&& 63) : Int64).toBitVec = BitVec.twoPow 64 n := by decide +kernel
theorem lush_bit (X : Int64) {k : Nat} (hk : k < 64) : (lush X (nI k) &&& 1 = 1) ↔ X.toBitVec.getLsbD k = true := by
  have t := ts_bit (w := X) hk (s_l64 k hk)
  unfold lush
  constructor
  · intro h
    apply ts_nf
    intro q
    rw [t.mpr q] at h
    exact absurd h (by decide)
  · intro h
    rcases and1c (X.toUInt64 >>> ((nI k).toInt64.toUInt64 &&& Int64.toUInt64 63)).toInt64 with q | q
    · rw [t.mp q] at h; cases h
    · exact q
theorem fit_L {σ τ : Sg} (hI : II σ τ) {o : Nat} (ho : o < no τ) : ∀ (c k N : Nat) (X : Int64), k + c = ndr τ → c < N → (∀ d, d < k → X.toBitVec.getLsbD d = PS σ τ o d) → (∀ d, k ≤ d → d < 64 → X.toBitVec.getLsbD d = false) →
    ∃ X', L_PM_fittingDoors_5 σ N (nI o) X (nI k) = some X' ∧ ∀ d, d < ndr τ → X'.toBitVec.getLsbD d = PS σ τ o d := by
  have hn := hI.1.1.2.2.1
  have hs : σ 4 0 = nI (ndr τ) := hI.2.1.2.2.2.2.2.1.1.trans hn.1
  intro c
  induction c with
  | zero =>
    intro k N X hk hc h1 h2
    obtain ⟨N, rfl⟩ : ∃ N', N = N' + 1 := ⟨N - 1, by omega⟩
    refine ⟨X, ?_, fun d hd => h1 d (by omega)⟩
    show B_PM_fittingDoors_5 σ (L_PM_fittingDoors_5 σ N) (nI o) X (nI k) = _
    unfold B_PM_fittingDoors_5
    rw [hs, if_pos (nI_le (by omega) (by omega))]
  | succ c ih =>
    intro k N X hk hc h1 h2
    obtain ⟨N, rfl⟩ : ∃ N', N = N' + 1 := ⟨N - 1, by omega⟩
    have hB : L_PM_fittingDoors_5 σ (N + 1) (nI o) X (nI k) = B_PM_fittingDoors_5 σ (L_PM_fittingDoors_5 σ N) (nI o) X (nI k) := rfl
    rw [hB]
    unfold B_PM_fittingDoors_5
    rw [hs, if_neg (nI_ge (by omega) (by omega)), fits_eq hI ho (by omega), Option.bind_some, nI_1]
    simp only [lt1]
    by_cases z : PS σ τ o k = true
    · rw [z, bI_t, if_neg (show ¬ (1 : Int32) = 0 by decide)]
      have hb : ∀ d, d < 64 → (X ||| (1 <<< ((nI k).toInt64 &&& 63))).toBitVec.getLsbD d = (X.toBitVec.getLsbD d || decide (k = d)) := by
        intro d hd
        rw [Int64.toBitVec_or, one_l64 k (by omega), BitVec.getLsbD_or, BitVec.getLsbD_twoPow]
        simp [show k < 64 by omega]
      refine ih (k + 1) N _ (by omega) (by omega) (fun d hd => ?_) (fun d hd hd2 => ?_)
      · rw [hb d (by omega)]
        by_cases y : k = d
        · rw [← y, z, h2 k (by omega) (by omega)]; simp
        · rw [h1 d (by omega)]; simp [y]
      · rw [hb d hd2, h2 d (by omega) hd2]
        simp; omega
    · rw [ts_nt z, bI_f, if_pos rfl]
      refine ih (k + 1) N X (by omega) (by omega) (fun d hd => ?_) (fun d hd hd2 => h2 d (by omega) hd2)
      by_cases y : d = k
      · rw [y, ts_nt z, h2 k (by omega) (by omega)]
      · exact h1 d (by omega)
def ea (τ : Sg) (d : Nat) : Nat := (τ 12 d).toNatClampNeg
def eb (τ : Sg) (d : Nat) : Nat := (τ 13 d).toNatClampNeg
theorem ends {τ : Sg} (hG : GG τ) {d : Nat} (hd : d < ndr τ) : τ 12 d = nI (ea τ d) ∧ ea τ d < 24 ∧ τ 13 d = nI (eb τ d) ∧ eb τ d < 24 := by
  have hn := hG.1.1.2
  obtain ⟨⟨a, ha, e1⟩, ⟨b, hb, e2⟩⟩ := hG.2.2.2.2.1 d hd
  unfold ea eb
  rw [e1, e2, nI_clamp (by omega), nI_clamp (by omega)]
  exact ⟨rfl, by omega, rfl, by omega⟩
def dF (τ : Sg) (pz S : Nat → Bool) (p d : Nat) : Bool := pz d && ((S (ea τ d) || S (eb τ d)) && (decide (p = ea τ d) || decide (p = eb τ d)))
def rs (τ : Sg) (pz : Nat → Bool) (x : Int32) : Nat → Nat → Bool
  | 0, p => decide (x = nI p)
  | s + 1, p => rs τ pz x s p || ex (dF τ pz (rs τ pz x s) p) (ndr τ) 0
theorem rs_s (τ : Sg) (pz : Nat → Bool) (x : Int32) (s p : Nat) : rs τ pz x (s + 1) p = (rs τ pz x s p || ex (dF τ pz (rs τ pz x s) p) (ndr τ) 0) := rfl
theorem rs_m {τ : Sg} {pz : Nat → Bool} {x : Int32} {p : Nat} : ∀ {s s' : Nat}, s ≤ s' → rs τ pz x s p = true → rs τ pz x s' p = true := by
  intro s s' h
  induction s' with
  | zero => intro q; rw [show s = 0 by omega] at q; exact q
  | succ s' ih =>
    intro q
    by_cases z : s = s' + 1
    · rw [← z]; exact q
    · rw [rs_s, ih (by omega) q, Bool.true_or]
theorem dF_iff {τ : Sg} {pz S : Nat → Bool} {p d : Nat} : dF τ pz S p d = true ↔ pz d = true ∧ (S (ea τ d) = true ∨ S (eb τ d) = true) ∧ (p = ea τ d ∨ p = eb τ d) := by
  unfold dF
  simp only [Bool.and_eq_true, Bool.or_eq_true, decide_eq_true_iff]
theorem rs_stop {τ : Sg} (hG : GG τ) {pz : Nat → Bool} {x : Int32} {s : Nat} (h : ∀ p, p < 32 → rs τ pz x (s + 1) p = rs τ pz x s p) : ∀ (j p : Nat), p < 32 → rs τ pz x (s + j) p = rs τ pz x s p := by
  intro j
  induction j with
  | zero => intro p _; rfl
  | succ j ih =>
    intro p hp
    rw [← h p hp]
    show rs τ pz x (s + j + 1) p = _
    rw [rs_s, rs_s, ih p hp]
    congr 1
    refine ex_congr (ndr τ) 0 (fun d _ hd => ?_)
    obtain ⟨_, a1, _, a2⟩ := ends hG (d := d) (by omega)
    unfold dF
    rw [ih (ea τ d) (by omega), ih (eb τ d) (by omega)]
theorem spread_L {σ τ : Sg} (hI : II σ τ) {pz S : Nat → Bool} {w : Int32} {X : Int64} (hw : ∀ p, p < 32 → bt w p = S p) (hX : ∀ d, d < ndr τ → X.toBitVec.getLsbD d = pz d) : ∀ (c k N : Nat) (w4 : Int32), k + c = ndr τ → c < N →
    ∃ w', L_Doors_spread_6 σ N w X w4 (nI k) = some w' ∧ ∀ p, p < 32 → bt w' p = (bt w4 p || ex (dF τ pz S p) c k) := by
  have hn := hI.1.1.2.2.1
  have hs : σ 4 0 = nI (ndr τ) := hI.2.1.2.2.2.2.2.1.1.trans hn.1
  intro c
  induction c with
  | zero =>
    intro k N w4 hk hc
    obtain ⟨N, rfl⟩ : ∃ N', N = N' + 1 := ⟨N - 1, by omega⟩
    refine ⟨w4, ?_, fun p _ => by simp only [ex, Bool.or_false]⟩
    show B_Doors_spread_6 σ (L_Doors_spread_6 σ N) w X w4 (nI k) = _
    unfold B_Doors_spread_6
    rw [hs, if_pos (nI_le (by omega) (by omega))]
  | succ c ih =>
    intro k N w4 hk hc
    obtain ⟨N, rfl⟩ : ∃ N', N = N' + 1 := ⟨N - 1, by omega⟩
    obtain ⟨e1, a1, e2, a2⟩ := ends hI.1 (d := k) (by omega)
    obtain ⟨f1, f2, _, _⟩ := hI.2.1.2.2.2.2.2.1.2 k (by omega)
    have hB : L_Doors_spread_6 σ (N + 1) w X w4 (nI k) = B_Doors_spread_6 σ (L_Doors_spread_6 σ N) w X w4 (nI k) := rfl
    have u := lush_bit X (k := k) (by omega)
    rw [hX k (by omega)] at u
    have hd : ∀ p, dF τ pz S p k = (pz k && ((S (ea τ k) || S (eb τ k)) && (decide (p = ea τ k) || decide (p = eb τ k)))) := fun p => rfl
    rw [hB]
    unfold B_Doors_spread_6
    rw [hs, if_neg (nI_ge (by omega) (by omega)), inB_nI (by omega) (by omega), nI_clamp (by omega), f1, f2, e1, e2, nI_1]
    simp only [gd_t, lt1, lg_cmp_eq, ex, hd]
    generalize ea τ k = a at a1
    generalize eb τ k = b at a2
    have hy : ∀ p, p < 32 → bt ((1 <<< (nI a &&& 31)) ||| (1 <<< (nI b &&& 31))) p = (decide (p = a) || decide (p = b)) := by
      intro p hp
      rw [b_or, shl_bit (by omega) hp, shl_bit (by omega) hp]
    generalize ((1 <<< (nI a &&& 31)) ||| (1 <<< (nI b &&& 31)) : Int32) = y1 at hy
    by_cases z1 : pz k = true
    · rw [if_pos (u.mpr z1), z1]
      by_cases z2 : (S a || S b) = true
      · have nz : ¬ w &&& y1 = 0 := by
          intro q
          rcases (Bool.or_eq_true _ _).mp z2 with z | z
          · have t := congrArg (fun v => bt v a) q
            simp only [b_and, b_0] at t
            rw [hw a (by omega), hy a (by omega), z] at t
            simp at t
          · have t := congrArg (fun v => bt v b) q
            simp only [b_and, b_0] at t
            rw [hw b (by omega), hy b (by omega), z] at t
            simp at t
        rw [if_neg nz, z2]
        obtain ⟨w', i1, i2⟩ := ih (k + 1) N (w4 ||| y1) (by omega) (by omega)
        refine ⟨w', i1, fun p hp => ?_⟩
        rw [i2 p hp, b_or, hy p hp, Bool.or_assoc, Bool.true_and, Bool.true_and]
      · have nz : w &&& y1 = 0 := by
          have z := ts_nt z2
          rw [Bool.or_eq_false_iff] at z
          apply b_ext
          intro i hi
          rw [b_and, b_0, hw i hi, hy i hi]
          by_cases y : i = a
          · rw [y, z.1]; rfl
          · by_cases y' : i = b
            · rw [y', z.2]; rfl
            · simp [y, y']
        rw [if_pos nz, ts_nt z2]
        obtain ⟨w', i1, i2⟩ := ih (k + 1) N w4 (by omega) (by omega)
        refine ⟨w', i1, fun p hp => ?_⟩
        rw [i2 p hp]
        simp
    · rw [if_neg (fun q => z1 (u.mp q)), ts_nt z1]
      obtain ⟨w', i1, i2⟩ := ih (k + 1) N w4 (by omega) (by omega)
      refine ⟨w', i1, fun p hp => ?_⟩
      rw [i2 p hp]
      simp
def WaY (τ : Sg) (pz : Nat → Bool) (x : Int32) (t : Nat) (v : Int32) : Prop :=
  (∃ s, s ≤ 24 ∧ v = nI s ∧ rs τ pz x s t = true ∧ ∀ s', s' < s → rs τ pz x s' t = false) ∨ (v = -1 ∧ ∀ s, s ≤ 24 → rs τ pz x s t = false)
theorem WaY_eq {τ : Sg} {pz : Nat → Bool} {x : Int32} {t : Nat} {v w : Int32} (a : WaY τ pz x t v) (b : WaY τ pz x t w) : v = w := by
  rcases a with ⟨s, a1, a2, a3, a4⟩ | ⟨a1, a2⟩
  · rcases b with ⟨s', b1, b2, b3, b4⟩ | ⟨_, b2⟩
    · by_cases z1 : s < s'
      · rw [b4 s z1] at a3; cases a3
      · by_cases z2 : s' < s
        · rw [a4 s' z2] at b3; cases b3
        · rw [a2, b2, show s = s' by omega]
    · rw [b2 s a1] at a3; cases a3
  · rcases b with ⟨s', b1, _, b3, _⟩ | ⟨b1, _⟩
    · rw [a2 s' b1] at b3; cases b3
    · rw [a1, b1]
theorem between_L {σ τ : Sg} (hI : II σ τ) {pz : Nat → Bool} {x : Int32} {X : Int64} (hX : ∀ d, d < ndr τ → X.toBitVec.getLsbD d = pz d) {t : Nat} (ht : t < 24) : ∀ (c s N : Nat) (w : Int32), s + c = 24 → c < N → (∀ p, p < 32 → bt w p = rs τ pz x s p) → s + 1 ≤ cnt (rs τ pz x s) 24 → (∀ s', s' < s → rs τ pz x s' t = false) →
    ∃ v, L_PM_doorsBetween_8 σ N (nI t) X w (nI s) = some v ∧ WaY τ pz x t v := by
  have hn := hI.1.1.2.2.1
  intro c
  induction c with
  | zero =>
    intro s N w hs hc hw hcnt hno
    have := cnt_le (rs τ pz x s) 24
    omega
  | succ c ih =>
    intro s N w hs hc hw hcnt hno
    obtain ⟨N, rfl⟩ : ∃ N', N = N' + 1 := ⟨N - 1, by omega⟩
    have hB : L_PM_doorsBetween_8 σ (N + 1) (nI t) X w (nI s) = B_PM_doorsBetween_8 σ (L_PM_doorsBetween_8 σ N) (nI t) X w (nI s) := rfl
    have h24 : ¬ (24 : Int32) ≤ nI s := nI_ge (b := 24) (by omega) (by omega)
    have u := ush_bit w (q := t) (by omega)
    rw [hw t (by omega)] at u
    rw [hB]
    unfold B_PM_doorsBetween_8
    rw [if_neg h24]
    by_cases z : rs τ pz x s t = true
    · rw [if_pos (u.mpr z)]
      exact ⟨_, rfl, Or.inl ⟨s, by omega, rfl, z, hno⟩⟩
    · rw [if_neg (fun q => z (u.mp q))]
      obtain ⟨w', e, hw'⟩ := spread_L hI hw hX (ndr τ) 0 fuel w (by omega) (by unfold fuel; omega)
      have hw2 : ∀ p, p < 32 → bt w' p = rs τ pz x (s + 1) p := fun p hp => by rw [hw' p hp, hw p hp, rs_s]
      have e' : f_Doors_spread σ w X = some w' := e
      rw [e', Option.bind_some, nI_1]
      by_cases y : w' = w
      · rw [if_pos y]
        refine ⟨-1, rfl, Or.inr ⟨rfl, fun s' _ => ?_⟩⟩
        have st1 := rs_stop hI.1 (pz := pz) (x := x) (s := s) (fun p hp => by rw [← hw2 p hp, ← hw p hp, y])
        by_cases q : s' < s
        · exact hno s' q
        · have := st1 (s' - s) t (by omega)
          rw [show s + (s' - s) = s' by omega] at this
          rw [this]
          exact ts_nt z
      · rw [if_neg y]
        have hp : ∃ p, p < 32 ∧ bt w' p ≠ bt w p := by
          apply Classical.byContradiction
          intro q
          exact y (b_ext (fun i hi => Classical.byContradiction (fun m => q ⟨i, hi, m⟩)))
        obtain ⟨p, hp, hne⟩ := hp
        rw [hw2 p hp, hw p hp, rs_s] at hne
        have r0 : rs τ pz x s p = false := by
          apply ts_nt
          intro q
          rw [q] at hne
          exact hne rfl
        have r1 : ex (dF τ pz (rs τ pz x s) p) (ndr τ) 0 = true := by
          apply ts_nf
          intro q
          rw [r0, q] at hne
          exact hne rfl
        have p24 : p < 24 := by
          obtain ⟨d, _, hd, q⟩ := (ex_iff _ _ _).mp r1
          obtain ⟨_, a1, _, a2⟩ := ends hI.1 (d := d) (by omega)
          rcases (dF_iff.mp q).2.2 with q | q <;> omega
        have g := cnt_lt (f := rs τ pz x s) (g := rs τ pz x (s + 1)) (j := p) (by rw [rs_s, r1, Bool.or_true]) r0 24 p24 (fun i _ q => rs_m (by omega) q)
        refine ih (s + 1) N w' (by omega) (by omega) hw2 (by omega) (fun s' q => ?_)
        by_cases q2 : s' = s
        · rw [q2]; exact ts_nt z
        · exact hno s' (by omega)
theorem between_eq {σ τ : Sg} (hI : II σ τ) {pz : Nat → Bool} {f : Nat} (hf : f < 24) {X : Int64} (hX : ∀ d, d < ndr τ → X.toBitVec.getLsbD d = pz d) {t : Nat} (ht : t < 24) : ∃ v, f_PM_doorsBetween σ (nI f) (nI t) X = some v ∧ WaY τ pz (nI f) t v := by
  have r0 : ∀ p, p < 32 → rs τ pz (nI f) 0 p = decide (p = f) := by
    intro p hp
    show decide (nI f = nI p) = _
    exact decide_eq_decide.mpr ((nI_eq (by omega) (by omega)).trans ⟨fun q => q.symm, fun q => q.symm⟩)
  have g := cnt_lt (f := fun _ => false) (g := rs τ pz (nI f) 0) (j := f) (by rw [r0 f (by omega)]; simp) rfl 24 hf (fun i _ q => by cases q)
  exact between_L hI hX ht 24 0 fuel (1 <<< (nI f &&& 31)) (by omega) (by unfold fuel; omega) (fun p hp => by rw [r0 p hp, shl_bit (by omega) hp]) (by omega) (fun s' q => absurd q (Nat.not_lt_zero s'))
