/-! places, plans, weights: liesIn, lies, weighAt, weightOf, weight, loadsHoldAt, bears -/
def PG (τ : Sg) : Prop := ∀ j, j < np τ → τ 1 j = -1 ∨ ∃ k, k < j ∧ τ 1 j = nI k
def VP (τ : Sg) (x : Int32) : Prop := x = -1 ∨ ∃ p, p < np τ ∧ x = nI p
def an (par : Nat → Int32) (q : Int32) : Nat → Int32 → Bool
  | 0, _ => false
  | s + 1, x => if x = -1 then false else if x = q then true else an par q s (par x.toNatClampNeg)
def lb (τ : Sg) (x : Int32) (q : Nat) : Bool := an (τ 1) (nI q) 24 x
def PA (σ τ : Sg) : Prop := σ 1 0 = τ 0 2 ∧ (∀ j, j < np τ → σ 9 j = τ 2 j) ∧ (∀ j, j < np τ → ∀ q, q < 24 → bt (σ 10 j) q = lb τ (nI j) q)
def LG (τ : Sg) : Prop := ∀ k, k < npl τ → (∃ o, o < no τ ∧ τ 17 k = nI o) ∧ (∃ p, p < np τ ∧ τ 18 k = nI p) ∧ τ 19 k ≤ 1000000
def LA (σ τ : Sg) : Prop := σ 5 0 = τ 0 5 ∧ (∀ k, k < npl τ → σ 25 k = τ 17 k ∧ σ 26 k = τ 18 k ∧ σ 27 k = τ 19 k ∧ σ 28 k = τ 20 k)
def TW (σ τ : Sg) : Prop := σ 2 0 = τ 0 3 ∧ (∀ o, o < no τ → σ 14 o = τ 4 o)
def w8 (σ : Sg) (b : Nat → Int32) : Sg := fun q => if q = 8 then b else σ q
theorem w8_8 (σ : Sg) (b : Nat → Int32) : w8 σ b 8 = b := if_pos rfl
theorem w8_n (σ : Sg) (b : Nat → Int32) {q : Nat} (h : q ≠ 8) : w8 σ b q = σ q := if_neg h
theorem w8_st (σ : Sg) (b : Nat → Int32) (j : Nat) (x : Int32) : st (w8 σ b) 8 j x = w8 σ (upd b j x) := by
  funext q
  unfold st
  by_cases h : q = 8
  · rw [if_pos h, w8_8, h, w8_8]
  · rw [if_neg h, w8_n σ b h, w8_n σ _ h]
theorem w8_w8 (σ : Sg) (b b' : Nat → Int32) : w8 (w8 σ b) b' = w8 σ b' := by
  funext q
  by_cases h : q = 8
  · rw [h, w8_8, w8_8]
  · rw [w8_n _ _ h, w8_n _ _ h, w8_n _ _ h]
theorem w8_id (σ : Sg) : w8 σ (σ 8) = σ := by
  funext q
  by_cases h : q = 8
  · rw [h, w8_8]
  · rw [w8_n _ _ h]
theorem RA_w8 {σ τ : Sg} {b : Nat → Int32} (h : RA σ τ) : RA (w8 σ b) τ := h
theorem PA_w8 {σ τ : Sg} {b : Nat → Int32} (h : PA σ τ) : PA (w8 σ b) τ := h
theorem LA_w8 {σ τ : Sg} {b : Nat → Int32} (h : LA σ τ) : LA (w8 σ b) τ := h
theorem TW_w8 {σ τ : Sg} {b : Nat → Int32} (h : TW σ τ) : TW (w8 σ b) τ := h
theorem an_m1 (par : Nat → Int32) (q : Int32) (s : Nat) : an par q s (-1) = false := by
  cases s with
  | zero => rfl
  | succ s => simp only [an, if_true]
theorem an_s {par : Nat → Int32} {q : Int32} {s j : Nat} (hj : j < 2 ^ 31) : an par q (s + 1) (nI j) = if nI j = q then true else an par q s (par j) := by
  simp only [an]
  rw [if_neg (nI_m1 hj), nI_clamp hj]
theorem lb_m1 (τ : Sg) (q : Nat) : lb τ (-1) q = false := an_m1 _ _ _
theorem lies_L {τ : Sg} (hN : NG τ) (hP : PG τ) {q : Nat} (hq : q < 24) : ∀ j, j < np τ → ∀ N s, j + 2 ≤ N → j + 1 ≤ s → L_MD_lies_2 τ N (nI q) (nI j) = some (bI (an (τ 1) (nI q) s (nI j))) := by
  have hn := hN.1.2
  intro j
  induction j using Nat.strongRecOn with
  | ind j ih =>
    intro hj N s h1 h2
    obtain ⟨N, rfl⟩ : ∃ N', N = N' + 1 := ⟨N - 1, by omega⟩
    obtain ⟨s, rfl⟩ : ∃ s', s = s' + 1 := ⟨s - 1, by omega⟩
    show B_MD_lies_2 τ (L_MD_lies_2 τ N) (nI q) (nI j) = _
    unfold B_MD_lies_2
    rw [an_s (by omega), if_neg (nI_m1 (by omega))]
    by_cases z : nI j = nI q
    · rw [if_pos z, if_pos z, if_neg (nI_m1 (by omega)), if_pos z]; rfl
    · rw [if_neg z, if_neg z, inB_nI (by omega) (by omega), nI_clamp (by omega)]
      simp only [gd_t, lt1]
      rcases hP j hj with e | ⟨k, hk, e⟩
      · obtain ⟨N, rfl⟩ : ∃ N', N = N' + 1 := ⟨N - 1, by omega⟩
        rw [e, an_m1]
        show B_MD_lies_2 τ (L_MD_lies_2 τ N) (nI q) (-1) = _
        unfold B_MD_lies_2
        rw [if_pos rfl, if_neg (fun a => nI_m1 (by omega) a.symm)]; rfl
      · rw [e]
        exact ih k hk (by omega) N s (by omega) (by omega)
theorem lies_eq {τ : Sg} (hN : NG τ) (hP : PG τ) {x : Int32} (hx : VP τ x) {q : Nat} (hq : q < 24) : f_MD_lies τ x (nI q) = some (bI (lb τ x q)) := by
  have hn := hN.1.2
  unfold f_MD_lies
  rcases hx with e | ⟨p, hp, e⟩
  · rw [e, lb_m1]
    show B_MD_lies_2 τ (L_MD_lies_2 τ 1999) (nI q) (-1) = _
    unfold B_MD_lies_2
    rw [if_pos rfl, if_neg (fun a => nI_m1 (by omega) a.symm)]; rfl
  · rw [e]
    exact lies_L hN hP hq p hp fuel 24 (by unfold fuel; omega) (by omega)
theorem around_eq {σ τ : Sg} (hN : NG τ) (hA : PA σ τ) {x : Int32} (hx : VP τ x) : ∃ r, f_Places_around σ x = some r ∧ ∀ q, q < 24 → bt r q = lb τ x q := by
  have hn := hN.1.2
  unfold f_Places_around
  rcases hx with e | ⟨p, hp, e⟩
  · refine ⟨0, ?_, fun q _ => by rw [e, lb_m1, b_0]⟩
    rw [e, if_pos (by decide)]
  · refine ⟨σ 10 p, ?_, fun q hq => by rw [e, hA.2.2 p hp q hq]⟩
    rw [e, if_neg (nI_pos (by omega)), hA.1, hN.1.1, if_pos (nI_lt hp (by omega)), inB_nI (by omega) (by omega), nI_clamp (by omega)]
    rfl
theorem liesIn_eq {σ τ : Sg} (hN : NG τ) (hA : PA σ τ) {x : Int32} (hx : VP τ x) {q : Nat} (hq : q < 24) : f_Places_liesIn σ x (nI q) = some (bI (lb τ x q)) := by
  obtain ⟨r, e, h⟩ := around_eq hN hA hx
  unfold f_Places_liesIn
  rw [e, Option.bind_some]
  have u := ush_bit r (show q < 32 by omega)
  rw [h q hq] at u
  by_cases z : lb τ x q = true
  · rw [if_pos (u.mpr z), z]; rfl
  · rw [if_neg (fun a => z (u.mp a)), ts_nt z]; rfl
theorem wk_VP {τ : Sg} (hN : NG τ) (hG : RG τ) {h : Int32} : ∀ (s o : Nat) (v : Int32), o < 20 → wk (nd τ h) s o = some v → VP τ v := by
  have hn := hN.2.1.2
  intro s
  induction s with
  | zero => intro o v _ e; cases e
  | succ s ih =>
    intro o v ho e
    cases f : lr (τ 9) (40 * o) h (mm τ o) with
    | none => rw [wk_l (nd_n f)] at e; cases e; exact Or.inl rfl
    | some j =>
      obtain ⟨k, hk, hj, hj8, c⟩ := row_at hG ho f
      have r := nd_s f
      rcases c with ⟨c1, p, hp, c2⟩ | ⟨c1, b, hb, c2⟩ | ⟨c1, _⟩
      · rw [c1, if_neg (by decide), if_pos rfl] at r
        rw [wk_l r] at e; cases e; exact Or.inr ⟨p, hp, c2⟩
      · rw [c1, if_neg (by decide), if_neg (by decide), c2, nI_clamp (by omega)] at r
        rw [wk_r r] at e
        exact ih b v (by omega) e
      · rw [c1, if_pos rfl] at r
        rw [wk_l r] at e; cases e; exact Or.inl rfl
theorem AT_VP {τ : Sg} (hN : NG τ) (hG : RG τ) {h : Int32} {o : Nat} (ho : o < 20) : VP τ (AT τ h o) := by
  unfold AT
  cases e : wk (nd τ h) 20 o with
  | none => exact Or.inl rfl
  | some v => exact wk_VP hN hG 20 o v ho e
def cov (τ : Sg) (h : Int32) (k : Nat) : Bool := !decide (h < τ 19 k) && !decide (τ 20 k < h)
theorem plans_cov {σ τ : Sg} (hN : NG τ) (hA : LA σ τ) {k : Nat} (hk : k < npl τ) (h : Int32) : f_Plans_covers σ (nI k) h = some (bI (cov τ h k)) := by
  have hn := hN.2.2.2.1.2
  have r := hA.2 k hk
  unfold f_Plans_covers cov
  rw [inB_nI (by omega) (by omega), nI_clamp (by omega), r.2.2.1, r.2.2.2]
  simp only [gd_t]
  by_cases z1 : h < τ 19 k
  · rw [if_pos z1]; simp [z1, bI]
  · rw [if_neg z1]
    by_cases z2 : τ 20 k < h
    · rw [if_pos z2]; simp [z2, bI]
    · rw [if_neg z2]; simp [z1, z2, bI]
theorem within_eq (τ : Sg) (x a b : Int32) : f_MD_within τ x a b = some (bI (!decide (x < a) && !decide (b < x))) := by
  unfold f_MD_within
  by_cases z1 : x < a
  · rw [if_pos z1]; simp [z1, bI]
  · rw [if_neg z1]
    by_cases z2 : b < x
    · rw [if_pos z2]; simp [z2, bI]
    · rw [if_neg z2]; simp [z1, z2, bI]
def plF (τ : Sg) (h : Int32) (q o : Nat) (k : Nat) : Bool := decide (τ 17 k = nI o) && (cov τ h k && lb τ (τ 18 k) q)
def ipl (τ : Sg) (h : Int32) (q o : Nat) : Bool := ex (plF τ h q o) (npl τ) 0
theorem isPlanned_L {τ : Sg} (hN : NG τ) (hP : PG τ) (hL : LG τ) (h : Int32) {q : Nat} (hq : q < 24) (o : Nat) : ∀ (c k N : Nat), k + c = npl τ → c < N → L_MD_isPlanned_3 τ N (nI o) (nI q) h (nI k) = some (bI (ex (plF τ h q o) c k)) := by
  have hn := hN.2.2.2.1.2
  intro c
  induction c with
  | zero =>
    intro k N hk hc
    obtain ⟨N, rfl⟩ : ∃ N', N = N' + 1 := ⟨N - 1, by omega⟩
    show B_MD_isPlanned_3 τ (L_MD_isPlanned_3 τ N) (nI o) (nI q) h (nI k) = _
    unfold B_MD_isPlanned_3
    rw [hN.2.2.2.1.1, if_pos (nI_le (by omega) (by omega))]
    rfl
  | succ c ih =>
    intro k N hk hc
    obtain ⟨N, rfl⟩ : ∃ N', N = N' + 1 := ⟨N - 1, by omega⟩
    have i := ih (k + 1) N (by omega) (by omega)
    show B_MD_isPlanned_3 τ (L_MD_isPlanned_3 τ N) (nI o) (nI q) h (nI k) = _
    unfold B_MD_isPlanned_3
    rw [hN.2.2.2.1.1, if_neg (nI_ge (by omega) (by omega)), inB_nI (by omega) (by omega), nI_clamp (by omega), nI_1, i]
    simp only [gd_t, ex]
    obtain ⟨_, ⟨p, hp, ep⟩, _⟩ := hL k (by omega)
    by_cases z1 : τ 17 k = nI o
    · rw [if_pos z1, within_eq, Option.bind_some]
      have hc : (!decide (h < τ 19 k) && !decide (τ 20 k < h)) = cov τ h k := rfl
      rw [hc]
      by_cases z2 : cov τ h k = true
      · rw [z2, if_neg (by decide), lies_eq hN hP (Or.inr ⟨p, hp, ep⟩) hq, Option.bind_some]
        by_cases z3 : lb τ (τ 18 k) q = true
        · rw [z3, if_neg (by decide)]
          simp [plF, z1, z2, z3, bI]
        · rw [ts_nt z3, bI_f, if_pos rfl]
          simp [plF, ts_nt z3]
      · rw [ts_nt z2, bI_f, if_pos rfl]
        simp [plF, ts_nt z2]
    · rw [if_neg z1]
      simp [plF, z1]
theorem isPlanned_eq {τ : Sg} (hN : NG τ) (hP : PG τ) (hL : LG τ) (h : Int32) {q : Nat} (hq : q < 24) (o : Nat) : f_MD_isPlanned τ (nI o) (nI q) h = some (bI (ipl τ h q o)) := by
  have hn := hN.2.2.2.1.2
  unfold f_MD_isPlanned
  exact isPlanned_L hN hP hL h hq o (npl τ) 0 fuel (by omega) (by unfold fuel; omega)
def wF (τ : Sg) (A : Nat → Int32) (h : Int32) (q o : Nat) : Bool := lb τ (A o) q || ipl τ h q o
def WT (τ : Sg) (A : Nat → Int32) (h : Int32) (q : Nat) : Int32 := ws (τ 4) (wF τ A h q) (no τ) 0 0
theorem weight_L {τ : Sg} (hN : NG τ) (hG : RG τ) (hP : PG τ) (hL : LG τ) {h : Int32} (hV : ∀ o, o < 20 → VP τ (AQ τ h o)) {q : Nat} (hq : q < 24) : ∀ (c k N : Nat) (acc : Int32), k + c = no τ → c < N → L_MD_weight_5 τ N (nI q) h acc (nI k) = some (ws (τ 4) (wF τ (AQ τ h) h q) c k acc) := by
  have hn := hN.2.1.2
  intro c
  induction c with
  | zero =>
    intro k N acc hk hc
    obtain ⟨N, rfl⟩ : ∃ N', N = N' + 1 := ⟨N - 1, by omega⟩
    show B_MD_weight_5 τ (L_MD_weight_5 τ N) (nI q) h acc (nI k) = _
    unfold B_MD_weight_5
    rw [hN.2.1.1, if_pos (nI_le (by omega) (by omega))]
    rfl
  | succ c ih =>
    intro k N acc hk hc
    obtain ⟨N, rfl⟩ : ∃ N', N = N' + 1 := ⟨N - 1, by omega⟩
    show B_MD_weight_5 τ (L_MD_weight_5 τ N) (nI q) h acc (nI k) = _
    unfold B_MD_weight_5
    rw [hN.2.1.1, if_neg (nI_ge (by omega) (by omega)), at_eq hN hG h (by omega), Option.bind_some, lies_eq hN hP (hV k (by omega)) hq, Option.bind_some, isPlanned_eq hN hP hL h hq k, inB_nI (by omega) (by omega), nI_clamp (by omega), nI_1]
    simp only [gd_t, lt1, Option.bind_some, ws]
    by_cases z1 : lb τ (AQ τ h k) q = true
    · have w : wF τ (AQ τ h) h q k = true := by unfold wF; rw [z1, Bool.true_or]
      rw [z1, if_neg (by decide), if_pos w]
      exact ih (k + 1) N _ (by omega) (by omega)
    · rw [ts_nt z1, bI_f, if_pos rfl]
      by_cases z2 : ipl τ h q k = true
      · have w : wF τ (AQ τ h) h q k = true := by unfold wF; rw [z2, Bool.or_true]
        rw [z2, if_neg (by decide), if_pos w]
        exact ih (k + 1) N _ (by omega) (by omega)
      · have w : ¬ wF τ (AQ τ h) h q k = true := by unfold wF; rw [ts_nt z1, ts_nt z2]; decide
        rw [ts_nt z2, bI_f, if_pos rfl, if_neg w]
        exact ih (k + 1) N _ (by omega) (by omega)
theorem weight_eq {τ : Sg} (hN : NG τ) (hG : RG τ) (hP : PG τ) (hL : LG τ) {h : Int32} (hV : ∀ o, o < 20 → VP τ (AQ τ h o)) {q : Nat} (hq : q < 24) : f_MD_weight τ (nI q) h = some (WT τ (AQ τ h) h q) := by
  have hn := hN.2.1.2
  unfold f_MD_weight
  exact weight_L hN hG hP hL hV hq (no τ) 0 fuel 0 (by omega) (by unfold fuel; omega)
theorem weigh2_L {σ τ : Sg} (hN : NG τ) (hL : LG τ) (hPA : PA σ τ) (hLA : LA σ τ) (h : Int32) : ∀ (c k N : Nat) (b : Nat → Int32), k + c = npl τ → c < N →
    ∃ b', L_PM_weighAt_40 N h (nI k) (w8 σ b) = some (w8 σ b') ∧ ∀ o, o < no τ → ∀ q, q < 24 → bt (b' o) q = (bt (b o) q || ex (plF τ h q o) c k) := by
  have hn := hN.2.2.2.1.2
  have hno := hN.2.1.2
  intro c
  induction c with
  | zero =>
    intro k N b hk hc
    obtain ⟨N, rfl⟩ : ∃ N', N = N' + 1 := ⟨N - 1, by omega⟩
    refine ⟨b, ?_, fun o _ q _ => by simp only [ex, Bool.or_false]⟩
    show B_PM_weighAt_40 (L_PM_weighAt_40 N) h (nI k) (w8 σ b) = _
    unfold B_PM_weighAt_40
    rw [(LA_w8 (b := b) hLA).1, hN.2.2.2.1.1, if_pos (nI_le (by omega) (by omega))]
  | succ c ih =>
    intro k N b hk hc
    obtain ⟨N, rfl⟩ : ∃ N', N = N' + 1 := ⟨N - 1, by omega⟩
    obtain ⟨⟨o1, ho1, e1⟩, ⟨p, hp, ep⟩, _⟩ := hL k (by omega)
    have r := (LA_w8 (b := b) hLA).2 k (by omega)
    have hB : L_PM_weighAt_40 (N + 1) h (nI k) (w8 σ b) = B_PM_weighAt_40 (L_PM_weighAt_40 N) h (nI k) (w8 σ b) := rfl
    obtain ⟨r5, ea, ha⟩ := around_eq hN (PA_w8 (b := b) hPA) (x := τ 18 k) (Or.inr ⟨p, hp, ep⟩)
    rw [hB]
    unfold B_PM_weighAt_40
    rw [(LA_w8 (b := b) hLA).1, hN.2.2.2.1.1, if_neg (nI_ge (by omega) (by omega)), plans_cov hN (LA_w8 hLA) (by omega), Option.bind_some, inB_nI (by omega) (by omega), nI_clamp (by omega), r.1, r.2.1, e1, inB_nI (by omega) (by omega), nI_clamp (by omega), ea, nI_1]
    simp only [gd_t, lt1, Option.bind_some, ex]
    rw [w8_st, w8_8]
    by_cases z : cov τ h k = true
    · rw [z, if_neg (by decide)]
      obtain ⟨b', i1, i2⟩ := ih (k + 1) N (upd b o1 (b o1 ||| r5)) (by omega) (by omega)
      refine ⟨b', i1, fun o ho q hq => ?_⟩
      rw [i2 o ho q hq]
      by_cases y : o = o1
      · subst y
        rw [pk_us, b_or, ha q hq, Bool.or_assoc]
        simp [plF, e1, z]
      · have y2 : ¬ nI o1 = nI o := fun a => y ((nI_eq (by omega) (by omega)).mp a).symm
        rw [pk_un y]
        simp [plF, e1, y2]
    · rw [ts_nt z, bI_f, if_pos rfl]
      obtain ⟨b', i1, i2⟩ := ih (k + 1) N b (by omega) (by omega)
      refine ⟨b', i1, fun o ho q hq => ?_⟩
      rw [i2 o ho q hq]
      simp [plF, ts_nt z]
theorem weigh1_L {σ τ : Sg} (hN : NG τ) (hG : RG τ) (hRA : RA σ τ) (hPA : PA σ τ) (hTW : TW σ τ) (h : Int32) : ∀ (c k N : Nat) (b : Nat → Int32), k + c = no τ → c < N →
    ∃ b', L_PM_weighAt_2 N h (nI k) (w8 σ b) = L_PM_weighAt_40 fuel h 0 (w8 σ b') ∧ (∀ o, o < k → b' o = b o) ∧ ∀ o, k ≤ o → o < no τ → ∀ q, q < 24 → bt (b' o) q = lb τ (AT τ h o) q := by
  have hno := hN.2.1.2
  intro c
  induction c with
  | zero =>
    intro k N b hk hc
    obtain ⟨N, rfl⟩ : ∃ N', N = N' + 1 := ⟨N - 1, by omega⟩
    refine ⟨b, ?_, fun _ _ => rfl, fun o h1 h2 => absurd h2 (by omega)⟩
    show B_PM_weighAt_2 (L_PM_weighAt_2 N) h (nI k) (w8 σ b) = _
    unfold B_PM_weighAt_2
    rw [(TW_w8 (b := b) hTW).1, hN.2.1.1, if_pos (nI_le (by omega) (by omega))]
  | succ c ih =>
    intro k N b hk hc
    obtain ⟨N, rfl⟩ : ∃ N', N = N' + 1 := ⟨N - 1, by omega⟩
    have hB : L_PM_weighAt_2 (N + 1) h (nI k) (w8 σ b) = B_PM_weighAt_2 (L_PM_weighAt_2 N) h (nI k) (w8 σ b) := rfl
    obtain ⟨r2, ea, ha⟩ := around_eq hN (PA_w8 (b := b) hPA) (AT_VP hN hG (h := h) (o := k) (by omega))
    rw [hB]
    unfold B_PM_weighAt_2
    rw [(TW_w8 (b := b) hTW).1, hN.2.1.1, if_neg (nI_ge (by omega) (by omega)), placeAt_eq hN hG (RA_w8 hRA) h (by omega), Option.bind_some, ea, Option.bind_some, inB_nI (by omega) (by omega), nI_clamp (by omega), nI_1]
    simp only [gd_t, lt1]
    rw [w8_st]
    obtain ⟨b', i1, i2, i3⟩ := ih (k + 1) N (upd b k r2) (by omega) (by omega)
    refine ⟨b', i1, fun o ho => ?_, fun o h1 h2 q hq => ?_⟩
    · rw [i2 o (by omega), pk_un (by omega)]
    · by_cases y : o = k
      · rw [y, i2 k (by omega), pk_us, ha q hq]
      · exact i3 o (by omega) h2 q hq
theorem weighAt_eq {σ τ : Sg} (hN : NG τ) (hG : RG τ) (hL : LG τ) (hRA : RA σ τ) (hPA : PA σ τ) (hLA : LA σ τ) (hTW : TW σ τ) (h : Int32) :
    ∃ b', f_PM_weighAt σ h = some (w8 σ b') ∧ ∀ o, o < no τ → ∀ q, q < 24 → bt (b' o) q = wF τ (AT τ h) h q o := by
  have hno := hN.2.1.2
  have hnl := hN.2.2.2.1.2
  obtain ⟨b1, e1, _, h1⟩ := weigh1_L hN hG hRA hPA hTW h (no τ) 0 fuel (σ 8) (by omega) (by unfold fuel; omega)
  obtain ⟨b2, e2, h2⟩ := weigh2_L hN hL hPA hLA h (npl τ) 0 fuel b1 (by omega) (by unfold fuel; omega)
  refine ⟨b2, ?_, fun o ho q hq => ?_⟩
  · unfold f_PM_weighAt
    rw [w8_id] at e1
    exact e1.trans e2
  · rw [h2 o ho q hq, h1 o (by omega) ho q hq]
    rfl
theorem weightOf_L {σ τ : Sg} (hN : NG τ) (hTW : TW σ τ) {q : Nat} (hq : q < 24) : ∀ (c k N : Nat) (acc : Int32), k + c = no τ → c < N → L_PM_weightOf_4 σ N (nI q) acc (nI k) = some (ws (σ 14) (fun o => bt (σ 8 o) q) c k acc) := by
  have hn := hN.2.1.2
  intro c
  induction c with
  | zero =>
    intro k N acc hk hc
    obtain ⟨N, rfl⟩ : ∃ N', N = N' + 1 := ⟨N - 1, by omega⟩
    show B_PM_weightOf_4 σ (L_PM_weightOf_4 σ N) (nI q) acc (nI k) = _
    unfold B_PM_weightOf_4
    rw [hTW.1, hN.2.1.1, if_pos (nI_le (by omega) (by omega))]
    rfl
  | succ c ih =>
    intro k N acc hk hc
    obtain ⟨N, rfl⟩ : ∃ N', N = N' + 1 := ⟨N - 1, by omega⟩
    show B_PM_weightOf_4 σ (L_PM_weightOf_4 σ N) (nI q) acc (nI k) = _
    unfold B_PM_weightOf_4
    rw [hTW.1, hN.2.1.1, if_neg (nI_ge (by omega) (by omega)), inB_nI (by omega) (by omega), nI_clamp (by omega), nI_1]
    simp only [gd_t, lt1, ws]
    have u := ush_bit (σ 8 k) (show q < 32 by omega)
    by_cases z : bt (σ 8 k) q = true
    · rw [if_pos (u.mpr z), if_pos z]
      exact ih (k + 1) N _ (by omega) (by omega)
    · rw [if_neg (fun a => z (u.mp a)), if_neg z]
      exact ih (k + 1) N _ (by omega) (by omega)
theorem weightOf_eq {σ τ : Sg} (hN : NG τ) (hTW : TW σ τ) {b : Nat → Int32} {A : Nat → Int32} {h : Int32} (hb : ∀ o, o < no τ → ∀ q, q < 24 → bt (b o) q = wF τ A h q o) {q : Nat} (hq : q < 24) : f_PM_weightOf (w8 σ b) (nI q) = some (WT τ A h q) := by
  have hn := hN.2.1.2
  unfold f_PM_weightOf
  have a := weightOf_L hN (TW_w8 (b := b) hTW) hq (no τ) 0 fuel 0 (by omega) (by unfold fuel; omega)
  rw [show (0 : Int32) = nI 0 from rfl] at a ⊢
  rw [a]
  unfold WT
  rw [ws_congr (gr := w8 σ b 14) (gr' := τ 4) (g := wF τ A h q) (no τ) 0 (nI 0) (fun i _ hi => ⟨by rw [w8_8]; exact hb i (by omega) q hq, hTW.2 i (by omega)⟩)]
  rfl
def bdF (τ : Sg) (A : Nat → Int32) (h : Int32) (x : Int32) (q : Nat) : Bool := lb τ x q && decide (τ 2 q < WT τ A h q)
def BD (τ : Sg) (A : Nat → Int32) (h : Int32) (x : Int32) : Bool := ex (bdF τ A h x) (np τ) 0
theorem hold_L {σ τ : Sg} (hN : NG τ) (hPA : PA σ τ) (hTW : TW σ τ) {b : Nat → Int32} {A : Nat → Int32} {h : Int32} (hb : ∀ o, o < no τ → ∀ q, q < 24 → bt (b o) q = wF τ A h q o) {x : Int32} (hx : VP τ x) :
    ∀ (c k N : Nat), k + c = np τ → c < N → L_PM_loadsHoldAt_7 N x (nI k) (w8 σ b) = some (bI (!ex (bdF τ A h x) c k), w8 σ b) := by
  have hn := hN.1.2
  intro c
  induction c with
  | zero =>
    intro k N hk hc
    obtain ⟨N, rfl⟩ : ∃ N', N = N' + 1 := ⟨N - 1, by omega⟩
    show B_PM_loadsHoldAt_7 (L_PM_loadsHoldAt_7 N) x (nI k) (w8 σ b) = _
    unfold B_PM_loadsHoldAt_7
    rw [(PA_w8 (b := b) hPA).1, hN.1.1, if_pos (nI_le (by omega) (by omega))]
    rfl
  | succ c ih =>
    intro k N hk hc
    obtain ⟨N, rfl⟩ : ∃ N', N = N' + 1 := ⟨N - 1, by omega⟩
    have i := ih (k + 1) N (by omega) (by omega)
    show B_PM_loadsHoldAt_7 (L_PM_loadsHoldAt_7 N) x (nI k) (w8 σ b) = _
    unfold B_PM_loadsHoldAt_7
    rw [(PA_w8 (b := b) hPA).1, hN.1.1, if_neg (nI_ge (by omega) (by omega)), liesIn_eq hN (PA_w8 hPA) hx (by omega), Option.bind_some, weightOf_eq hN hTW hb (by omega), Option.bind_some, inB_nI (by omega) (by omega), nI_clamp (by omega), (PA_w8 (b := b) hPA).2.1 k (by omega), nI_1, i]
    simp only [gd_t, ex]
    by_cases z1 : lb τ x k = true
    · rw [z1, if_neg (by decide)]
      by_cases z2 : τ 2 k < WT τ A h k
      · rw [if_neg (by rw [Int32.not_le]; exact z2)]
        simp [bdF, z1, z2, bI]
      · rw [if_pos (by rw [← Int32.not_lt]; exact z2)]
        simp [bdF, z2]
    · rw [ts_nt z1, bI_f, if_pos rfl]
      simp [bdF, ts_nt z1]
theorem hold_eq {σ τ : Sg} (hN : NG τ) (hG : RG τ) (hL : LG τ) (hRA : RA σ τ) (hPA : PA σ τ) (hLA : LA σ τ) (hTW : TW σ τ) (h : Int32) {x : Int32} (hx : VP τ x) :
    ∃ b', f_PM_loadsHoldAt σ x h = some (bI (!BD τ (AT τ h) h x), w8 σ b') := by
  have hn := hN.1.2
  obtain ⟨b, e, hb⟩ := weighAt_eq hN hG hL hRA hPA hLA hTW h
  refine ⟨b, ?_⟩
  unfold f_PM_loadsHoldAt
  rw [e, Option.bind_some]
  exact hold_L hN hPA hTW hb hx (np τ) 0 fuel (by omega) (by unfold fuel; omega)
def bc (par : Nat → Int32) (g : Nat → Bool) : Nat → Int32 → Bool
  | 0, _ => false
  | s + 1, x => if x = -1 then false else (g x.toNatClampNeg || bc par g s (par x.toNatClampNeg))
theorem bc_m1 (par : Nat → Int32) (g : Nat → Bool) (s : Nat) : bc par g s (-1) = false := by
  cases s with
  | zero => rfl
  | succ s => simp only [bc, if_true]
theorem bc_s {par : Nat → Int32} {g : Nat → Bool} {s j : Nat} (hj : j < 2 ^ 31) : bc par g (s + 1) (nI j) = (g j || bc par g s (par j)) := by
  simp only [bc]
  rw [if_neg (nI_m1 hj), nI_clamp hj]
theorem bc_iff {τ : Sg} (hN : NG τ) (hP : PG τ) (g : Nat → Bool) : ∀ (s : Nat) (x : Int32), VP τ x → (bc (τ 1) g s x = true ↔ ∃ q, q < np τ ∧ an (τ 1) (nI q) s x = true ∧ g q = true) := by
  have hn := hN.1.2
  intro s
  induction s with
  | zero =>
    intro x _
    simp only [bc, an]
    exact ⟨fun a => (by cases a), fun ⟨_, _, a, _⟩ => (by cases a)⟩
  | succ s ih =>
    intro x hx
    rcases hx with rfl | ⟨p, hp, rfl⟩
    · rw [bc_m1]
      exact ⟨fun a => (by cases a), fun ⟨q, _, a, _⟩ => by rw [an_m1] at a; cases a⟩
    · have hv : VP τ (τ 1 p) := by
        rcases hP p hp with e | ⟨k, hk, e⟩
        · exact Or.inl e
        · exact Or.inr ⟨k, by omega, e⟩
      rw [bc_s (by omega), Bool.or_eq_true, ih _ hv]
      constructor
      · rintro (a | ⟨q, a1, a2, a3⟩)
        · exact ⟨p, hp, by rw [an_s (by omega), if_pos rfl], a⟩
        · refine ⟨q, a1, ?_, a3⟩
          rw [an_s (by omega)]
          split
          · rfl
          · exact a2
      · rintro ⟨q, a1, a2, a3⟩
        rw [an_s (by omega)] at a2
        by_cases z : nI p = nI q
        · rw [(nI_eq (by omega) (by omega)).mp z]
          exact Or.inl a3
        · rw [if_neg z] at a2
          exact Or.inr ⟨q, a1, a2, a3⟩
theorem bears_L {τ : Sg} (hN : NG τ) (hG : RG τ) (hP : PG τ) (hL : LG τ) {h : Int32} (hV : ∀ o, o < 20 → VP τ (AQ τ h o)) : ∀ j, j < np τ → ∀ N s, j + 2 ≤ N → j + 1 ≤ s →
    L_MD_bears_5 τ N h 0 (nI j) = some 0 ∧ L_MD_bears_5 τ N h 1 (nI j) = some (bI (!bc (τ 1) (fun q => decide (τ 2 q < WT τ (AQ τ h) h q)) s (nI j))) := by
  have hn := hN.1.2
  have hm : ∀ N, L_MD_bears_5 τ (N + 1) h 0 (-1) = some 0 ∧ L_MD_bears_5 τ (N + 1) h 1 (-1) = some 1 := by
    intro N
    constructor
    · show B_MD_bears_5 τ (L_MD_bears_5 τ N) h 0 (-1) = _
      unfold B_MD_bears_5
      rw [if_pos rfl]; rfl
    · show B_MD_bears_5 τ (L_MD_bears_5 τ N) h 1 (-1) = _
      unfold B_MD_bears_5
      rw [if_pos rfl]; rfl
  intro j
  induction j using Nat.strongRecOn with
  | ind j ih =>
    intro hj N s h1 h2
    obtain ⟨N, rfl⟩ : ∃ N', N = N' + 1 := ⟨N - 1, by omega⟩
    obtain ⟨s, rfl⟩ : ∃ s', s = s' + 1 := ⟨s - 1, by omega⟩
    have rest : L_MD_bears_5 τ N h 0 (τ 1 j) = some 0 ∧ L_MD_bears_5 τ N h 1 (τ 1 j) = some (bI (!bc (τ 1) (fun q => decide (τ 2 q < WT τ (AQ τ h) h q)) s (τ 1 j))) := by
      rcases hP j hj with e | ⟨k, hk, e⟩
      · obtain ⟨N, rfl⟩ : ∃ N', N = N' + 1 := ⟨N - 1, by omega⟩
        rw [e, bc_m1]
        exact hm N
      · rw [e]
        exact ih k hk (by omega) N s (by omega) (by omega)
    constructor
    · show B_MD_bears_5 τ (L_MD_bears_5 τ N) h 0 (nI j) = _
      unfold B_MD_bears_5
      rw [if_neg (nI_m1 (by omega)), if_pos rfl, inB_nI (by omega) (by omega), nI_clamp (by omega)]
      exact rest.1
    · show B_MD_bears_5 τ (L_MD_bears_5 τ N) h 1 (nI j) = _
      unfold B_MD_bears_5
      rw [if_neg (nI_m1 (by omega)), if_neg (by decide), weight_eq hN hG hP hL hV (by omega), Option.bind_some, inB_nI (by omega) (by omega), nI_clamp (by omega), bc_s (by omega)]
      simp only [gd_t, lt1]
      by_cases z : τ 2 j < WT τ (AQ τ h) h j
      · rw [if_pos z, rest.1]
        simp [z, bI]
      · rw [if_neg z, rest.2]
        simp [z]
theorem bears_eq {τ : Sg} (hN : NG τ) (hG : RG τ) (hP : PG τ) (hL : LG τ) {h : Int32} (hV : ∀ o, o < 20 → VP τ (AQ τ h o)) {x : Int32} (hx : VP τ x) : f_MD_bears τ x h = some (bI (!BD τ (AQ τ h) h x)) := by
  have hn := hN.1.2
  have key : bc (τ 1) (fun q => decide (τ 2 q < WT τ (AQ τ h) h q)) 24 x = BD τ (AQ τ h) h x := by
    have a := bc_iff hN hP (fun q => decide (τ 2 q < WT τ (AQ τ h) h q)) 24 x hx
    have b := ex_iff (bdF τ (AQ τ h) h x) (np τ) 0
    apply Bool.eq_iff_iff.mpr
    rw [a]
    unfold BD
    rw [b]
    constructor
    · rintro ⟨q, q1, q2, q3⟩
      exact ⟨q, by omega, by omega, by unfold bdF; rw [Bool.and_eq_true]; exact ⟨q2, q3⟩⟩
    · rintro ⟨q, _, q1, q2⟩
      unfold bdF at q2
      rw [Bool.and_eq_true] at q2
      exact ⟨q, by omega, q2.1, q2.2⟩
  rw [← key]
  unfold f_MD_bears
  rcases hx with rfl | ⟨p, hp, rfl⟩
  · rw [bc_m1]
    show B_MD_bears_5 τ (L_MD_bears_5 τ 1999) h 1 (-1) = _
    unfold B_MD_bears_5
    rw [if_pos rfl]; rfl
  · exact (bears_L hN hG hP hL hV p hp fuel 24 (by unfold fuel; omega) (by omega)).2
