/-! rows and chains: held, rowAt, placeAt, at, isWithin, holds, standsSince -/
def np (τ : Sg) : Nat := (τ 0 2).toNatClampNeg
def no (τ : Sg) : Nat := (τ 0 3).toNatClampNeg
def ndr (τ : Sg) : Nat := (τ 0 4).toNatClampNeg
def npl (τ : Sg) : Nat := (τ 0 5).toNatClampNeg
def nqt (τ : Sg) : Nat := (τ 0 6).toNatClampNeg
def mm (τ : Sg) (o : Nat) : Nat := (τ 8 o).toNatClampNeg
def NG (τ : Sg) : Prop := (τ 0 2 = nI (np τ) ∧ np τ ≤ 24) ∧ (τ 0 3 = nI (no τ) ∧ no τ ≤ 20) ∧ (τ 0 4 = nI (ndr τ) ∧ ndr τ ≤ 40) ∧ (τ 0 5 = nI (npl τ) ∧ npl τ ≤ 30) ∧ (τ 0 6 = nI (nqt τ) ∧ nqt τ ≤ 20)
def RG (τ : Sg) : Prop := (∀ o, o < 20 → τ 8 o = nI (mm τ o) ∧ mm τ o ≤ 40) ∧
  (∀ o, o < 20 → ∀ k, k < mm τ o → ¬ τ 9 (40 * o + k) < 0 ∧ τ 9 (40 * o + k) ≤ τ 0 1 ∧
    ((τ 10 (40 * o + k) = 0 ∧ ∃ p, p < np τ ∧ τ 11 (40 * o + k) = nI p) ∨ (τ 10 (40 * o + k) = 1 ∧ ∃ b, b < no τ ∧ τ 11 (40 * o + k) = nI b) ∨ (τ 10 (40 * o + k) = 2 ∧ τ 11 (40 * o + k) = -1)))
def RA (σ τ : Sg) : Prop := (∀ o, o < 20 → σ 17 o = τ 8 o) ∧
  (∀ o, o < 20 → ∀ k, k < mm τ o → σ 18 (40 * o + k) = τ 9 (40 * o + k) ∧ σ 19 (40 * o + k) = τ 10 (40 * o + k) ∧ σ 20 (40 * o + k) = τ 11 (40 * o + k))
def lr (hr : Nat → Int32) (b : Nat) (h : Int32) : Nat → Option Nat
  | 0 => none
  | n + 1 => if h < hr (b + n) then lr hr b h n else some (b + n)
def eR : Option Nat → Int32
  | none => -1
  | some j => nI j
theorem lr_some {hr : Nat → Int32} {b : Nat} {h : Int32} : ∀ {n j : Nat}, lr hr b h n = some j → b ≤ j ∧ j < b + n ∧ ¬ h < hr j ∧ (∀ i, j < i → i < b + n → h < hr i) := by
  intro n
  induction n with
  | zero => intro j e; cases e
  | succ n ih =>
    intro j e
    simp only [lr] at e
    by_cases c : h < hr (b + n)
    · rw [if_pos c] at e
      obtain ⟨a1, a2, a3, a4⟩ := ih e
      refine ⟨a1, by omega, a3, fun i h1 h2 => ?_⟩
      by_cases z : i = b + n
      · exact z ▸ c
      · exact a4 i h1 (by omega)
    · rw [if_neg c] at e
      cases e
      exact ⟨by omega, by omega, c, fun i h1 h2 => absurd h2 (by omega)⟩
theorem lr_none {hr : Nat → Int32} {b : Nat} {h : Int32} : ∀ {n : Nat}, lr hr b h n = none → ∀ i, b ≤ i → i < b + n → h < hr i := by
  intro n
  induction n with
  | zero => intro _ i h1 h2; omega
  | succ n ih =>
    intro e i h1 h2
    simp only [lr] at e
    by_cases c : h < hr (b + n)
    · rw [if_pos c] at e
      by_cases z : i = b + n
      · exact z ▸ c
      · exact ih e i h1 (by omega)
    · rw [if_neg c] at e
      cases e
theorem lr_of {hr : Nat → Int32} {b : Nat} {h : Int32} {n j : Nat} (h1 : b ≤ j) (h2 : j < b + n) (h3 : ¬ h < hr j) (h4 : ∀ i, j < i → i < b + n → h < hr i) : lr hr b h n = some j := by
  cases e : lr hr b h n with
  | none => exact absurd (lr_none e j h1 h2) h3
  | some i =>
    obtain ⟨a1, a2, a3, a4⟩ := lr_some e
    by_cases z1 : i < j
    · exact absurd (a4 j z1 h2) h3
    · by_cases z2 : j < i
      · exact absurd (h4 i z2 a2) a3
      · rw [show i = j by omega]
theorem lr_ofN {hr : Nat → Int32} {b : Nat} {h : Int32} {n : Nat} (h4 : ∀ i, b ≤ i → i < b + n → h < hr i) : lr hr b h n = none := by
  cases e : lr hr b h n with
  | none => rfl
  | some i =>
    obtain ⟨a1, a2, a3, a4⟩ := lr_some e
    exact absurd (h4 i a1 a2) a3
theorem lr_congr {hr hr' : Nat → Int32} {b : Nat} {h : Int32} : ∀ {n : Nat}, (∀ k, k < n → hr (b + k) = hr' (b + k)) → lr hr b h n = lr hr' b h n := by
  intro n
  induction n with
  | zero => intro _; rfl
  | succ n ih =>
    intro e
    simp only [lr]
    rw [e n (by omega), ih (fun k hk => e k (by omega))]
theorem ge20 {k : Nat} (h : k < 20) : ¬ (20 : Int32) ≤ nI k := nI_ge (b := 20) h (by omega)
theorem lt20 {k : Nat} (h : k ≤ 20) : ¬ (20 : Int32) < nI k := nI_nlt (a := 20) h (by omega)
theorem ix40 (o k : Nat) : nI o * 40 + nI k = nI (40 * o + k) := by
  show nI o * nI 40 + nI k = _
  rw [pk_mul, nI_add, Nat.mul_comm]
theorem xi40 (o k : Nat) : 40 * nI o + nI k = nI (40 * o + k) := by
  show nI 40 * nI o + nI k = _
  rw [pk_mul, nI_add]
theorem held_L (σ : Sg) {o : Nat} (ho : o < 20) (h : Int32) : ∀ (c N : Nat), c ≤ 40 → c < N → L_Rows_held_9 σ N (nI o) h (nI c - 1) = some (eR (lr (σ 18) (40 * o) h c)) := by
  intro c
  induction c with
  | zero =>
    intro N _ hN
    obtain ⟨N, rfl⟩ : ∃ N', N = N' + 1 := ⟨N - 1, by omega⟩
    show B_Rows_held_9 σ (L_Rows_held_9 σ N) (nI o) h (nI 0 - 1) = _
    unfold B_Rows_held_9
    rw [if_pos (by decide)]
    rfl
  | succ c ih =>
    intro N hc hN
    obtain ⟨N, rfl⟩ : ∃ N', N = N' + 1 := ⟨N - 1, by omega⟩
    show B_Rows_held_9 σ (L_Rows_held_9 σ N) _ _ _ = _
    unfold B_Rows_held_9 f_Rows_index
    rw [nI_pred, if_neg (nI_pos (by omega)), ix40]
    show gd (inB (nI (40 * o + c)) 800) _ = _
    rw [inB_nI (by omega) (by omega), gd_t, nI_clamp (by omega), ← Int32.sub_eq_add_neg]
    simp only [lr]
    by_cases z : h < σ 18 (40 * o + c)
    · rw [if_pos z, if_pos z]
      exact ih N (by omega) (by omega)
    · rw [if_neg z, if_neg z]
      rfl
theorem held_eq {σ τ : Sg} (hG : RG τ) (hA : RA σ τ) {o : Nat} (ho : o < 20) (h : Int32) : f_Rows_held σ (nI o) h = some (eR (lr (τ 9) (40 * o) h (mm τ o))) := by
  unfold f_Rows_held
  have a := (hG.1 o ho).2
  rw [inB_nI ho (by omega), gd_t, nI_clamp (by omega), hA.1 o ho, (hG.1 o ho).1, held_L σ ho h (mm τ o) fuel a (by unfold fuel; omega), lr_congr (fun k hk => (hA.2 o ho k hk).1)]
theorem rowAt_L {τ : Sg} (hG : RG τ) {o : Nat} (ho : o < 20) (h : Int32) : ∀ (c k N : Nat), k + c = mm τ o → c < N → L_MD_rowAt_8 τ N (nI o) h (eR (lr (τ 9) (40 * o) h k)) (nI (40 * o + k)) = some (eR (lr (τ 9) (40 * o) h (mm τ o))) := by
  have a := hG.1 o ho
  intro c
  induction c with
  | zero =>
    intro k N hk hN
    obtain ⟨N, rfl⟩ : ∃ N', N = N' + 1 := ⟨N - 1, by omega⟩
    show B_MD_rowAt_8 τ (L_MD_rowAt_8 τ N) _ _ _ _ = _
    unfold B_MD_rowAt_8
    rw [inB_nI ho (by omega), gd_t, nI_clamp (by omega), a.1, xi40, if_pos (nI_le (by omega) (by omega)), show k = mm τ o by omega]
  | succ c ih =>
    intro k N hk hN
    obtain ⟨N, rfl⟩ : ∃ N', N = N' + 1 := ⟨N - 1, by omega⟩
    show B_MD_rowAt_8 τ (L_MD_rowAt_8 τ N) _ _ _ _ = _
    unfold B_MD_rowAt_8
    rw [inB_nI ho (by omega), gd_t, nI_clamp (n := o) (by omega), a.1, xi40, if_neg (nI_ge (by omega) (by omega)), inB_nI (by omega) (by omega), gd_t, nI_clamp (by omega), nI_1]
    have b := ih (k + 1) N (by omega) (by omega)
    simp only [lr] at b
    by_cases z : h < τ 9 (40 * o + k)
    · rw [if_pos z] at b ⊢
      exact b
    · rw [if_neg z] at b ⊢
      exact b
theorem rowAt_eq {τ : Sg} (hG : RG τ) {o : Nat} (ho : o < 20) (h : Int32) : f_MD_rowAt τ (nI o) h = some (eR (lr (τ 9) (40 * o) h (mm τ o))) := by
  unfold f_MD_rowAt
  have a := rowAt_L hG ho h (mm τ o) 0 fuel (by omega) (by have := (hG.1 o ho).2; unfold fuel; omega)
  have e : (40 : Int32) * nI o = nI (40 * o + 0) := by
    have := xi40 o 0
    rw [nI_0, Int32.add_zero] at this
    exact this
  rw [e]
  exact a
/-- what a row says, by its index -/
theorem row_at {τ : Sg} (hG : RG τ) {o : Nat} (ho : o < 20) {h : Int32} {j : Nat} (e : lr (τ 9) (40 * o) h (mm τ o) = some j) :
    ∃ k, k < mm τ o ∧ j = 40 * o + k ∧ j < 800 ∧ ((τ 10 j = 0 ∧ ∃ p, p < np τ ∧ τ 11 j = nI p) ∨ (τ 10 j = 1 ∧ ∃ b, b < no τ ∧ τ 11 j = nI b) ∨ (τ 10 j = 2 ∧ τ 11 j = -1)) := by
  obtain ⟨a1, a2, a3, a4⟩ := lr_some e
  have b := (hG.1 o ho).2
  refine ⟨j - 40 * o, by omega, by omega, by omega, ?_⟩
  have c := (hG.2 o ho (j - 40 * o) (by omega)).2.2
  rw [show 40 * o + (j - 40 * o) = j by omega] at c
  exact c
def nd (τ : Sg) (h : Int32) (o : Nat) : Int32 ⊕ Nat :=
  match lr (τ 9) (40 * o) h (mm τ o) with
  | none => .inl (-1)
  | some j => if τ 10 j = 2 then .inl (-1) else if τ 10 j = 0 then .inl (τ 11 j) else .inr (τ 11 j).toNatClampNeg
theorem nd_n {τ : Sg} {h : Int32} {o : Nat} (e : lr (τ 9) (40 * o) h (mm τ o) = none) : nd τ h o = .inl (-1) := by simp only [nd, e]
theorem nd_s {τ : Sg} {h : Int32} {o j : Nat} (e : lr (τ 9) (40 * o) h (mm τ o) = some j) : nd τ h o = if τ 10 j = 2 then .inl (-1) else if τ 10 j = 0 then .inl (τ 11 j) else .inr (τ 11 j).toNatClampNeg := by simp only [nd, e]
theorem nd_lt {τ : Sg} (hN : NG τ) (hG : RG τ) {h : Int32} : ∀ o o', o < 20 → nd τ h o = .inr o' → o' < 20 := by
  intro o o' ho e
  have hn := hN.2.1.2
  cases f : lr (τ 9) (40 * o) h (mm τ o) with
  | none => rw [nd_n f] at e; cases e
  | some j =>
    obtain ⟨k, hk, hj, hj8, c⟩ := row_at hG ho f
    rw [nd_s f] at e
    rcases c with ⟨c1, _⟩ | ⟨c1, b, hb, c2⟩ | ⟨c1, _⟩
    · rw [c1, if_neg (by decide), if_pos rfl] at e; cases e
    · rw [c1, if_neg (by decide), if_neg (by decide), c2, nI_clamp (by omega)] at e
      cases e
      omega
    · rw [c1, if_pos rfl] at e; cases e
theorem placeAt_L {σ τ : Sg} (hN : NG τ) (hG : RG τ) (hA : RA σ τ) (h : Int32) : ∀ (c k N o : Nat), k + c = 20 → c < N → o < 20 → L_PM_placeAt_5 σ N h (nI o) (nI k) = some ((wk (nd τ h) c o).getD (-1)) := by
  have hn := hN.2.1.2
  intro c
  induction c with
  | zero =>
    intro k N o hk hN ho
    obtain ⟨N, rfl⟩ : ∃ N', N = N' + 1 := ⟨N - 1, by omega⟩
    show B_PM_placeAt_5 σ (L_PM_placeAt_5 σ N) _ _ _ = _
    unfold B_PM_placeAt_5
    rw [show k = 20 by omega, if_pos (by decide)]
    rfl
  | succ c ih =>
    intro k N o hk hN ho
    obtain ⟨N, rfl⟩ : ∃ N', N = N' + 1 := ⟨N - 1, by omega⟩
    show B_PM_placeAt_5 σ (L_PM_placeAt_5 σ N) _ _ _ = _
    unfold B_PM_placeAt_5
    rw [if_neg (ge20 (by omega)), held_eq hG hA ho h]
    cases f : lr (τ 9) (40 * o) h (mm τ o) with
    | none => rw [wk_l (nd_n f)]; rfl
    | some j =>
      obtain ⟨k', hk', hj, hj8, e⟩ := row_at hG ho f
      have r := hA.2 o ho k' hk'
      rw [← hj] at r
      simp only [eR, Option.bind_some]
      rw [if_neg (nI_m1 (by omega)), inB_nI hj8 (by omega), nI_clamp (by omega), r.2.1, r.2.2]
      simp only [gd_t, lt1]
      have s := nd_s f
      rcases e with ⟨c1, _⟩ | ⟨c1, b, hb, c2⟩ | ⟨c1, _⟩
      · rw [c1, if_neg (by decide), if_pos rfl] at s ⊢
        rw [wk_l s]; rfl
      · rw [c1, if_neg (by decide), if_neg (by decide)] at s ⊢
        rw [c2, nI_clamp (by omega)] at s
        rw [c2, wk_r s, nI_1]
        exact ih (k + 1) N b (by omega) (by omega) (by omega)
      · rw [c1, if_pos rfl] at s ⊢
        rw [wk_l s]; rfl
def AT (τ : Sg) (h : Int32) (o : Nat) : Int32 := (wk (nd τ h) 20 o).getD (-1)
theorem placeAt_eq {σ τ : Sg} (hN : NG τ) (hG : RG τ) (hA : RA σ τ) (h : Int32) {o : Nat} (ho : o < 20) : f_PM_placeAt σ (nI o) h = some (AT τ h o) := by
  unfold f_PM_placeAt
  exact placeAt_L hN hG hA h 20 0 fuel o (by omega) (by unfold fuel; omega) ho
def ndT (τ : Sg) (h : Int32) (o : Nat) : Int32 ⊕ Nat := if nI o = τ 0 7 then .inl (τ 0 8) else nd τ h o
theorem at_L {τ : Sg} (hN : NG τ) (hG : RG τ) (h : Int32) : ∀ (c k N o : Nat), k + c = 21 → c < N → o < 20 → L_MD_at_5 τ N h (nI o) (nI k) = some ((wk (ndT τ h) c o).getD (-1)) := by
  have hn := hN.2.1.2
  intro c
  induction c with
  | zero =>
    intro k N o hk hN ho
    obtain ⟨N, rfl⟩ : ∃ N', N = N' + 1 := ⟨N - 1, by omega⟩
    show B_MD_at_5 τ (L_MD_at_5 τ N) _ _ _ = _
    unfold B_MD_at_5
    rw [show k = 21 by omega, if_pos (by decide)]
    rfl
  | succ c ih =>
    intro k N o hk hN ho
    obtain ⟨N, rfl⟩ : ∃ N', N = N' + 1 := ⟨N - 1, by omega⟩
    show B_MD_at_5 τ (L_MD_at_5 τ N) _ _ _ = _
    unfold B_MD_at_5
    rw [if_neg (lt20 (by omega))]
    by_cases t : nI o = τ 0 7
    · have s : ndT τ h o = .inl (τ 0 8) := by unfold ndT; rw [if_pos t]
      rw [if_pos t, wk_l s]; rfl
    have s0 : ndT τ h o = nd τ h o := by unfold ndT; rw [if_neg t]
    rw [if_neg t, rowAt_eq hG ho h]
    cases f : lr (τ 9) (40 * o) h (mm τ o) with
    | none => rw [wk_l (s0.trans (nd_n f))]; rfl
    | some j =>
      obtain ⟨k', hk', hj, hj8, e⟩ := row_at hG ho f
      simp only [eR, Option.bind_some]
      rw [if_neg (nI_m1 (by omega)), inB_nI hj8 (by omega), nI_clamp (by omega)]
      simp only [gd_t, lt1]
      have s := s0.trans (nd_s f)
      rcases e with ⟨c1, _⟩ | ⟨c1, b, hb, c2⟩ | ⟨c1, _⟩
      · rw [c1, if_neg (by decide), if_pos rfl] at s ⊢
        rw [wk_l s]; rfl
      · rw [c1, if_neg (by decide), if_neg (by decide)] at s ⊢
        rw [c2, nI_clamp (by omega)] at s
        rw [c2, wk_r s, nI_1]
        exact ih (k + 1) N b (by omega) (by omega) (by omega)
      · rw [c1, if_pos rfl] at s ⊢
        rw [wk_l s]; rfl
def AQ (τ : Sg) (h : Int32) (o : Nat) : Int32 := (wk (ndT τ h) 21 o).getD (-1)
theorem at_eq {τ : Sg} (hN : NG τ) (hG : RG τ) (h : Int32) {o : Nat} (ho : o < 20) : f_MD_at τ (nI o) h = some (AQ τ h o) := by
  unfold f_MD_at
  exact at_L hN hG h 21 0 fuel o (by omega) (by unfold fuel; omega) ho
theorem AQ_AT {τ : Sg} (hN : NG τ) (hG : RG τ) (ht : τ 0 7 = -1) (h : Int32) {o : Nat} (ho : o < 20) : AQ τ h o = AT τ h o := by
  unfold AQ AT
  rw [← wk_eq (nd_lt hN hG) ho (show 20 ≤ 21 by omega)]
  rw [wk_congr (nd_lt hN hG) (nd' := ndT τ h) (fun o ho => by unfold ndT; rw [ht, if_neg (nI_m1 (by omega))]) 21 o ho]
/-- whether an object lies in a box: by the chain of rows -/
def nw (τ : Sg) (h : Int32) (b o : Nat) : Int32 ⊕ Nat :=
  match lr (τ 9) (40 * o) h (mm τ o) with
  | none => .inl 0
  | some j => if τ 10 j = 1 then (if τ 11 j = nI b then .inl 1 else .inr (τ 11 j).toNatClampNeg) else .inl 0
theorem nw_n {τ : Sg} {h : Int32} {b o : Nat} (e : lr (τ 9) (40 * o) h (mm τ o) = none) : nw τ h b o = .inl 0 := by simp only [nw, e]
theorem nw_s {τ : Sg} {h : Int32} {b o j : Nat} (e : lr (τ 9) (40 * o) h (mm τ o) = some j) : nw τ h b o = if τ 10 j = 1 then (if τ 11 j = nI b then .inl 1 else .inr (τ 11 j).toNatClampNeg) else .inl 0 := by simp only [nw, e]
theorem nw_lt {τ : Sg} (hN : NG τ) (hG : RG τ) {h : Int32} {b : Nat} : ∀ o o', o < 20 → nw τ h b o = .inr o' → o' < 20 := by
  intro o o' ho e
  have hn := hN.2.1.2
  cases f : lr (τ 9) (40 * o) h (mm τ o) with
  | none => rw [nw_n f] at e; cases e
  | some j =>
    obtain ⟨k, hk, hj, hj8, c⟩ := row_at hG ho f
    rw [nw_s f] at e
    rcases c with ⟨c1, _⟩ | ⟨c1, b', hb, c2⟩ | ⟨c1, _⟩
    · rw [c1, if_neg (by decide)] at e; cases e
    · rw [c1, if_pos rfl] at e
      by_cases z : τ 11 j = nI b
      · rw [if_pos z] at e; cases e
      · rw [if_neg z, c2, nI_clamp (by omega)] at e
        cases e
        omega
    · rw [c1, if_neg (by decide)] at e; cases e
theorem isWithin_L {σ τ : Sg} (hN : NG τ) (hG : RG τ) (hA : RA σ τ) (h : Int32) (b : Nat) : ∀ (c k N o : Nat), k + c = 20 → c < N → o < 20 → L_PM_isWithin_6 σ N (nI b) h (nI o) (nI k) = some ((wk (nw τ h b) c o).getD 0) := by
  have hn := hN.2.1.2
  intro c
  induction c with
  | zero =>
    intro k N o hk hN ho
    obtain ⟨N, rfl⟩ : ∃ N', N = N' + 1 := ⟨N - 1, by omega⟩
    show B_PM_isWithin_6 σ (L_PM_isWithin_6 σ N) _ _ _ _ = _
    unfold B_PM_isWithin_6
    rw [show k = 20 by omega, if_pos (by decide)]
    rfl
  | succ c ih =>
    intro k N o hk hN ho
    obtain ⟨N, rfl⟩ : ∃ N', N = N' + 1 := ⟨N - 1, by omega⟩
    show B_PM_isWithin_6 σ (L_PM_isWithin_6 σ N) _ _ _ _ = _
    unfold B_PM_isWithin_6
    rw [if_neg (ge20 (by omega)), held_eq hG hA ho h]
    cases f : lr (τ 9) (40 * o) h (mm τ o) with
    | none => rw [wk_l (nw_n f)]; rfl
    | some j =>
      obtain ⟨k', hk', hj, hj8, e⟩ := row_at hG ho f
      have r := hA.2 o ho k' hk'
      rw [← hj] at r
      simp only [eR, Option.bind_some]
      rw [if_neg (nI_m1 (by omega)), inB_nI hj8 (by omega), nI_clamp (by omega), r.2.1, r.2.2]
      simp only [gd_t, lt1]
      have s := nw_s (b := b) f
      rcases e with ⟨c1, _⟩ | ⟨c1, b', hb, c2⟩ | ⟨c1, _⟩
      · rw [c1, if_neg (by decide)] at s ⊢
        rw [wk_l s]; rfl
      · rw [c1, if_pos rfl] at s ⊢
        by_cases z : τ 11 j = nI b
        · rw [if_pos z] at s ⊢
          rw [wk_l s]; rfl
        · rw [if_neg z] at s ⊢
          rw [c2, nI_clamp (by omega)] at s
          rw [c2, wk_r s, nI_1]
          exact ih (k + 1) N b' (by omega) (by omega) (by omega)
      · rw [c1, if_neg (by decide)] at s ⊢
        rw [wk_l s]; rfl
theorem isWithin_eq {σ τ : Sg} (hN : NG τ) (hG : RG τ) (hA : RA σ τ) (h : Int32) {o : Nat} (b : Nat) (ho : o < 20) : f_PM_isWithin σ (nI o) (nI b) h = some ((wk (nw τ h b) 20 o).getD 0) := by
  unfold f_PM_isWithin
  exact isWithin_L hN hG hA h b 20 0 fuel o (by omega) (by unfold fuel; omega) ho
theorem holds_L {τ : Sg} (hN : NG τ) (hG : RG τ) (h : Int32) {b : Nat} (hb : b < 20) : ∀ (c k N o : Nat), k + c = 21 → c < N → o < 20 → L_MD_holds_6 τ N (nI b) h (nI o) (nI k) = some (if o = b then 1 else (wk (nw τ h b) c o).getD 0) := by
  have hn := hN.2.1.2
  intro c
  induction c with
  | zero =>
    intro k N o hk hN ho
    obtain ⟨N, rfl⟩ : ∃ N', N = N' + 1 := ⟨N - 1, by omega⟩
    show B_MD_holds_6 τ (L_MD_holds_6 τ N) _ _ _ _ = _
    unfold B_MD_holds_6
    rw [show k = 21 by omega, if_pos (by decide)]
    by_cases z : o = b
    · rw [z, if_pos rfl, if_pos rfl]
    · rw [if_neg (fun q => z ((nI_eq (by omega) (by omega)).mp q)), if_neg z]; rfl
  | succ c ih =>
    intro k N o hk hN ho
    obtain ⟨N, rfl⟩ : ∃ N', N = N' + 1 := ⟨N - 1, by omega⟩
    show B_MD_holds_6 τ (L_MD_holds_6 τ N) _ _ _ _ = _
    unfold B_MD_holds_6
    rw [if_neg (lt20 (by omega))]
    by_cases z : o = b
    · rw [z, if_pos rfl, if_pos rfl, if_pos rfl]
    rw [if_neg (fun q => z ((nI_eq (by omega) (by omega)).mp q)), if_neg z, rowAt_eq hG ho h]
    cases f : lr (τ 9) (40 * o) h (mm τ o) with
    | none => rw [wk_l (nw_n f)]; rfl
    | some j =>
      obtain ⟨k', hk', hj, hj8, e⟩ := row_at hG ho f
      simp only [eR, Option.bind_some]
      rw [if_neg (nI_m1 (by omega)), inB_nI hj8 (by omega), nI_clamp (by omega)]
      simp only [gd_t, lt1]
      have s := nw_s (b := b) f
      rcases e with ⟨c1, _⟩ | ⟨c1, b', hb', c2⟩ | ⟨c1, _⟩
      · rw [c1, if_neg (by decide)] at s ⊢
        rw [wk_l s]; rfl
      · rw [c1, if_pos rfl] at s ⊢
        have i := ih (k + 1) N b' (by omega) (by omega) (by omega)
        rw [c2, nI_1, i]
        by_cases z : b' = b
        · rw [c2, if_pos (by rw [z])] at s
          rw [if_pos z, wk_l s]; rfl
        · rw [c2, if_neg (fun q => z ((nI_eq (by omega) (by omega)).mp q)), nI_clamp (by omega)] at s
          rw [if_neg z, wk_r s]
      · rw [c1, if_neg (by decide)] at s ⊢
        rw [wk_l s]; rfl
theorem holds_eq {τ : Sg} (hN : NG τ) (hG : RG τ) (h : Int32) {b o : Nat} (hb : b < 20) (ho : o < 20) : f_MD_holds τ (nI b) (nI o) h = some (if o = b then 1 else (wk (nw τ h b) 20 o).getD 0) := by
  unfold f_MD_holds
  have a := holds_L hN hG h hb 21 0 fuel o (by omega) (by unfold fuel; omega) ho
  rw [wk_eq (nw_lt hN hG) ho (show 20 ≤ 21 by omega)] at a
  exact a
theorem since_L {σ τ : Sg} (hN : NG τ) (hG : RG τ) (hA : RA σ τ) (h : Int32) : ∀ (c k N o : Nat) (x : Int32), k + c = 20 → c < N → o < 20 →
    ∃ s, L_PM_standsSince_8 σ N h x (nI o) (nI k) = some s ∧ x ≤ s ∧ (s = x ∨ ∃ o' k', o' < 20 ∧ k' < mm τ o' ∧ τ 9 (40 * o' + k') = s ∧ s ≤ h) ∧ ∀ h', s ≤ h' → h' ≤ h → wk (nd τ h') c o = wk (nd τ h) c o := by
  have hn := hN.2.1.2
  intro c
  induction c with
  | zero =>
    intro k N o x hk hN ho
    obtain ⟨N, rfl⟩ : ∃ N', N = N' + 1 := ⟨N - 1, by omega⟩
    refine ⟨x, ?_, Int32.le_refl x, Or.inl rfl, fun h' _ _ => by simp only [wk]⟩
    show B_PM_standsSince_8 σ (L_PM_standsSince_8 σ N) _ _ _ _ = _
    unfold B_PM_standsSince_8
    rw [show k = 20 by omega, if_pos (by decide)]
  | succ c ih =>
    intro k N o x hk hN ho
    obtain ⟨N, rfl⟩ : ∃ N', N = N' + 1 := ⟨N - 1, by omega⟩
    have hB : L_PM_standsSince_8 σ (N + 1) h x (nI o) (nI k) = B_PM_standsSince_8 σ (L_PM_standsSince_8 σ N) h x (nI o) (nI k) := rfl
    rw [hB]
    unfold B_PM_standsSince_8
    rw [if_neg (ge20 (by omega)), held_eq hG hA ho h]
    cases f : lr (τ 9) (40 * o) h (mm τ o) with
    | none =>
      refine ⟨x, by simp only [eR, Option.bind_some, if_true], Int32.le_refl x, Or.inl rfl, fun h' _ h2 => ?_⟩
      have f' : lr (τ 9) (40 * o) h' (mm τ o) = none := lr_ofN (fun i a b => by
        have := lr_none f i a b
        rw [Int32.lt_iff_toInt_lt] at this ⊢
        rw [Int32.le_iff_toInt_le] at h2
        omega)
      rw [wk_l (nd_n f), wk_l (nd_n f')]
    | some j =>
      obtain ⟨k', hk', hj, hj8, e⟩ := row_at hG ho f
      obtain ⟨l1, l2, l3, l4⟩ := lr_some f
      have r := hA.2 o ho k' hk'
      rw [← hj] at r
      simp only [eR, Option.bind_some]
      rw [if_neg (nI_m1 (by omega)), inB_nI hj8 (by omega), nI_clamp (by omega), r.1, r.2.1, r.2.2]
      simp only [gd_t, lt1]
      have hy : ∃ y, y = (if x < τ 9 j then τ 9 j else x) ∧ x ≤ y ∧ τ 9 j ≤ y ∧ (y = x ∨ y = τ 9 j) := by
        refine ⟨_, rfl, ?_⟩
        by_cases z : x < τ 9 j
        · rw [if_pos z]
          exact ⟨by rw [Int32.le_iff_toInt_le]; rw [Int32.lt_iff_toInt_lt] at z; omega, Int32.le_refl _, Or.inr rfl⟩
        · rw [if_neg z]
          exact ⟨Int32.le_refl _, by rw [Int32.le_iff_toInt_le]; rw [Int32.lt_iff_toInt_lt] at z; omega, Or.inl rfl⟩
      obtain ⟨y, ey, y1, y2, y3⟩ := hy
      rw [← ey]
      have hjh : τ 9 j ≤ h := by rw [Int32.le_iff_toInt_le]; rw [Int32.lt_iff_toInt_lt] at l3; omega
      have y4 : y = x ∨ ∃ o' k', o' < 20 ∧ k' < mm τ o' ∧ τ 9 (40 * o' + k') = y ∧ y ≤ h := by
        rcases y3 with q | q
        · exact Or.inl q
        · exact Or.inr ⟨o, k', ho, hk', by rw [← hj]; exact q.symm, by rw [q]; exact hjh⟩
      have same : ∀ h', y ≤ h' → h' ≤ h → nd τ h' o = nd τ h o := by
        intro h' h1 h2
        have f' : lr (τ 9) (40 * o) h' (mm τ o) = some j := lr_of l1 l2 (by
            rw [Int32.le_iff_toInt_le] at h1 y2
            rw [Int32.lt_iff_toInt_lt]
            omega) (fun i a b => by
            have := l4 i a b
            rw [Int32.lt_iff_toInt_lt] at this ⊢
            rw [Int32.le_iff_toInt_le] at h2
            omega)
        rw [nd_s f, nd_s f']
      have s := nd_s f
      rcases e with ⟨c1, _⟩ | ⟨c1, b, hb, c2⟩ | ⟨c1, _⟩
      · rw [c1, if_neg (by decide), if_pos rfl] at s
        rw [c1, if_neg (by decide)]
        exact ⟨y, rfl, y1, y4, fun h' h1 h2 => by rw [wk_l s, wk_l ((same h' h1 h2).trans s)]⟩
      · rw [c1, if_neg (by decide), if_neg (by decide), c2, nI_clamp (by omega)] at s
        rw [c1, if_pos rfl, c2, nI_1]
        obtain ⟨s', i1, i2, i3, i4⟩ := ih (k + 1) N b y (by omega) (by omega) (by omega)
        refine ⟨s', i1, Int32.le_trans y1 i2, ?_, fun h' h1 h2 => ?_⟩
        · rcases i3 with q | q
          · rw [q]; exact y4
          · exact Or.inr q
        · have z : y ≤ h' := Int32.le_trans i2 h1
          rw [wk_r s, wk_r ((same h' z h2).trans s)]
          exact i4 h' h1 h2
      · rw [c1, if_pos rfl] at s
        rw [c1, if_neg (by decide)]
        exact ⟨y, rfl, y1, y4, fun h' h1 h2 => by rw [wk_l s, wk_l ((same h' h1 h2).trans s)]⟩
theorem since_eq {σ τ : Sg} (hN : NG τ) (hG : RG τ) (hA : RA σ τ) (h : Int32) {o : Nat} (ho : o < 20) :
    ∃ s, f_PM_standsSince σ (nI o) h = some s ∧ (s = -1 ∨ ∃ o' k', o' < 20 ∧ k' < mm τ o' ∧ τ 9 (40 * o' + k') = s ∧ s ≤ h) ∧ ∀ h', s ≤ h' → h' ≤ h → AT τ h' o = AT τ h o := by
  obtain ⟨s, a, _, b, c⟩ := since_L hN hG hA h 20 0 fuel o (-1) (by omega) (by unfold fuel; omega) ho
  exact ⟨s, a, b, fun h' h1 h2 => by unfold AT; rw [c h' h1 h2]⟩
