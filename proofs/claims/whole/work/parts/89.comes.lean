/-! comesByRow against mayCome and row; isBarred against barred -/
def SR (σ : Sg) (j t : Nat) (x kd tg : Int32) : Sg := st (st (st (st (st σ 18 j x) 19 j kd) 20 j tg) 17 t (σ 17 t + 1)) 3 0 (σ 3 0 + 1)
theorem SR_17 (σ : Sg) (j t : Nat) (x kd tg : Int32) : SR σ j t x kd tg 17 = upd (σ 17) t (σ 17 t + 1) := rfl
theorem SR_18 (σ : Sg) (j t : Nat) (x kd tg : Int32) : SR σ j t x kd tg 18 = upd (σ 18) j x := rfl
theorem SR_19 (σ : Sg) (j t : Nat) (x kd tg : Int32) : SR σ j t x kd tg 19 = upd (σ 19) j kd := rfl
theorem SR_20 (σ : Sg) (j t : Nat) (x kd tg : Int32) : SR σ j t x kd tg 20 = upd (σ 20) j tg := rfl
theorem SR_3 (σ : Sg) (j t : Nat) (x kd tg : Int32) : SR σ j t x kd tg 3 0 = σ 3 0 + 1 := rfl
theorem radd_eq {σ τ : Sg} (hG : RG τ) (hA : RA σ τ) {t : Nat} (ht : t < 20) (hm : mm τ t < 40) (x kd tg : Int32) : f_Rows_add σ (nI t) x kd tg = some (SR σ (jx τ t) t x kd tg) := by
  unfold f_Rows_add f_Rows_index
  rw [inB_nI ht (by omega), nI_clamp (by omega), hA.1 t ht, (hG.1 t ht).1, ix40, Option.bind_some]
  simp only [gd_t, lt1]
  rw [inB_nI (by omega) (by omega), nI_clamp (by omega)]
  simp only [gd_t]
  rfl
theorem RA_SR {σ τ : Sg} (hG : RG τ) (hA : RA σ τ) {t : Nat} (ht : t < 20) (hm : mm τ t < 40) (x kd tg : Int32) : RA (SR σ (jx τ t) t x kd tg) (RW τ t x kd tg) := by
  constructor
  · intro o ho
    rw [SR_17, RW_8]
    by_cases z : o = t
    · rw [z, pk_us, pk_us, hA.1 t ht]
    · rw [pk_un z, pk_un z, hA.1 o ho]
  · intro o ho k hk
    rw [mm_RW hG ht] at hk
    rw [SR_18, SR_19, SR_20, RW_9, RW_10, RW_11]
    by_cases y : 40 * o + k = jx τ t
    · rw [y, pk_us, pk_us, pk_us, pk_us, pk_us, pk_us]
      exact ⟨rfl, rfl, rfl⟩
    · rw [pk_un y, pk_un y, pk_un y, pk_un y, pk_un y, pk_un y]
      have hk3 : k < mm τ o := by
        by_cases z : o = t
        · rw [if_pos z] at hk
          unfold jx at y
          rw [z] at y ⊢
          omega
        · rw [if_neg z] at hk
          exact hk
      exact hA.2 o ho k hk3
theorem tl_upd {f : Nat → Int32} {t : Nat} : ∀ n, (t < n → tl (upd f t (f t + 1)) n = tl f n + 1) ∧ (n ≤ t → tl (upd f t (f t + 1)) n = tl f n) := by
  intro n
  induction n with
  | zero => exact ⟨fun h => absurd h (Nat.not_lt_zero t), fun _ => rfl⟩
  | succ n ih =>
    constructor
    · intro h
      simp only [tl]
      by_cases z : n = t
      · rw [ih.2 (by omega), z, pk_us, ← Int32.add_assoc]
      · rw [ih.1 (by omega), pk_un z, Int32.add_assoc, Int32.add_comm 1, ← Int32.add_assoc]
    · intro h
      simp only [tl]
      rw [ih.2 (by omega), pk_un (by omega)]
theorem CA_SR {σ τ : Sg} (hG : RG τ) (hn : no τ ≤ 20) (hC : CA σ τ) {t : Nat} (ht : t < no τ) (hm : mm τ t < 40) (x kd tg : Int32) : CA (SR σ (jx τ t) t x kd tg) (RW τ t x kd tg) := by
  obtain ⟨c1, c2, c3, c4, c5, c6, c7, c8⟩ := hC
  refine ⟨RA_SR hG c1 (by omega) hm x kd tg, c2, c3, c4, c5, c6, c7, ?_⟩
  unfold SA at c8 ⊢
  rw [SR_3, RW_8, c8]
  exact ((tl_upd (f := τ 8) (t := t) (no τ)).1 ht).symm
theorem GG_RW {τ : Sg} (hI : GG τ) {t : Nat} (ht : t < no τ) (hm : mm τ t < 40) {x kd tg : Int32} (hx0 : ¬ x < 0) (hx : τ 0 1 ≤ x)
    (hk : (kd = 0 ∧ ∃ p, p < np τ ∧ tg = nI p) ∨ (kd = 1 ∧ ∃ b, b < no τ ∧ tg = nI b) ∨ (kd = 2 ∧ tg = -1)) : GG (RW τ t x kd tg) := by
  obtain ⟨g1, g2, g3, g4, g5, g6, g7, g8, g9⟩ := hI
  have hn := g1.2.1.2
  refine ⟨g1, RG_RW g2 (by omega) hm hx0 hx hk, g3, g4, g5, g6, ?_, hx0, g9⟩
  intro o h1 h2
  have h1 : no τ ≤ o := h1
  rw [RW_8, pk_un (by omega)]
  exact g7 o h1 h2
def DRw (σ : Sg) (t : Nat) : Sg := st (st σ 17 t (σ 17 t - 1)) 3 0 (σ 3 0 - 1)
theorem drop_eq (σ : Sg) {t : Nat} (ht : t < 20) : f_Rows_dropNewest σ (nI t) = some (DRw σ t) := by
  unfold f_Rows_dropNewest
  rw [inB_nI ht (by omega), nI_clamp (by omega)]
  rfl
theorem CA_DR {σ τ : Sg} (hG : RG τ) (hC : CA σ τ) {t : Nat} (ht : t < 20) (hm : mm τ t < 40) (x kd tg : Int32) (b : Nat → Int32) : CA (DRw (w8 (SR σ (jx τ t) t x kd tg) b) t) τ := by
  obtain ⟨c1, c2, c3, c4, c5, c6, c7, c8⟩ := hC
  refine ⟨⟨?_, ?_⟩, c2, c3, c4, c5, c6, c7, ?_⟩
  · intro o ho
    have e : DRw (w8 (SR σ (jx τ t) t x kd tg) b) t 17 = upd (upd (σ 17) t (σ 17 t + 1)) t ((upd (σ 17) t (σ 17 t + 1)) t - 1) := rfl
    rw [e]
    by_cases z : o = t
    · rw [z, pk_us, pk_us, Int32.add_sub_cancel]
      exact c1.1 t ht
    · rw [pk_un z, pk_un z]
      exact c1.1 o ho
  · intro o ho k hk
    have y : 40 * o + k ≠ jx τ t := by
      have a := (hG.1 o ho).2
      have a2 := (hG.1 t ht).2
      unfold jx
      by_cases z : o = t
      · subst z; omega
      · omega
    have e1 : DRw (w8 (SR σ (jx τ t) t x kd tg) b) t 18 = upd (σ 18) (jx τ t) x := rfl
    have e2 : DRw (w8 (SR σ (jx τ t) t x kd tg) b) t 19 = upd (σ 19) (jx τ t) kd := rfl
    have e3 : DRw (w8 (SR σ (jx τ t) t x kd tg) b) t 20 = upd (σ 20) (jx τ t) tg := rfl
    rw [e1, e2, e3, pk_un y, pk_un y, pk_un y]
    exact c1.2 o ho k hk
  · have e : DRw (w8 (SR σ (jx τ t) t x kd tg) b) t 3 0 = σ 3 0 + 1 - 1 := rfl
    unfold SA at c8 ⊢
    rw [e, Int32.add_sub_cancel]
    exact c8
def CB (τ : Sg) (t : Nat) (x kd tg : Int32) : Bool := if AT (RW τ t x kd tg) x t = -1 then false else LH (RW τ t x kd tg) (AT (RW τ t x kd tg) x t) x 1000000
theorem comes_eq {σ τ : Sg} (hI : GG τ) (hC : CA σ τ) {t : Nat} (ht : t < no τ) (hm : mm τ t < 40) {x kd tg : Int32} (hx0 : ¬ x < 0) (hx : τ 0 1 ≤ x)
    (hk : (kd = 0 ∧ ∃ p, p < np τ ∧ tg = nI p) ∨ (kd = 1 ∧ ∃ b, b < no τ ∧ tg = nI b) ∨ (kd = 2 ∧ tg = -1)) :
    ∃ σ', f_PM_comesByRow σ (nI t) x kd tg = some (bI (!CB τ t x kd tg), σ') ∧ (CB τ t x kd tg = false → CA σ' (RW τ t x kd tg) ∧ σ' 0 0 = x) ∧ (CB τ t x kd tg = true → CA σ' τ ∧ σ' 0 0 = σ 0 0) := by
  have hn := hI.1.2.1.2
  have hI1 := GG_RW hI ht hm hx0 hx hk
  have hC1 := CA_SR hI.2.1 hn hC ht hm x kd tg
  unfold f_PM_comesByRow
  rw [radd_eq hI.2.1 hC.1 (by omega) hm, Option.bind_some, placeAt_eq hI1.1 hI1.2.1 hC1.1 x (by omega), Option.bind_some]
  unfold CB
  by_cases z : AT (RW τ t x kd tg) x t = -1
  · rw [if_pos z, if_pos z]
    exact ⟨_, rfl, fun _ => ⟨hC1, rfl⟩, fun h => by cases h⟩
  · rw [if_neg z, if_neg z]
    obtain ⟨b, e⟩ := lh_eq hI1.1 hI1.2.1 hI1.2.2.2.1 hC1.1 hC1.2.1 hC1.2.2.1 hC1.2.2.2.1 x 1000000 (AT_VP hI1.1 hI1.2.1 (h := x) (o := t) (by omega))
    rw [e, Option.bind_some]
    by_cases y : LH (RW τ t x kd tg) (AT (RW τ t x kd tg) x t) x 1000000 = true
    · rw [y]
      refine ⟨DRw (w8 (SR σ (jx τ t) t x kd tg) b) t, ?_, (fun h => by cases h), fun _ => ⟨CA_DR hI.2.1 hC (by omega) hm x kd tg b, rfl⟩⟩
      show (if (bI !true) = 0 then _ else _) = _
      rw [if_n1, drop_eq _ (by omega)]
      rfl
    · rw [ts_nt y]
      refine ⟨st (w8 (SR σ (jx τ t) t x kd tg) b) 0 0 x, ?_, fun _ => ⟨hC1, rfl⟩, (fun h => by cases h)⟩
      show (if (bI !false) = 0 then _ else _) = _
      rw [if_n0]
      rfl
theorem wF_congr {τ : Sg} {A A' : Nat → Int32} {h : Int32} (hn : no τ ≤ 20) (e : ∀ o, o < 20 → A o = A' o) (q : Nat) : WT τ A h q = WT τ A' h q := by
  unfold WT
  exact ws_congr (no τ) 0 0 (fun i _ hi => ⟨by unfold wF; rw [e i (by omega)], rfl⟩)
theorem BD_congr {τ : Sg} {A A' : Nat → Int32} {h : Int32} (hn : no τ ≤ 20) (e : ∀ o, o < 20 → A o = A' o) (x : Int32) : BD τ A h x = BD τ A' h x := by
  unfold BD
  exact ex_congr (np τ) 0 (fun i _ hi => by unfold bdF; rw [wF_congr hn e i])
theorem BD_RW (τ : Sg) (t : Nat) (x kd tg : Int32) (A : Nat → Int32) (h y : Int32) : BD (RW τ t x kd tg) A h y = BD τ A h y := rfl
theorem LH_MC {τ : Sg} (hI : GG τ) {t : Nat} (ht : t < no τ) (hm : mm τ t < 40) {x kd tg : Int32} (hR : RG (RW τ t x kd tg)) (hp : AT (RW τ t x kd tg) x t ≠ -1) : LH (RW τ t x kd tg) (AT (RW τ t x kd tg) x t) x 1000000 = MC τ t (AT (RW τ t x kd tg) x t) x := by
  have hn := hI.1.2.1.2
  have hN1 : NG (RW τ t x kd tg) := hI.1
  have hw : wk (nd (RW τ t x kd tg) x) 20 t = some (AT (RW τ t x kd tg) x t) := by
    unfold AT at hp ⊢
    cases e : wk (nd (RW τ t x kd tg) x) 20 t with
    | none => rw [e] at hp; exact absurd rfl hp
    | some v => rfl
  have hw2 : ∀ h, x ≤ h → wk (nd (RW τ t x kd tg) h) 20 t = some (AT (RW τ t x kd tg) x t) := by
    intro h hh
    rw [wk_congr (nd_lt hN1 hR) (fun o ho => nd_late2 hR (h := h) hh ho) 20 t (by omega)]
    exact hw
  generalize AT (RW τ t x kd tg) x t = p at hw2 ⊢
  have key : ∀ h, x ≤ h → BD (RW τ t x kd tg) (AT (RW τ t x kd tg) h) h p = BD τ (AQ (TH τ t p) h) h p := by
    intro h hh
    rw [BD_RW]
    exact BD_congr hn (fun o ho => (AQ_RW hI.1 hI.2.1 (by omega) hm hR (hw2 h hh) ho).symm) p
  unfold LH MC
  rw [key x (Int32.le_refl x)]
  congr 1
  refine ex_congr (npl τ) 0 (fun k _ hk => ?_)
  have a := (hI.2.2.2.1 k (by omega)).2.2
  show (decide (x < τ 19 k) && (!decide (1000000 < τ 19 k) && BD (RW τ t x kd tg) (AT (RW τ t x kd tg) (τ 19 k)) (τ 19 k) p)) = (decide (x < τ 19 k) && BD τ (AQ (TH τ t p) (τ 19 k)) (τ 19 k) p)
  by_cases z : x < τ 19 k
  · rw [key (τ 19 k) (Int32.le_of_lt z), decide_eq_false (show ¬ (1000000 : Int32) < τ 19 k by rw [Int32.not_lt]; exact a)]
    simp
  · rw [decide_eq_false z]
    simp
theorem AT_RW0 {τ : Sg} (hG : RG τ) {t : Nat} (ht : t < 20) (x tg : Int32) : AT (RW τ t x 0 tg) x t = tg := by
  have e := lr_RWt hG ht x 0 tg (Int32.le_refl x)
  have s := nd_s e
  rw [RW_10, RW_11, pk_us, pk_us, if_neg (by decide), if_pos rfl] at s
  unfold AT
  rw [wk_l s]
  rfl
theorem AT_RW2 {τ : Sg} (hG : RG τ) {t : Nat} (ht : t < 20) (x tg : Int32) : AT (RW τ t x 2 tg) x t = -1 := by
  have e := lr_RWt hG ht x 2 tg (Int32.le_refl x)
  have s := nd_s e
  rw [RW_10, pk_us, if_pos rfl] at s
  unfold AT
  rw [wk_l s]
  rfl
theorem AT_RW1 {τ : Sg} (hN : NG τ) (hG : RG τ) {t b : Nat} (ht : t < 20) (hb : b < 20) (hm : mm τ t < 40) {x : Int32} (hR : RG (RW τ t x 1 (nI b))) (hbt : b ≠ t) (hw : (wk (nw τ x t) 20 b).getD 0 = 0) : AT (RW τ t x 1 (nI b)) x t = AT τ x b := by
  have e := lr_RWt hG ht x 1 (nI b) (Int32.le_refl x)
  have s := nd_s e
  rw [RW_10, RW_11, pk_us, pk_us, if_neg (by decide), if_neg (by decide), nI_clamp (by omega)] at s
  have hN1 : NG (RW τ t x 1 (nI b)) := hN
  have h0 : ∀ S, wk (nw τ x t) S b ≠ some 1 := by
    intro S q
    have q20 : wk (nw τ x t) 20 b = some 1 := by
      by_cases z : S ≤ 20
      · exact wk_mono S b 20 z q
      · rw [← wk_eq (nw_lt hN hG) hb (show 20 ≤ S by omega)]; exact q
    rw [q20] at hw
    exact absurd hw (by decide)
  have key : ∀ (s o : Nat), o < 20 → o ≠ t → (∀ S, wk (nw τ x t) S o ≠ some 1) → wk (nd (RW τ t x 1 (nI b)) x) s o = wk (nd τ x) s o := by
    intro s
    induction s with
    | zero => intro o _ _ _; simp only [wk]
    | succ s ih =>
      intro o ho hot hS
      have r := nd_RW hG ht hm x 1 (nI b) x ho hot
      cases f : lr (τ 9) (40 * o) x (mm τ o) with
      | none => rw [wk_l (nd_n f), wk_l (r.trans (nd_n f))]
      | some j =>
        obtain ⟨k', hk', hj, hj8, c⟩ := row_at hG ho f
        have s := nd_s f
        have w := nw_s (b := t) f
        have hno := hN.2.1.2
        rcases c with ⟨c1, _⟩ | ⟨c1, b', hb', c2⟩ | ⟨c1, _⟩
        · rw [c1, if_neg (by decide), if_pos rfl] at s
          rw [wk_l s, wk_l (r.trans s)]
        · rw [c1, if_neg (by decide), if_neg (by decide), c2, nI_clamp (by omega)] at s
          rw [c1, if_pos rfl, c2, nI_clamp (by omega)] at w
          rw [wk_r s, wk_r (r.trans s)]
          by_cases z : b' = t
          · rw [z, if_pos rfl] at w
            exact absurd (wk_l w) (hS 1)
          · rw [if_neg (fun a => z ((nI_eq (by omega) (by omega)).mp a))] at w
            refine ih b' (by omega) z (fun S q => hS (S + 1) ?_)
            rw [wk_r w]; exact q
        · rw [c1, if_pos rfl] at s
          rw [wk_l s, wk_l (r.trans s)]
  unfold AT
  rw [← wk_eq (nd_lt hN1 hR) ht (show 20 ≤ 21 by omega), wk_r s, key 20 b hb hbt h0]
/-! quiet times -/
def qF (τ : Sg) (a b h : Int32) (k : Nat) : Bool := (!decide (h < τ 22 k) && !decide (τ 23 k < h)) && !(lb τ a (τ 21 k).toNatClampNeg == lb τ b (τ 21 k).toNatClampNeg)
theorem qcov {σ τ : Sg} (hN : NG τ) (hA : QA σ τ) {k : Nat} (hk : k < nqt τ) (h : Int32) : f_QuietTimes_covers σ (nI k) h = some (bI (!decide (h < τ 22 k) && !decide (τ 23 k < h))) := by
  have hn := hN.2.2.2.2.2
  have r := hA.2 k hk
  unfold f_QuietTimes_covers
  rw [inB_nI (by omega) (by omega), nI_clamp (by omega), r.2.1, r.2.2]
  simp only [gd_t]
  by_cases z1 : h < τ 22 k
  · rw [if_pos z1]; simp [z1, bI]
  · rw [if_neg z1]
    by_cases z2 : τ 23 k < h
    · rw [if_pos z2]; simp [z2, bI]
    · rw [if_neg z2]; simp [z1, z2, bI]
theorem bI_inj (a b : Bool) : (bI a = bI b) ↔ a = b := by cases a <;> cases b <;> decide
theorem isBarred_L {σ τ : Sg} (hN : NG τ) (hQ : QG τ) (hPA : PA σ τ) (hA : QA σ τ) {a b : Int32} (h : Int32) (ha : VP τ a) (hb : VP τ b) : ∀ (c k N : Nat), k + c = nqt τ → c < N → L_PM_isBarred_3 σ N a b h (nI k) = some (bI (ex (qF τ a b h) c k)) := by
  have hn := hN.2.2.2.2.2
  have hp24 := hN.1.2
  intro c
  induction c with
  | zero =>
    intro k N hk hc
    obtain ⟨N, rfl⟩ : ∃ N', N = N' + 1 := ⟨N - 1, by omega⟩
    show B_PM_isBarred_3 σ (L_PM_isBarred_3 σ N) a b h (nI k) = _
    unfold B_PM_isBarred_3
    rw [hA.1, hN.2.2.2.2.1, if_pos (nI_le (by omega) (by omega))]
    rfl
  | succ c ih =>
    intro k N hk hc
    obtain ⟨N, rfl⟩ : ∃ N', N = N' + 1 := ⟨N - 1, by omega⟩
    have i := ih (k + 1) N (by omega) (by omega)
    obtain ⟨p, hp, ep⟩ := hQ k (by omega)
    show B_PM_isBarred_3 σ (L_PM_isBarred_3 σ N) a b h (nI k) = _
    unfold B_PM_isBarred_3
    rw [hA.1, hN.2.2.2.2.1, if_neg (nI_ge (by omega) (by omega)), inB_nI (by omega) (by omega), nI_clamp (by omega), (hA.2 k (by omega)).1, ep, qcov hN hA (by omega), nI_1, i]
    simp only [gd_t, lt1, Option.bind_some, ex]
    rw [liesIn_eq hN hPA ha (by omega), Option.bind_some, liesIn_eq hN hPA hb (by omega), Option.bind_some]
    have e : qF τ a b h k = ((!decide (h < τ 22 k) && !decide (τ 23 k < h)) && !(lb τ a p == lb τ b p)) := by unfold qF; rw [ep, nI_clamp (by omega)]
    rw [e]
    by_cases z1 : (!decide (h < τ 22 k) && !decide (τ 23 k < h)) = true
    · rw [z1, if_neg (by decide)]
      by_cases z2 : lb τ a p = lb τ b p
      · rw [if_pos (by rw [z2]), z2]; simp
      · rw [if_neg (fun q => z2 ((bI_inj _ _).mp q))]
        have z3 : (lb τ a p == lb τ b p) = false := by simp [z2]
        rw [z3]; simp [bI]
    · rw [ts_nt z1, bI_f, if_pos rfl]; simp
theorem barred_L {τ : Sg} (hN : NG τ) (hP : PG τ) (hQ : QG τ) {a b : Int32} (h : Int32) (ha : VP τ a) (hb : VP τ b) : ∀ (c k N : Nat), k + c = nqt τ → c < N → L_MD_barred_3 τ N a b h (nI k) = some (bI (ex (qF τ a b h) c k)) := by
  have hn := hN.2.2.2.2.2
  have hp24 := hN.1.2
  intro c
  induction c with
  | zero =>
    intro k N hk hc
    obtain ⟨N, rfl⟩ : ∃ N', N = N' + 1 := ⟨N - 1, by omega⟩
    show B_MD_barred_3 τ (L_MD_barred_3 τ N) a b h (nI k) = _
    unfold B_MD_barred_3
    rw [hN.2.2.2.2.1, if_pos (nI_le (by omega) (by omega))]
    rfl
  | succ c ih =>
    intro k N hk hc
    obtain ⟨N, rfl⟩ : ∃ N', N = N' + 1 := ⟨N - 1, by omega⟩
    have i := ih (k + 1) N (by omega) (by omega)
    obtain ⟨p, hp, ep⟩ := hQ k (by omega)
    show B_MD_barred_3 τ (L_MD_barred_3 τ N) a b h (nI k) = _
    unfold B_MD_barred_3
    rw [hN.2.2.2.2.1, if_neg (nI_ge (by omega) (by omega)), inB_nI (by omega) (by omega), nI_clamp (by omega), ep, within_eq, nI_1, i]
    simp only [gd_t, Option.bind_some, ex]
    rw [lies_eq hN hP ha (by omega), Option.bind_some, lies_eq hN hP hb (by omega), Option.bind_some]
    have e : qF τ a b h k = ((!decide (h < τ 22 k) && !decide (τ 23 k < h)) && !(lb τ a p == lb τ b p)) := by unfold qF; rw [ep, nI_clamp (by omega)]
    rw [e]
    by_cases z1 : (!decide (h < τ 22 k) && !decide (τ 23 k < h)) = true
    · rw [z1, if_neg (by decide)]
      by_cases z2 : lb τ a p = lb τ b p
      · rw [if_pos (by rw [z2]), z2]; simp
      · rw [if_neg (fun q => z2 ((bI_inj _ _).mp q))]
        have z3 : (lb τ a p == lb τ b p) = false := by simp [z2]
        rw [z3]; simp [bI]
    · rw [ts_nt z1, bI_f, if_pos rfl]; simp
def QB (τ : Sg) (a b h : Int32) : Bool := ex (qF τ a b h) (nqt τ) 0
theorem isBarred_eq {σ τ : Sg} (hI : GG τ) (hC : CA σ τ) {a b : Int32} (h : Int32) (ha : VP τ a) (hb : VP τ b) : f_PM_isBarred σ a b h = some (bI (QB τ a b h)) := by
  have hn := hI.1.2.2.2.2.2
  unfold f_PM_isBarred
  exact isBarred_L hI.1 hI.2.2.2.2.2.1 hC.2.1 hC.2.2.2.2.2.2.1 h ha hb (nqt τ) 0 fuel (by omega) (by unfold fuel; omega)
theorem barred_eq {τ : Sg} (hI : GG τ) {a b : Int32} (h : Int32) (ha : VP τ a) (hb : VP τ b) : f_MD_barred τ a b h = some (bI (QB τ a b h)) := by
  have hn := hI.1.2.2.2.2.2
  unfold f_MD_barred
  exact barred_L hI.1 hI.2.2.1 hI.2.2.2.2.2.1 h ha hb (nqt τ) 0 fuel (by omega) (by unfold fuel; omega)
