/-! the relation, a row more, loadsHold, mayCome, comesByRow -/
theorem if_n1 {α : Type} {a b : α} : (if (bI !true) = 0 then a else b) = a := rfl
theorem if_n0 {α : Type} {a b : α} : (if (bI !false) = 0 then a else b) = b := rfl
theorem st_s (σ : Sg) (k j : Nat) (x : Int32) : st σ k j x k = upd (σ k) j x := if_pos rfl
theorem st_n (σ : Sg) {k q : Nat} (j : Nat) (x : Int32) (h : q ≠ k) : st σ k j x q = σ q := if_neg h
def mn3 (a b c : Int32) : Int32 := if (if c < b then c else b) < a then (if c < b then c else b) else a
def mx3 (a b c : Int32) : Int32 := if a < (if b < c then c else b) then (if b < c then c else b) else a
def TT (σ τ : Sg) : Prop := (∀ o, o < 20 → σ 15 o = τ 5 o ∧ σ 16 o = τ 6 o) ∧ (∀ i, i < 10 → σ 7 i = τ 7 i) ∧
  (∀ o, o < no τ → σ 11 o = mn3 (τ 3 (3 * o)) (τ 3 (3 * o + 1)) (τ 3 (3 * o + 2)) ∧ σ 13 o = mx3 (τ 3 (3 * o)) (τ 3 (3 * o + 1)) (τ 3 (3 * o + 2)) ∧ σ 12 o = τ 3 (3 * o) + τ 3 (3 * o + 1) + τ 3 (3 * o + 2) - σ 11 o - σ 13 o)
def DG (τ : Sg) : Prop := ∀ d, d < ndr τ → (∃ a, a < np τ ∧ τ 12 d = nI a) ∧ (∃ a, a < np τ ∧ τ 13 d = nI a)
def DA (σ τ : Sg) : Prop := σ 4 0 = τ 0 4 ∧ (∀ d, d < ndr τ → σ 21 d = τ 12 d ∧ σ 22 d = τ 13 d ∧ σ 23 d = (if τ 14 d < τ 15 d then τ 15 d else τ 14 d) ∧ σ 24 d = (if τ 15 d < τ 14 d then τ 15 d else τ 14 d))
def QG (τ : Sg) : Prop := ∀ k, k < nqt τ → ∃ p, p < np τ ∧ τ 21 k = nI p
def QA (σ τ : Sg) : Prop := σ 6 0 = τ 0 6 ∧ (∀ k, k < nqt τ → σ 29 k = τ 21 k ∧ σ 30 k = τ 22 k ∧ σ 31 k = τ 23 k)
def tl (f : Nat → Int32) : Nat → Int32
  | 0 => 0
  | n + 1 => tl f n + f n
def SA (σ τ : Sg) : Prop := σ 3 0 = tl (τ 8) (no τ)
def ZG (τ : Sg) : Prop := ∀ o, no τ ≤ o → o < 20 → τ 8 o = 0
def HG (τ : Sg) : Prop := ¬ τ 0 1 < 0
def GG (τ : Sg) : Prop := NG τ ∧ RG τ ∧ PG τ ∧ LG τ ∧ DG τ ∧ QG τ ∧ ZG τ ∧ HG τ ∧ τ 0 7 = -1
def CA (σ τ : Sg) : Prop := RA σ τ ∧ PA σ τ ∧ LA σ τ ∧ TW σ τ ∧ TT σ τ ∧ DA σ τ ∧ QA σ τ ∧ SA σ τ
def II (σ τ : Sg) : Prop := GG τ ∧ CA σ τ ∧ σ 0 0 = τ 0 1
theorem CA_w8 {σ τ : Sg} {b : Nat → Int32} (h : CA σ τ) : CA (w8 σ b) τ := h
theorem II_w8 {σ τ : Sg} {b : Nat → Int32} (h : II σ τ) : II (w8 σ b) τ := h
/-! whether loads hold, over a time -/
def lhF (τ : Sg) (x f t : Int32) (k : Nat) : Bool := decide (f < τ 19 k) && (!decide (t < τ 19 k) && BD τ (AT τ (τ 19 k)) (τ 19 k) x)
def LH (τ : Sg) (x f t : Int32) : Bool := BD τ (AT τ f) f x || ex (lhF τ x f t) (npl τ) 0
theorem lh_L {σ τ : Sg} (hN : NG τ) (hG : RG τ) (hL : LG τ) (hRA : RA σ τ) (hPA : PA σ τ) (hLA : LA σ τ) (hTW : TW σ τ) {x f t : Int32} (hx : VP τ x) : ∀ (c k N : Nat) (b : Nat → Int32), k + c = npl τ → c < N →
    ∃ b', L_PM_loadsHold_14 N x f t (nI k) (w8 σ b) = some (bI (!ex (lhF τ x f t) c k), w8 σ b') := by
  have hn := hN.2.2.2.1.2
  intro c
  induction c with
  | zero =>
    intro k N b hk hc
    obtain ⟨N, rfl⟩ : ∃ N', N = N' + 1 := ⟨N - 1, by omega⟩
    refine ⟨b, ?_⟩
    show B_PM_loadsHold_14 (L_PM_loadsHold_14 N) x f t (nI k) (w8 σ b) = _
    unfold B_PM_loadsHold_14
    rw [(LA_w8 (b := b) hLA).1, hN.2.2.2.1.1, if_pos (nI_le (by omega) (by omega))]
    rfl
  | succ c ih =>
    intro k N b hk hc
    obtain ⟨N, rfl⟩ : ∃ N', N = N' + 1 := ⟨N - 1, by omega⟩
    have r := (LA_w8 (b := b) hLA).2 k (by omega)
    have hB : L_PM_loadsHold_14 (N + 1) x f t (nI k) (w8 σ b) = B_PM_loadsHold_14 (L_PM_loadsHold_14 N) x f t (nI k) (w8 σ b) := rfl
    obtain ⟨b1, e1⟩ := hold_eq hN hG hL (RA_w8 (b := b) hRA) (PA_w8 hPA) (LA_w8 hLA) (TW_w8 hTW) (τ 19 k) hx
    rw [w8_w8] at e1
    rw [hB]
    unfold B_PM_loadsHold_14
    rw [(LA_w8 (b := b) hLA).1, hN.2.2.2.1.1, if_neg (nI_ge (by omega) (by omega)), inB_nI (by omega) (by omega), nI_clamp (by omega), r.2.2.1, nI_1]
    simp only [gd_t, lt1, ex]
    by_cases z1 : f < τ 19 k
    · rw [if_neg (by rw [Int32.not_le]; exact z1)]
      by_cases z2 : t < τ 19 k
      · rw [if_pos z2]
        obtain ⟨b', i⟩ := ih (k + 1) N b (by omega) (by omega)
        refine ⟨b', ?_⟩
        rw [i]
        simp [lhF, z2]
      · rw [if_neg z2, e1, Option.bind_some]
        by_cases z3 : BD τ (AT τ (τ 19 k)) (τ 19 k) x = true
        · refine ⟨b1, ?_⟩
          rw [z3]
          show (if (bI !true) = 0 then _ else _) = _
          rw [if_n1]
          simp [lhF, z1, z2, z3, bI]
        · obtain ⟨b', i⟩ := ih (k + 1) N b1 (by omega) (by omega)
          refine ⟨b', ?_⟩
          rw [ts_nt z3]
          show (if (bI !false) = 0 then _ else _) = _
          rw [if_n0]
          refine i.trans ?_
          simp [lhF, ts_nt z3]
    · rw [if_pos (by rw [← Int32.not_lt]; exact z1)]
      obtain ⟨b', i⟩ := ih (k + 1) N b (by omega) (by omega)
      refine ⟨b', ?_⟩
      rw [i]
      simp [lhF, z1]
theorem lh_eq {σ τ : Sg} (hN : NG τ) (hG : RG τ) (hL : LG τ) (hRA : RA σ τ) (hPA : PA σ τ) (hLA : LA σ τ) (hTW : TW σ τ) {x : Int32} (f t : Int32) (hx : VP τ x) :
    ∃ b', f_PM_loadsHold σ x f t = some (bI (!LH τ x f t), w8 σ b') := by
  have hn := hN.2.2.2.1.2
  obtain ⟨b1, e1⟩ := hold_eq hN hG hL hRA hPA hLA hTW f hx
  unfold f_PM_loadsHold LH
  rw [e1, Option.bind_some]
  by_cases z : BD τ (AT τ f) f x = true
  · refine ⟨b1, ?_⟩
    rw [z]
    show (if (bI !true) = 0 then _ else _) = _
    rw [if_n1]
    simp [bI]
  · obtain ⟨b', i⟩ := lh_L hN hG hL hRA hPA hLA hTW hx (npl τ) 0 fuel b1 (by omega) (by unfold fuel; omega)
    refine ⟨b', ?_⟩
    rw [ts_nt z, Bool.false_or]
    show (if (bI !false) = 0 then _ else _) = _
    rw [if_n0]
    exact i
/-! the reference's thought -/
def TH (τ : Sg) (o : Nat) (x : Int32) : Sg := st (st τ 0 7 (nI o)) 0 8 x
theorem TH_07 (τ : Sg) (o : Nat) (x : Int32) : TH τ o x 0 7 = nI o := rfl
theorem TH_08 (τ : Sg) (o : Nat) (x : Int32) : TH τ o x 0 8 = x := rfl
theorem TH_NG {τ : Sg} {o : Nat} {x : Int32} (h : NG τ) : NG (TH τ o x) := h
theorem TH_RG {τ : Sg} {o : Nat} {x : Int32} (h : RG τ) : RG (TH τ o x) := h
theorem TH_PG {τ : Sg} {o : Nat} {x : Int32} (h : PG τ) : PG (TH τ o x) := h
theorem TH_LG {τ : Sg} {o : Nat} {x : Int32} (h : LG τ) : LG (TH τ o x) := h
theorem TH_VP {τ : Sg} {o : Nat} {x y : Int32} (h : VP τ y) : VP (TH τ o x) y := h
theorem TH_BD (τ : Sg) (o : Nat) (x : Int32) (A : Nat → Int32) (h y : Int32) : BD (TH τ o x) A h y = BD τ A h y := rfl
def mcF (τ : Sg) (o : Nat) (x h : Int32) (k : Nat) : Bool := decide (h < τ 19 k) && BD τ (AQ (TH τ o x) (τ 19 k)) (τ 19 k) x
def MC (τ : Sg) (o : Nat) (x h : Int32) : Bool := BD τ (AQ (TH τ o x) h) h x || ex (mcF τ o x h) (npl τ) 0
theorem AQ_VP {τ : Sg} (hN : NG τ) (hG : RG τ) {t : Nat} {x : Int32} (hx : VP τ x) (h : Int32) {o : Nat} (ho : o < 20) : VP (TH τ t x) (AQ (TH τ t x) h o) := by
  have key : ∀ (s o : Nat) (v : Int32), o < 20 → wk (ndT (TH τ t x) h) s o = some v → VP τ v := by
    intro s
    induction s with
    | zero => intro o v _ e; cases e
    | succ s ih =>
      intro o v ho e
      by_cases z : nI o = nI t
      · have r : ndT (TH τ t x) h o = .inl x := by unfold ndT; rw [TH_07, TH_08, if_pos z]
        rw [wk_l r] at e
        cases e
        exact hx
      · have r : ndT (TH τ t x) h o = nd τ h o := by unfold ndT; rw [TH_07, if_neg z]; rfl
        cases f : nd τ h o with
        | inl y =>
          rw [wk_l (r.trans f)] at e
          cases e
          exact wk_VP hN hG 1 o v ho (by rw [wk_l f])
        | inr y =>
          rw [wk_r (r.trans f)] at e
          exact ih y v (nd_lt hN hG o y ho f) e
  show VP τ _
  unfold AQ
  cases e : wk (ndT (TH τ t x) h) 21 o with
  | none => exact Or.inl rfl
  | some v => exact key 21 o v ho e
theorem mc_L {τ : Sg} (hN : NG τ) (hG : RG τ) (hP : PG τ) (hL : LG τ) {t : Nat} {x h : Int32} (hx : VP τ x) : ∀ (c k N : Nat), k + c = npl τ → c < N →
    L_MD_mayCome_21 N x h 0 (nI k) (TH τ t x) = some (0, st (TH τ t x) 0 7 (-1)) ∧ L_MD_mayCome_21 N x h 1 (nI k) (TH τ t x) = some (bI (!ex (mcF τ t x h) c k), st (TH τ t x) 0 7 (-1)) := by
  have hn := hN.2.2.2.1.2
  have e5 : TH τ t x 0 5 = nI (npl τ) := hN.2.2.2.1.1
  have e19 : TH τ t x 19 = τ 19 := rfl
  intro c
  induction c with
  | zero =>
    intro k N hk hc
    obtain ⟨N, rfl⟩ : ∃ N', N = N' + 1 := ⟨N - 1, by omega⟩
    constructor
    · show B_MD_mayCome_21 (L_MD_mayCome_21 N) x h 0 (nI k) (TH τ t x) = _
      unfold B_MD_mayCome_21
      rw [e5, if_pos (nI_le (by omega) (by omega))]
      rfl
    · show B_MD_mayCome_21 (L_MD_mayCome_21 N) x h 1 (nI k) (TH τ t x) = _
      unfold B_MD_mayCome_21
      rw [e5, if_pos (nI_le (by omega) (by omega))]
      rfl
  | succ c ih =>
    intro k N hk hc
    obtain ⟨N, rfl⟩ : ∃ N', N = N' + 1 := ⟨N - 1, by omega⟩
    obtain ⟨i0, i1⟩ := ih (k + 1) N (by omega) (by omega)
    constructor
    · show B_MD_mayCome_21 (L_MD_mayCome_21 N) x h 0 (nI k) (TH τ t x) = _
      unfold B_MD_mayCome_21
      rw [e5, if_neg (nI_ge (by omega) (by omega)), if_pos rfl, nI_1]
      exact i0
    · show B_MD_mayCome_21 (L_MD_mayCome_21 N) x h 1 (nI k) (TH τ t x) = _
      unfold B_MD_mayCome_21
      rw [e5, if_neg (nI_ge (by omega) (by omega)), if_neg (by decide), nI_1, inB_nI (by omega) (by omega), nI_clamp (by omega), e19, bears_eq (TH_NG hN) (TH_RG hG) (TH_PG hP) (TH_LG hL) (fun o ho => AQ_VP hN hG hx (τ 19 k) ho) (TH_VP hx), Option.bind_some, TH_BD]
      simp only [gd_t, ex]
      by_cases z1 : h < τ 19 k
      · rw [if_neg (by rw [Int32.not_le]; exact z1)]
        by_cases z2 : BD τ (AQ (TH τ t x) (τ 19 k)) (τ 19 k) x = true
        · rw [z2, if_n1, i0]
          simp [mcF, z1, z2, bI]
        · rw [ts_nt z2, if_n0, i1]
          simp [mcF, ts_nt z2]
      · rw [if_pos (by rw [← Int32.not_lt]; exact z1), i1]
        simp [mcF, z1]
theorem mc_eq {τ : Sg} (hN : NG τ) (hG : RG τ) (hP : PG τ) (hL : LG τ) (t : Nat) {x : Int32} (h : Int32) (hx : VP τ x) : f_MD_mayCome τ (nI t) x h = some (bI (!MC τ t x h), st (TH τ t x) 0 7 (-1)) := by
  have hn := hN.2.2.2.1.2
  have m := mc_L hN hG hP hL (t := t) (h := h) hx (npl τ) 0 fuel (by omega) (by unfold fuel; omega)
  unfold f_MD_mayCome
  simp only [lt1]
  show (f_MD_bears (TH τ t x) x h).bind (fun r3 => L_MD_mayCome_21 fuel x h r3 0 (TH τ t x)) = _
  rw [bears_eq (TH_NG hN) (TH_RG hG) (TH_PG hP) (TH_LG hL) (fun o ho => AQ_VP hN hG hx h ho) (TH_VP hx), Option.bind_some, TH_BD]
  unfold MC
  by_cases z : BD τ (AQ (TH τ t x) h) h x = true
  · rw [z]
    exact m.1
  · rw [ts_nt z, Bool.false_or]
    exact m.2
/-! a row more -/
def jx (τ : Sg) (t : Nat) : Nat := 40 * t + mm τ t
def RW (τ : Sg) (t : Nat) (x kd tg : Int32) : Sg := st (st (st (st (st τ 9 (jx τ t) x) 10 (jx τ t) kd) 11 (jx τ t) tg) 8 t (τ 8 t + 1)) 0 1 x
theorem RW_8 (τ : Sg) (t : Nat) (x kd tg : Int32) : RW τ t x kd tg 8 = upd (τ 8) t (τ 8 t + 1) := rfl
theorem RW_9 (τ : Sg) (t : Nat) (x kd tg : Int32) : RW τ t x kd tg 9 = upd (τ 9) (jx τ t) x := rfl
theorem RW_10 (τ : Sg) (t : Nat) (x kd tg : Int32) : RW τ t x kd tg 10 = upd (τ 10) (jx τ t) kd := rfl
theorem RW_11 (τ : Sg) (t : Nat) (x kd tg : Int32) : RW τ t x kd tg 11 = upd (τ 11) (jx τ t) tg := rfl
theorem RW_01 (τ : Sg) (t : Nat) (x kd tg : Int32) : RW τ t x kd tg 0 1 = x := rfl
theorem row_eq {τ : Sg} (hG : RG τ) {t : Nat} (ht : t < 20) (hm : mm τ t < 40) (x kd tg : Int32) : f_MD_row τ (nI t) x kd tg = some (RW τ t x kd tg) := by
  unfold f_MD_row
  rw [inB_nI ht (by omega), nI_clamp (by omega), (hG.1 t ht).1, xi40]
  simp only [gd_t, lt1]
  rw [inB_nI (by omega) (by omega), nI_clamp (by omega)]
  simp only [gd_t]
  rfl
theorem mm_RW {τ : Sg} (hG : RG τ) {t : Nat} (ht : t < 20) (x kd tg : Int32) (o : Nat) : mm (RW τ t x kd tg) o = if o = t then mm τ t + 1 else mm τ o := by
  have a := hG.1 t ht
  unfold mm at a ⊢
  rw [RW_8]
  by_cases z : o = t
  · rw [if_pos z, z, pk_us, a.1, nI_1, nI_clamp (by omega), nI_clamp (by omega)]
  · rw [if_neg z, pk_un z]
theorem RG_RW {τ : Sg} (hG : RG τ) {t : Nat} (ht : t < 20) (hm : mm τ t < 40) {x kd tg : Int32} (hx0 : ¬ x < 0) (hx : τ 0 1 ≤ x)
    (hk : (kd = 0 ∧ ∃ p, p < np τ ∧ tg = nI p) ∨ (kd = 1 ∧ ∃ b, b < no τ ∧ tg = nI b) ∨ (kd = 2 ∧ tg = -1)) : RG (RW τ t x kd tg) := by
  have a := hG.1 t ht
  constructor
  · intro o ho
    have q := hG.1 o ho
    rw [mm_RW hG ht, RW_8]
    by_cases z : o = t
    · rw [if_pos z, z, pk_us]
      exact ⟨by rw [a.1, nI_1], by omega⟩
    · rw [if_neg z, pk_un z]
      exact q
  · intro o ho k hk2
    rw [mm_RW hG ht] at hk2
    rw [RW_9, RW_10, RW_11, RW_01]
    by_cases y : 40 * o + k = jx τ t
    · rw [y, pk_us, pk_us, pk_us]
      exact ⟨hx0, Int32.le_refl x, hk⟩
    · rw [pk_un y, pk_un y, pk_un y]
      have hk3 : k < mm τ o := by
        by_cases z : o = t
        · rw [if_pos z] at hk2
          unfold jx at y
          rw [z] at y ⊢
          omega
        · rw [if_neg z] at hk2
          exact hk2
      obtain ⟨q1, q2, q3⟩ := hG.2 o ho k hk3
      exact ⟨q1, Int32.le_trans q2 hx, q3⟩
theorem NG_RW {τ : Sg} {t : Nat} {x kd tg : Int32} (h : NG τ) : NG (RW τ t x kd tg) := h
theorem lr_RW {τ : Sg} (hG : RG τ) {t : Nat} (ht : t < 20) (hm : mm τ t < 40) (x kd tg h : Int32) {o : Nat} (ho : o < 20) (hot : o ≠ t) : lr (RW τ t x kd tg 9) (40 * o) h (mm (RW τ t x kd tg) o) = lr (τ 9) (40 * o) h (mm τ o) := by
  rw [mm_RW hG ht, if_neg hot, RW_9]
  have a := (hG.1 o ho).2
  exact lr_congr (fun k hk => pk_un (by unfold jx; omega))
theorem nd_RW {τ : Sg} (hG : RG τ) {t : Nat} (ht : t < 20) (hm : mm τ t < 40) (x kd tg h : Int32) {o : Nat} (ho : o < 20) (hot : o ≠ t) : nd (RW τ t x kd tg) h o = nd τ h o := by
  have e := lr_RW hG ht hm x kd tg h ho hot
  cases f : lr (τ 9) (40 * o) h (mm τ o) with
  | none => rw [nd_n f, nd_n (e.trans f)]
  | some j =>
    obtain ⟨k, hk, hj, hj8, _⟩ := row_at hG ho f
    have a := (hG.1 o ho).2
    have y : j ≠ jx τ t := by unfold jx; omega
    rw [nd_s f, nd_s (e.trans f), RW_10, RW_11, pk_un y, pk_un y]
theorem lr_RWt {τ : Sg} (hG : RG τ) {t : Nat} (ht : t < 20) (x kd tg : Int32) {h : Int32} (hh : x ≤ h) : lr (RW τ t x kd tg 9) (40 * t) h (mm (RW τ t x kd tg) t) = some (jx τ t) := by
  rw [mm_RW hG ht, if_pos rfl, RW_9]
  refine lr_of (by unfold jx; omega) (by unfold jx; omega) ?_ (fun i a b => ?_)
  · rw [pk_us, Int32.not_lt]; exact hh
  · unfold jx at a; omega
/-- behind all hours one hour is as another -/
theorem nd_late {τ : Sg} (hG : RG τ) {h : Int32} (hh : τ 0 1 ≤ h) {o : Nat} (ho : o < 20) : lr (τ 9) (40 * o) h (mm τ o) = lr (τ 9) (40 * o) (τ 0 1) (mm τ o) := by
  have low : ∀ i, 40 * o ≤ i → i < 40 * o + mm τ o → ∀ h', τ 0 1 ≤ h' → ¬ h' < τ 9 i := by
    intro i a b h' c
    have q := (hG.2 o ho (i - 40 * o) (by omega)).2.1
    rw [show 40 * o + (i - 40 * o) = i by omega] at q
    rw [Int32.not_lt]
    exact Int32.le_trans q c
  cases f : lr (τ 9) (40 * o) (τ 0 1) (mm τ o) with
  | none => exact lr_ofN (fun i a b => absurd (lr_none f i a b) (low i a b _ (Int32.le_refl _)))
  | some j =>
    obtain ⟨a1, a2, a3, a4⟩ := lr_some f
    exact lr_of a1 a2 (low j a1 a2 h hh) (fun i a b => absurd (a4 i a b) (low i (by omega) b _ (Int32.le_refl _)))
theorem nd_late2 {τ : Sg} (hG : RG τ) {h : Int32} (hh : τ 0 1 ≤ h) {o : Nat} (ho : o < 20) : nd τ h o = nd τ (τ 0 1) o := by
  have e := nd_late hG hh ho
  cases f : lr (τ 9) (40 * o) (τ 0 1) (mm τ o) with
  | none => rw [nd_n f, nd_n (e.trans f)]
  | some j => rw [nd_s f, nd_s (e.trans f)]
/-- the thought answers as the row that is added -/
theorem AQ_RW {τ : Sg} (hN : NG τ) (hG : RG τ) {t : Nat} (ht : t < 20) (hm : mm τ t < 40) {x kd tg p : Int32} (hR : RG (RW τ t x kd tg)) {h : Int32} (hp : wk (nd (RW τ t x kd tg) h) 20 t = some p) {o : Nat} (ho : o < 20) : AQ (TH τ t p) h o = AT (RW τ t x kd tg) h o := by
  unfold AQ AT
  have hc := nd_lt (NG_RW (t := t) (x := x) (kd := kd) (tg := tg) hN) hR (h := h)
  rw [← wk_told hc hp ho (show 20 ≤ 21 by omega)]
  congr 1
  refine wk_congr (M := 20) ?_ ?_ 21 o ho
  · intro o o' ho e
    unfold ndT at e
    rw [TH_07] at e
    by_cases z : nI o = nI t
    · rw [if_pos z] at e; cases e
    · rw [if_neg z] at e
      exact nd_lt hN hG o o' ho e
  · intro o ho
    unfold ndT
    rw [TH_07, TH_08]
    by_cases z : o = t
    · rw [z, if_pos rfl, if_pos rfl]
    · rw [if_neg (fun a => z ((nI_eq (by omega) (by omega)).mp a)), if_neg z, nd_RW hG ht hm x kd tg h ho z]
      rfl
