/-! planned -/
def Lσ (σ : Sg) (n : Nat) (a b f t : Int32) : Sg := st (st (st (st (st σ 25 n a) 26 n b) 27 n f) 28 n t) 5 0 (σ 5 0 + 1)
def Lτ (τ : Sg) (n : Nat) (a b f t : Int32) : Sg := st (st (st (st (st (st τ 0 0 0) 17 n a) 18 n b) 19 n f) 20 n t) 0 5 (τ 0 5 + 1)
theorem npl_L {τ : Sg} (hN : NG τ) (hlt : npl τ < 30) (a b f t : Int32) : npl (Lτ τ (npl τ) a b f t) = npl τ + 1 := by
  have e2 : Lτ τ (npl τ) a b f t 0 5 = τ 0 5 + 1 := rfl
  show (Lτ τ (npl τ) a b f t 0 5).toNatClampNeg = _
  rw [e2, hN.2.2.2.1.1, nI_1, nI_clamp (by omega)]
theorem II_plan {σ τ : Sg} (hI : II σ τ) (hlt : npl τ < 30) {a b : Nat} (ha : a < no τ) (hb : b < np τ) {f : Int32} (t : Int32) (hf : f ≤ 1000000) : II (Lσ σ (npl τ) (nI a) (nI b) f t) (Lτ τ (npl τ) (nI a) (nI b) f t) := by
  obtain ⟨⟨g1, g2, g3, g4, g5, g6, g7, g8, g9⟩, ⟨c1, c2, c3, c4, c5, c6, c7, c8⟩, hpr⟩ := hI
  have e2 : Lτ τ (npl τ) (nI a) (nI b) f t 0 5 = τ 0 5 + 1 := rfl
  have ep := npl_L g1 hlt (nI a) (nI b) f t
  refine ⟨⟨⟨g1.1, g1.2.1, g1.2.2.1, ⟨by rw [e2, ep, g1.2.2.2.1.1, nI_1], by omega⟩, g1.2.2.2.2⟩, g2, g3, ?_, g5, g6, g7, g8, g9⟩, ⟨c1, c2, ⟨?_, ?_⟩, c4, c5, c6, c7, c8⟩, hpr⟩
  · intro d hd
    rw [ep] at hd
    show (∃ a', a' < no τ ∧ upd (τ 17) (npl τ) (nI a) d = nI a') ∧ (∃ a', a' < np τ ∧ upd (τ 18) (npl τ) (nI b) d = nI a') ∧ upd (τ 19) (npl τ) f d ≤ 1000000
    by_cases z : d = npl τ
    · rw [z, pk_us, pk_us, pk_us]
      exact ⟨⟨a, ha, rfl⟩, ⟨b, hb, rfl⟩, hf⟩
    · rw [pk_un z, pk_un z, pk_un z]
      exact g4 d (by omega)
  · show σ 5 0 + 1 = τ 0 5 + 1
    rw [c3.1]
  · intro d hd
    rw [ep] at hd
    show upd (σ 25) (npl τ) (nI a) d = upd (τ 17) (npl τ) (nI a) d ∧ upd (σ 26) (npl τ) (nI b) d = upd (τ 18) (npl τ) (nI b) d ∧ upd (σ 27) (npl τ) f d = upd (τ 19) (npl τ) f d ∧ upd (σ 28) (npl τ) t d = upd (τ 20) (npl τ) t d
    by_cases z : d = npl τ
    · rw [z, pk_us, pk_us, pk_us, pk_us, pk_us, pk_us, pk_us, pk_us]
      exact ⟨rfl, rfl, rfl, rfl⟩
    · rw [pk_un z, pk_un z, pk_un z, pk_un z, pk_un z, pk_un z, pk_un z, pk_un z]
      exact c3.2 d (by omega)
theorem II_unplan {σ τ : Sg} (hI : II σ τ) (hlt : npl τ < 30) (a b f t : Int32) (m : Nat → Int32) : II (st (w8 (Lσ σ (npl τ) a b f t) m) 5 0 (nI (npl τ))) (st (Lτ τ (npl τ) a b f t) 0 5 (nI (npl τ))) := by
  obtain ⟨⟨g1, g2, g3, g4, g5, g6, g7, g8, g9⟩, ⟨c1, c2, c3, c4, c5, c6, c7, c8⟩, hpr⟩ := hI
  have e2 : st (Lτ τ (npl τ) a b f t) 0 5 (nI (npl τ)) 0 5 = nI (npl τ) := rfl
  have ep : npl (st (Lτ τ (npl τ) a b f t) 0 5 (nI (npl τ))) = npl τ := by
    show (st (Lτ τ (npl τ) a b f t) 0 5 (nI (npl τ)) 0 5).toNatClampNeg = _
    rw [e2, nI_clamp (by omega)]
  refine ⟨⟨⟨g1.1, g1.2.1, g1.2.2.1, ⟨by rw [e2, ep], by omega⟩, g1.2.2.2.2⟩, g2, g3, ?_, g5, g6, g7, g8, g9⟩, ⟨c1, c2, ⟨rfl, ?_⟩, c4, c5, c6, c7, c8⟩, hpr⟩
  · intro d hd
    rw [ep] at hd
    show (∃ a', a' < no τ ∧ upd (τ 17) (npl τ) a d = nI a') ∧ (∃ a', a' < np τ ∧ upd (τ 18) (npl τ) b d = nI a') ∧ upd (τ 19) (npl τ) f d ≤ 1000000
    rw [pk_un (by omega), pk_un (by omega), pk_un (by omega)]
    exact g4 d hd
  · intro d hd
    rw [ep] at hd
    show upd (σ 25) (npl τ) a d = upd (τ 17) (npl τ) a d ∧ upd (σ 26) (npl τ) b d = upd (τ 18) (npl τ) b d ∧ upd (σ 27) (npl τ) f d = upd (τ 19) (npl τ) f d ∧ upd (σ 28) (npl τ) t d = upd (τ 20) (npl τ) t d
    rw [pk_un (by omega), pk_un (by omega), pk_un (by omega), pk_un (by omega), pk_un (by omega), pk_un (by omega), pk_un (by omega), pk_un (by omega)]
    exact c3.2 d hd
theorem padd_eq {σ : Sg} {n : Nat} (hs : σ 5 0 = nI n) (hn : n < 30) (a b f t : Int32) : f_Plans_add σ a b f t = some (Lσ σ n a b f t) := by
  unfold f_Plans_add Lσ
  simp only [lt1]
  have s2 : ∀ j v, st σ 25 j v 5 0 = nI n := fun j v => hs
  have s3 : ∀ j v j2 v2, st (st σ 25 j v) 26 j2 v2 5 0 = nI n := fun j v j2 v2 => hs
  have s4 : ∀ j v j2 v2 j3 v3, st (st (st σ 25 j v) 26 j2 v2) 27 j3 v3 5 0 = nI n := fun j v j2 v2 j3 v3 => hs
  have s5 : ∀ j v j2 v2 j3 v3 j4 v4, st (st (st (st σ 25 j v) 26 j2 v2) 27 j3 v3) 28 j4 v4 5 0 = nI n := fun j v j2 v2 j3 v3 j4 v4 => hs
  simp only [hs, s2, s3, s4, s5]
  rw [inB_nI hn (by omega), nI_clamp (by omega)]
  simp only [gd_t]
theorem pl_go {τ : Sg} {n : Nat} (hs : τ 0 5 = nI n) (hn : n < 30) (a b f t : Int32) : C_MD_planned_62 a b f t 1 1 1 τ = (f_MD_bears (Lτ τ n a b f t) b f).bind fun r9 => L_MD_planned_132 fuel b f t r9 0 (Lτ τ n a b f t) := by
  unfold C_MD_planned_62 Lτ
  rw [goes_0]
  simp only [lt1, Option.bind_some]
  have s1 : st τ 0 0 0 0 5 = nI n := hs
  have s2 : ∀ j v, st (st τ 0 0 0) 17 j v 0 5 = nI n := fun j v => hs
  have s3 : ∀ j v j2 v2, st (st (st τ 0 0 0) 17 j v) 18 j2 v2 0 5 = nI n := fun j v j2 v2 => hs
  have s4 : ∀ j v j2 v2 j3 v3, st (st (st (st τ 0 0 0) 17 j v) 18 j2 v2) 19 j3 v3 0 5 = nI n := fun j v j2 v2 j3 v3 => hs
  have s5 : ∀ j v j2 v2 j3 v3 j4 v4, st (st (st (st (st τ 0 0 0) 17 j v) 18 j2 v2) 19 j3 v3) 20 j4 v4 0 5 = nI n := fun j v j2 v2 j3 v3 j4 v4 => hs
  simp only [hs, s1, s2, s3, s4, s5]
  rw [inB_nI hn (by omega), nI_clamp (by omega), if_neg (show ¬ (1 : Int32) = 0 by decide)]
  simp only [gd_t]
def pnF (τ : Sg) (x f t : Int32) (k : Nat) : Bool := (!decide (τ 19 k < f) && !decide (t < τ 19 k)) && BD τ (AT τ (τ 19 k)) (τ 19 k) x
theorem bears_AT {τ : Sg} (hG : GG τ) {x : Int32} (h : Int32) (hx : VP τ x) : f_MD_bears τ x h = some (bI (!BD τ (AT τ h) h x)) := by
  obtain ⟨g1, g2, g3, g4, g5, g6, g7, g8, g9⟩ := hG
  rw [bears_eq g1 g2 g3 g4 (fun o ho => by rw [AQ_AT g1 g2 g9 h ho]; exact AT_VP g1 g2 ho) hx, BD_congr g1.2.1.2 (fun o ho => AQ_AT g1 g2 g9 h ho) x]
theorem pn_L {τ : Sg} (hG : GG τ) {n : Nat} (hm : npl τ = n + 1) {x f t : Int32} (hx : VP τ x) : ∀ (c k N : Nat), k + c = n → c < N →
    L_MD_planned_132 N x f t 0 (nI k) τ = some (1, st τ 0 5 (nI n)) ∧ L_MD_planned_132 N x f t 1 (nI k) τ = some (bI (ex (pnF τ x f t) c k), st τ 0 5 (if ex (pnF τ x f t) c k = true then nI n else nI (n + 1))) := by
  have hn := hG.1.2.2.2.1.2
  have e5 : τ 0 5 = nI (n + 1) := by rw [hG.1.2.2.2.1.1, hm]
  have e6 : nI (n + 1) - 1 = nI n := by rw [← nI_1, Int32.add_sub_cancel]
  intro c
  induction c with
  | zero =>
    intro k N hk hc
    obtain ⟨N, rfl⟩ : ∃ N', N = N' + 1 := ⟨N - 1, by omega⟩
    constructor
    · show B_MD_planned_132 (L_MD_planned_132 N) x f t 0 (nI k) τ = _
      unfold B_MD_planned_132
      rw [e5, e6, if_pos (nI_le (by omega) (by omega))]
      rfl
    · show B_MD_planned_132 (L_MD_planned_132 N) x f t 1 (nI k) τ = _
      unfold B_MD_planned_132
      rw [e5, e6, if_pos (nI_le (by omega) (by omega))]
      rfl
  | succ c ih =>
    intro k N hk hc
    obtain ⟨N, rfl⟩ : ∃ N', N = N' + 1 := ⟨N - 1, by omega⟩
    obtain ⟨i0, i1⟩ := ih (k + 1) N (by omega) (by omega)
    constructor
    · show B_MD_planned_132 (L_MD_planned_132 N) x f t 0 (nI k) τ = _
      unfold B_MD_planned_132
      rw [e5, e6, if_neg (nI_ge (by omega) (by omega)), if_pos rfl, nI_1]
      exact i0
    · show B_MD_planned_132 (L_MD_planned_132 N) x f t 1 (nI k) τ = _
      unfold B_MD_planned_132
      rw [e5, e6, if_neg (nI_ge (by omega) (by omega)), if_neg (by decide), nI_1, inB_nI (by omega) (by omega), nI_clamp (by omega), bears_AT hG _ hx, within_eq]
      simp only [gd_t, Option.bind_some]
      have ee : ex (pnF τ x f t) (c + 1) k = (pnF τ x f t k || ex (pnF τ x f t) c (k + 1)) := rfl
      by_cases z1 : (!decide (τ 19 k < f) && !decide (t < τ 19 k)) = true
      · rw [z1, bI_t, if_neg (by decide)]
        by_cases z2 : BD τ (AT τ (τ 19 k)) (τ 19 k) x = true
        · have e : pnF τ x f t k = true := by unfold pnF; rw [z1, z2]; rfl
          rw [e, Bool.true_or] at ee
          rw [z2, if_n1, i0, ee, bI_t, if_pos rfl]
        · have e : pnF τ x f t k = false := by unfold pnF; rw [ts_nt z2, Bool.and_false]
          rw [e, Bool.false_or] at ee
          rw [ts_nt z2, if_n0, i1, ee]
      · have e : pnF τ x f t k = false := by unfold pnF; rw [ts_nt z1, Bool.false_and]
        rw [e, Bool.false_or] at ee
        rw [ts_nt z1, bI_f, if_pos rfl, i1, ee]
theorem LH_pn {τ : Sg} {n : Nat} (hm : npl τ = n + 1) {x f t : Int32} (hf : τ 19 n = f) (hB : BD τ (AT τ f) f x = false) : LH τ x f t = ex (pnF τ x f t) n 0 := by
  unfold LH
  rw [hB, Bool.false_or, hm]
  apply Bool.eq_iff_iff.mpr
  rw [ex_iff, ex_iff]
  constructor
  · rintro ⟨i, _, hi, h⟩
    unfold lhF at h
    rw [Bool.and_eq_true, Bool.and_eq_true, decide_eq_true_iff] at h
    obtain ⟨h1, h2, h3⟩ := h
    have z : i ≠ n := by
      intro q
      rw [q, hf] at h1
      exact Int32.lt_irrefl h1
    refine ⟨i, by omega, by omega, ?_⟩
    unfold pnF
    rw [h2, h3, decide_eq_false (show ¬ τ 19 i < f by rw [Int32.not_lt]; exact Int32.le_of_lt h1)]
    rfl
  · rintro ⟨i, _, hi, h⟩
    unfold pnF at h
    rw [Bool.and_eq_true, Bool.and_eq_true] at h
    obtain ⟨⟨h1, h2⟩, h3⟩ := h
    have h1 : ¬ τ 19 i < f := by simpa using h1
    have z : ¬ τ 19 i = f := by
      intro q
      rw [q, hB] at h3
      cases h3
    refine ⟨i, by omega, by omega, ?_⟩
    have h4 : f < τ 19 i := by
      rw [Int32.lt_iff_toInt_lt] at h1 ⊢
      have : (τ 19 i).toInt ≠ f.toInt := fun q => z (Int32.toInt_inj.mp q)
      omega
    unfold lhF
    rw [h2, h3, decide_eq_true h4]
    rfl
theorem pl_1 (τ : Sg) (p1 p2 p3 p4 : Int32) : C_MD_planned_22 p1 p2 p3 p4 0 τ = some (0, st τ 0 0 1) := by
  have h : ∀ a b, C_MD_planned_62 p1 p2 p3 p4 a b 0 τ = some (0, st τ 0 0 1) := fun a b => rfl
  unfold C_MD_planned_22
  simp only [h, ite_self]
theorem ok_planned : Ok_planned II := by
  intro σ τ y p1 p2 p3 p4 hI
  have hn := hI.1.1.2.2.2.1
  have hs : σ 5 0 = nI (npl τ) := hI.2.1.2.2.1.1.trans hn.1
  have hpr := hI.2.2
  unfold h_planned f_PM_planned f_MD_planned
  rcases obj_cases hI p1 with ⟨a, b⟩ | ⟨o, ho, e, a, b⟩
  · rw [a, b]
    exact ⟨1, 0, σ, st τ 0 0 1, y, rfl, pl_1 τ p1 p2 p3 p4, rfl, fun h => absurd h (by decide), II_th hI⟩
  rw [a, b]
  simp only [Option.bind_some, ↓reduceIte]
  rw [if_neg (show ¬ (1 : Int32) = 0 by decide)]
  rcases plc_cases hI p2 with ⟨a, b⟩ | ⟨q, hq, eq, a, b⟩
  · rw [a, b]
    exact ⟨1, 0, σ, st τ 0 0 1, y, rfl, pl_1 τ p1 p2 p3 p4, rfl, fun h => absurd h (by decide), II_th hI⟩
  rw [a, b]
  simp only [Option.bind_some, ↓reduceIte]
  rw [if_neg (show ¬ (1 : Int32) = 0 by decide)]
  have h2 : ∀ a, C_MD_planned_62 p1 p2 p3 p4 a 0 1 τ = some (0, st τ 0 0 2) := fun a => rfl
  unfold C_MD_planned_22
  simp only [h2, ite_self]
  rw [hpr]
  rcases rng_cases σ τ p3 (τ 0 1) 1000000 with ⟨c, _, d⟩ | ⟨d1, d2, c, _⟩
  · rw [c]
    refine ⟨2, 0, σ, st τ 0 0 2, y, rfl, ?_, rfl, fun h => absurd h (by decide), II_th hI⟩
    by_cases z : p3 < τ 0 1
    · rw [if_pos z]
    · rw [if_neg z]
      by_cases z2 : p4 < p3
      · rw [if_pos z2]
      · rw [if_neg z2, if_pos]
        rcases d with d | d
        · exact absurd d z
        · rw [Int32.lt_iff_toInt_lt] at d z2 ⊢
          omega
  rw [c]
  simp only [Option.bind_some, ↓reduceIte]
  rw [if_neg d1]
  rcases rng_cases σ τ p4 p3 1000000 with ⟨c, _, d⟩ | ⟨d3, d4, c, _⟩
  · rw [c]
    refine ⟨2, 0, σ, st τ 0 0 2, y, rfl, ?_, rfl, fun h => absurd h (by decide), II_th hI⟩
    by_cases z2 : p4 < p3
    · rw [if_pos z2]
    · rw [if_neg z2, if_pos]
      rcases d with d | d
      · exact absurd d z2
      · exact d
  rw [c]
  simp only [Option.bind_some, ↓reduceIte]
  rw [if_neg d3, if_neg d4, hs, hn.1, show (30 : Int32) = nI 30 from rfl]
  by_cases z : npl τ < 30
  · rw [room_yes σ z (by omega), if_neg (nI_ge z (by omega)), padd_eq hs z, pl_go hn.1 z]
    simp only [Option.bind_some, ↓reduceIte]
    subst e
    subst eq
    have hI6 := II_plan hI z ho hq p4 (show p3 ≤ 1000000 by rw [← Int32.not_lt]; exact d2)
    have hm := npl_L hI.1.1 z (nI o) (nI q) p3 p4
    obtain ⟨c1, c2, c3, c4, c5, c6, c7, c8⟩ := id hI6.2.1
    have hx : VP (Lτ τ (npl τ) (nI o) (nI q) p3 p4) (nI q) := Or.inr ⟨q, hq, rfl⟩
    have hf : Lτ τ (npl τ) (nI o) (nI q) p3 p4 19 (npl τ) = p3 := by
      show upd (τ 19) (npl τ) p3 (npl τ) = p3
      rw [pk_us]
    have e5 : Lσ σ (npl τ) (nI o) (nI q) p3 p4 5 0 = nI (npl τ) + 1 := by
      show σ 5 0 + 1 = _
      rw [hs]
    obtain ⟨m, el⟩ := lh_eq hI6.1.1 hI6.1.2.1 hI6.1.2.2.2.1 c1 c2 c3 c4 p3 p4 hx
    have hd : f_Plans_dropNewest (w8 (Lσ σ (npl τ) (nI o) (nI q) p3 p4) m) = some (st (w8 (Lσ σ (npl τ) (nI o) (nI q) p3 p4) m) 5 0 (nI (npl τ))) := by
      have e6 : w8 (Lσ σ (npl τ) (nI o) (nI q) p3 p4) m 5 0 = nI (npl τ) + 1 := e5
      unfold f_Plans_dropNewest
      simp only [lt1]
      rw [e6, Int32.add_sub_cancel]
    obtain ⟨i0, i1⟩ := pn_L hI6.1 hm (f := p3) (t := p4) hx (npl τ) 0 fuel (by omega) (by unfold fuel; omega)
    rw [el, bears_AT hI6.1 p3 hx]
    simp only [Option.bind_some]
    have hrf : II (st (w8 (Lσ σ (npl τ) (nI o) (nI q) p3 p4) m) 5 0 (nI (npl τ))) (st (Lτ τ (npl τ) (nI o) (nI q) p3 p4) 0 5 (nI (npl τ))) := II_unplan hI z (nI o) (nI q) p3 p4 m
    by_cases zB : BD (Lτ τ (npl τ) (nI o) (nI q) p3 p4) (AT (Lτ τ (npl τ) (nI o) (nI q) p3 p4) p3) p3 (nI q) = true
    · have eL : LH (Lτ τ (npl τ) (nI o) (nI q) p3 p4) (nI q) p3 p4 = true := by unfold LH; rw [zB]; rfl
      rw [eL, zB, if_n1, hd]
      exact ⟨0, 1, _, _, _, rfl, i0, rfl, fun _ => pk_uLs, hrf⟩
    · have eL := LH_pn hm (x := nI q) (t := p4) hf (ts_nt zB)
      rw [eL, ts_nt zB]
      by_cases zE : ex (pnF (Lτ τ (npl τ) (nI o) (nI q) p3 p4) (nI q) p3 p4) (npl τ) 0 = true
      · rw [zE, if_pos rfl] at i1
        rw [zE, if_n1, hd]
        exact ⟨0, 1, _, _, _, rfl, i1, rfl, fun _ => pk_uLs, hrf⟩
      · rw [ts_nt zE, if_neg (by decide)] at i1
        rw [ts_nt zE, if_n0]
        refine ⟨0, 0, _, _, _, rfl, i1, rfl, fun _ => pk_uLs, ?_⟩
        have e7 : st (Lτ τ (npl τ) (nI o) (nI q) p3 p4) 0 5 (nI (npl τ + 1)) = Lτ τ (npl τ) (nI o) (nI q) p3 p4 := by
          have e8 : Lτ τ (npl τ) (nI o) (nI q) p3 p4 0 5 = nI (npl τ + 1) := by rw [hI6.1.1.2.2.2.1.1, hm]
          rw [← e8]
          funext i j
          by_cases zi : i = 0
          · rw [zi, st_s]
            by_cases zj : j = 5
            · rw [zj, pk_us]
            · rw [pk_un zj]
          · rw [st_n _ _ _ zi]
        rw [e7]
        exact II_w8 hI6
  · rw [room_no σ (by omega) (by omega), if_pos (nI_le (by omega) (by omega))]
    exact ⟨3, 0, σ, st τ 0 0 3, y, rfl, rfl, rfl, fun h => absurd h (by decide), II_th hI⟩
