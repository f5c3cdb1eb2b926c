/-! plain lemmas for the pure part: guards, bits, chains, counting -/
theorem gd_t {β : Type} {o : Option β} : gd true o = o := rfl
theorem inB_nI {n N : Nat} (h : n < N) (hN : N < 2 ^ 31) : inB (nI n) N = true := by
  have q := nI_in h hN
  unfold inB
  simpa using q
theorem nI_m1 {n : Nat} (h : n < 2 ^ 31) : nI n ≠ -1 := fun e => nI_pos h (by rw [e]; decide)
theorem nI_nat {x : Int32} {n : Nat} (h0 : ¬ x < 0) (h : x < nI n) (hn : n < 2 ^ 31) : ∃ j, j < n ∧ x = nI j := by
  rcases pk_ix x hn with a | a | a
  · exact absurd a h0
  · rw [Int32.lt_iff_toInt_lt] at h
    rw [Int32.le_iff_toInt_le] at a
    omega
  · exact a
def bI (b : Bool) : Int32 := if b = true then 1 else 0
theorem bI_t : bI true = 1 := rfl
theorem bI_f : bI false = 0 := rfl
theorem bI_0 (b : Bool) : (bI b = 0) ↔ b = false := by cases b <;> decide
theorem bI_isB (b : Bool) : isB (bI b) = true := by cases b <;> decide
/-! ===== Int32 by its bits: bt x i ===== -/
def bt (x : Int32) (i : Nat) : Bool := x.toBitVec.getLsbD i
theorem b_ext {x y : Int32} (h : ∀ i, i < 32 → bt x i = bt y i) : x = y := Int32.toBitVec_inj.mp (BitVec.eq_of_getLsbD_eq (fun i hi => h i hi))
theorem b_or (x y : Int32) (i : Nat) : bt (x ||| y) i = (bt x i || bt y i) := by unfold bt; rw [Int32.toBitVec_or, BitVec.getLsbD_or]
theorem b_and (x y : Int32) (i : Nat) : bt (x &&& y) i = (bt x i && bt y i) := by unfold bt; rw [Int32.toBitVec_and, BitVec.getLsbD_and]
theorem b_xor (x y : Int32) (i : Nat) : bt (x ^^^ y) i = (bt x i ^^ bt y i) := by unfold bt; rw [Int32.toBitVec_xor, BitVec.getLsbD_xor]
theorem b_big {x : Int32} {i : Nat} (h : 32 ≤ i) : bt x i = false := BitVec.getLsbD_of_ge _ _ h
theorem b_m1 : ∀ i, i < 32 → bt (-1) i = true := by decide +kernel
theorem b_0 (i : Nat) : bt 0 i = false := BitVec.getLsbD_zero
theorem s_l : ∀ n, n < 32 → ((nI n &&& 31).toBitVec.smod 32).toNat = n := by decide +kernel
theorem s_u : ∀ n, n < 32 → (((nI n).toUInt32 &&& Int32.toUInt32 31).toBitVec % 32).toNat = n := by decide +kernel
theorem b_shl (n : Nat) (hn : n < 32) (x : Int32) {i : Nat} (hi : i < 32) : bt (x <<< (nI n &&& 31)) i = (decide (n ≤ i) && bt x (i - n)) := by
  unfold bt
  rw [Int32.toBitVec_shiftLeft]
  show (x.toBitVec <<< ((nI n &&& 31).toBitVec.smod 32).toNat).getLsbD i = _
  rw [s_l n hn, BitVec.getLsbD_shiftLeft]
  rcases Nat.lt_or_ge i n with h | h
  · simp [h, Nat.not_le.mpr h]
  · simp [hi, h, Nat.not_lt.mpr h]
theorem b_ushr (n : Nat) (hn : n < 32) (x : Int32) (i : Nat) : bt ((x.toUInt32 >>> ((nI n).toUInt32 &&& Int32.toUInt32 31)).toInt32) i = bt x (n + i) := by
  show (x.toUInt32 >>> ((nI n).toUInt32 &&& Int32.toUInt32 31)).toBitVec.getLsbD i = x.toUInt32.toBitVec.getLsbD (n + i)
  rw [UInt32.toBitVec_shiftRight]
  show (x.toUInt32.toBitVec >>> (((nI n).toUInt32 &&& Int32.toUInt32 31).toBitVec % 32).toNat).getLsbD i = _
  rw [s_u n hn, BitVec.getLsbD_ushiftRight]
/-! ===== Int64 as a set of bits: test, set, clear ===== -/
theorem ts_nf {x : Bool} (h : ¬ x = false) : x = true := by cases x <;> first | rfl | exact absurd rfl h
theorem ts_nt {x : Bool} (h : ¬ x = true) : x = false := by cases x <;> first | rfl | exact absurd rfl h
theorem ts_bit {w : Int64} {s : UInt64} {j : Nat} (hj : j < 64) (hs : s.toNat = j) : ((w.toUInt64 >>> s).toInt64 &&& 1) = 0 ↔ w.toBitVec.getLsbD j = false := by
  have e : (w.toUInt64 >>> s).toInt64.toBitVec = w.toBitVec >>> j := by
    apply BitVec.eq_of_toNat_eq
    show (w.toUInt64 >>> s).toNat = _
    rw [UInt64.toNat_shiftRight, hs, Nat.mod_eq_of_lt hj, BitVec.toNat_ushiftRight]
    rfl
  rw [← Int64.toBitVec_inj, Int64.toBitVec_and, e]
  show w.toBitVec >>> j &&& 1#64 = 0#64 ↔ _
  constructor
  · intro h
    have t := congrArg (fun x => x.getLsbD 0) h
    simpa using t
  · intro h
    apply BitVec.eq_of_getLsbD_eq
    intro i hi
    cases i with
    | zero => simp [h]
    | succ i => simp
theorem ts_or {w m : Int64} {j : Nat} (hj : j < 64) (hm : m.toBitVec = BitVec.twoPow 64 j) : (w ||| m) = w ↔ w.toBitVec.getLsbD j = true := by
  rw [← Int64.toBitVec_inj, Int64.toBitVec_or, hm]
  constructor
  · intro h
    have t := congrArg (fun x => x.getLsbD j) h
    simp only [BitVec.getLsbD_or, BitVec.getLsbD_twoPow] at t
    simpa [hj] using t.symm
  · intro h
    apply BitVec.eq_of_getLsbD_eq
    intro i hi
    rw [BitVec.getLsbD_or, BitVec.getLsbD_twoPow]
    by_cases e : j = i
    · subst e; rw [h, Bool.true_or]
    · simp [e]
/-! mine again -/
theorem b_1 : ∀ i, i < 32 → bt 1 i = decide (i = 0) := by decide +kernel
theorem and1 (y : Int32) : (y &&& 1 = 1) ↔ bt y 0 = true := by
  constructor
  · intro h
    have t := congrArg (fun x => bt x 0) h
    simp only [b_and] at t
    rw [b_1 0 (by omega)] at t
    simpa using t
  · intro h
    apply b_ext
    intro i hi
    rw [b_and, b_1 i hi]
    by_cases e : i = 0
    · subst e; simp [h]
    · simp [e]
theorem ush_bit (x : Int32) {q : Nat} (hq : q < 32) : (ush x (nI q) &&& 1 = 1) ↔ bt x q = true := by
  rw [and1]
  unfold ush
  rw [b_ushr q hq x 0]
  simp
theorem shl_bit {n i : Nat} (hn : n < 32) (hi : i < 32) : bt (1 <<< (nI n &&& 31)) i = decide (i = n) := by
  rw [b_shl n hn 1 hi]
  by_cases h : n ≤ i
  · rw [b_1 (i - n) (by omega)]
    simp only [h, decide_true, Bool.true_and]
    exact decide_eq_decide.mpr (by omega)
  · simp [h]
    omega
def ex (f : Nat → Bool) : Nat → Nat → Bool
  | 0, _ => false
  | c + 1, k => f k || ex f c (k + 1)
theorem ex_iff (f : Nat → Bool) : ∀ (c k : Nat), ex f c k = true ↔ ∃ i, k ≤ i ∧ i < k + c ∧ f i = true := by
  intro c
  induction c with
  | zero => intro k; simp only [ex]; constructor
            · intro h; cases h
            · rintro ⟨i, a, b, _⟩; omega
  | succ c ih =>
    intro k
    simp only [ex, Bool.or_eq_true, ih]
    constructor
    · rintro (h | ⟨i, a, b, d⟩)
      · exact ⟨k, by omega, by omega, h⟩
      · exact ⟨i, by omega, by omega, d⟩
    · rintro ⟨i, a, b, d⟩
      by_cases e : i = k
      · exact Or.inl (e ▸ d)
      · exact Or.inr ⟨i, by omega, by omega, d⟩
theorem ex_congr {f g : Nat → Bool} : ∀ (c k : Nat), (∀ i, k ≤ i → i < k + c → f i = g i) → ex f c k = ex g c k := by
  intro c
  induction c with
  | zero => intro k _; rfl
  | succ c ih =>
    intro k h
    simp only [ex]
    rw [h k (by omega) (by omega), ih (k + 1) (fun i a b => h i (by omega) (by omega))]
def ws (gr : Nat → Int32) (f : Nat → Bool) : Nat → Nat → Int32 → Int32
  | 0, _, acc => acc
  | c + 1, k, acc => ws gr f c (k + 1) (if f k = true then acc + gr k else acc)
theorem ws_congr {gr gr' : Nat → Int32} {f g : Nat → Bool} : ∀ (c k : Nat) (acc : Int32), (∀ i, k ≤ i → i < k + c → f i = g i ∧ gr i = gr' i) → ws gr f c k acc = ws gr' g c k acc := by
  intro c
  induction c with
  | zero => intro k acc _; rfl
  | succ c ih =>
    intro k acc h
    simp only [ws]
    rw [(h k (by omega) (by omega)).1, (h k (by omega) (by omega)).2, ih (k + 1) _ (fun i a b => h i (by omega) (by omega))]
def cnt (f : Nat → Bool) : Nat → Nat
  | 0 => 0
  | n + 1 => cnt f n + (if f n = true then 1 else 0)
theorem cnt_le (f : Nat → Bool) : ∀ n, cnt f n ≤ n
  | 0 => Nat.le_refl 0
  | n + 1 => by
    have := cnt_le f n
    simp only [cnt]
    split <;> omega
theorem cnt_full (f : Nat → Bool) : ∀ n, n ≤ cnt f n → ∀ i, i < n → f i = true
  | 0, _, i, h => absurd h (Nat.not_lt_zero i)
  | n + 1, hc, i, h => by
    have a := cnt_le f n
    simp only [cnt] at hc
    by_cases e : f n = true
    · rw [if_pos e] at hc
      by_cases z : i = n
      · exact z ▸ e
      · exact cnt_full f n (by omega) i (by omega)
    · rw [if_neg e] at hc
      omega
theorem cnt_mono {f g : Nat → Bool} : ∀ n, (∀ i, i < n → f i = true → g i = true) → cnt f n ≤ cnt g n
  | 0, _ => Nat.le_refl 0
  | n + 1, h => by
    have a := cnt_mono n (fun i hi => h i (by omega))
    have b := h n (by omega)
    simp only [cnt]
    by_cases e : f n = true
    · rw [if_pos e, if_pos (b e)]; omega
    · rw [if_neg e]; omega
theorem cnt_lt {f g : Nat → Bool} {j : Nat} (hg : g j = true) (hf : f j = false) : ∀ n, j < n → (∀ i, i < n → f i = true → g i = true) → cnt f n < cnt g n
  | 0, hj, _ => absurd hj (Nat.not_lt_zero j)
  | n + 1, hj, h => by
    simp only [cnt]
    by_cases e : j = n
    · have a := cnt_mono n (fun i hi => h i (by omega))
      subst e
      rw [if_pos hg, if_neg (by rw [hf]; decide)]
      omega
    · have a := cnt_lt hg hf n (by omega) (fun i hi => h i (by omega))
      have b := h n (by omega)
      by_cases e : f n = true
      · rw [if_pos e, if_pos (b e)]; omega
      · rw [if_neg e]; omega
theorem php : ∀ (n : Nat) (f : Nat → Nat), (∀ i, i ≤ n → f i < n) → ∃ i j, i < j ∧ j ≤ n ∧ f i = f j := by
  intro n
  induction n with
  | zero => intro f h; exact absurd (h 0 (Nat.le_refl 0)) (Nat.not_lt_zero _)
  | succ n ih =>
    intro f h
    by_cases e : ∃ i, i ≤ n ∧ f i = f (n + 1)
    · obtain ⟨i, hi, e⟩ := e
      exact ⟨i, n + 1, by omega, Nat.le_refl _, e⟩
    · have e1 : ∀ i, i ≤ n → f i ≠ f (n + 1) := fun i hi q => e ⟨i, hi, q⟩
      have hl := h (n + 1) (Nat.le_refl _)
      obtain ⟨i, j, hij, hj, q⟩ := ih (fun i => if f i = n then f (n + 1) else f i) (fun i hi => by
        have a := h i (by omega)
        have b := e1 i hi
        show (if f i = n then f (n + 1) else f i) < n
        split <;> omega)
      have q : (if f i = n then f (n + 1) else f i) = (if f j = n then f (n + 1) else f j) := q
      have bi := e1 i (by omega)
      have bj := e1 j (by omega)
      refine ⟨i, j, hij, by omega, ?_⟩
      by_cases z1 : f i = n
      · by_cases z2 : f j = n
        · omega
        · rw [if_pos z1, if_neg z2] at q; omega
      · by_cases z2 : f j = n
        · rw [if_neg z1, if_pos z2] at q; omega
        · rw [if_neg z1, if_neg z2] at q; exact q
def wk (nd : Nat → Int32 ⊕ Nat) : Nat → Nat → Option Int32
  | 0, _ => none
  | s + 1, o => match nd o with
    | .inl v => some v
    | .inr o' => wk nd s o'
theorem wk_l {nd : Nat → Int32 ⊕ Nat} {s o : Nat} {v : Int32} (h : nd o = .inl v) : wk nd (s + 1) o = some v := by simp only [wk, h]
theorem wk_r {nd : Nat → Int32 ⊕ Nat} {s o o' : Nat} (h : nd o = .inr o') : wk nd (s + 1) o = wk nd s o' := by simp only [wk, h]
theorem wk_mono {nd : Nat → Int32 ⊕ Nat} {v : Int32} : ∀ (s o t : Nat), s ≤ t → wk nd s o = some v → wk nd t o = some v := by
  intro s
  induction s with
  | zero => intro o t _ h; cases h
  | succ s ih =>
    intro o t ht h
    obtain ⟨t, rfl⟩ : ∃ t', t = t' + 1 := ⟨t - 1, by omega⟩
    cases e : nd o with
    | inl x => rw [wk_l e] at h ⊢; exact h
    | inr x => rw [wk_r e] at h ⊢; exact ih x t (by omega) h
def pos (nd : Nat → Int32 ⊕ Nat) : Nat → Nat → Nat
  | 0, o => o
  | s + 1, o => match nd o with
    | .inl _ => o
    | .inr o' => pos nd s o'
theorem wk_add {nd : Nat → Int32 ⊕ Nat} : ∀ (s o t : Nat), wk nd s o = none → wk nd (s + t) o = wk nd t (pos nd s o) := by
  intro s
  induction s with
  | zero => intro o t _; rw [Nat.zero_add]; rfl
  | succ s ih =>
    intro o t h
    rw [show s + 1 + t = (s + t) + 1 by omega]
    cases e : nd o with
    | inl x => rw [wk_l e] at h; cases h
    | inr x =>
      rw [wk_r e] at h ⊢
      simp only [pos, e]
      exact ih x t h
theorem pos_lt {nd : Nat → Int32 ⊕ Nat} {M : Nat} (hc : ∀ o o', o < M → nd o = .inr o' → o' < M) : ∀ (s o : Nat), o < M → pos nd s o < M := by
  intro s
  induction s with
  | zero => intro o h; exact h
  | succ s ih =>
    intro o h
    cases e : nd o with
    | inl x => simp only [pos, e]; exact h
    | inr x => simp only [pos, e]; exact ih x (hc o x h e)
theorem wk_stop {nd : Nat → Int32 ⊕ Nat} {M : Nat} (hc : ∀ o o', o < M → nd o = .inr o' → o' < M) {o : Nat} (ho : o < M) (h : wk nd M o = none) : ∀ s, wk nd s o = none := by
  have low : ∀ s, s ≤ M → wk nd s o = none := by
    intro s hs
    cases e : wk nd s o with
    | none => rfl
    | some v => rw [wk_mono s o M hs e] at h; cases h
  obtain ⟨i, j, hij, hj, e⟩ := php M (fun s => pos nd s o) (fun s _ => pos_lt hc s o ho)
  have e : pos nd i o = pos nd j o := e
  intro s
  induction s using Nat.strongRecOn with
  | ind s ih =>
    by_cases hs : s ≤ M
    · exact low s hs
    · have a := wk_add j o (s - j) (low j hj)
      have b := wk_add i o (s - j) (low i (by omega))
      rw [show j + (s - j) = s by omega] at a
      rw [a, ← e, ← b]
      exact ih (i + (s - j)) (by omega)
theorem wk_eq {nd : Nat → Int32 ⊕ Nat} {M : Nat} (hc : ∀ o o', o < M → nd o = .inr o' → o' < M) {o : Nat} (ho : o < M) {s : Nat} (hs : M ≤ s) : wk nd s o = wk nd M o := by
  cases e : wk nd M o with
  | none => exact wk_stop hc ho e s
  | some v => exact wk_mono M o s hs e
theorem wk_congr {nd nd' : Nat → Int32 ⊕ Nat} {M : Nat} (hc : ∀ o o', o < M → nd o = .inr o' → o' < M) (he : ∀ o, o < M → nd o = nd' o) : ∀ (s o : Nat), o < M → wk nd s o = wk nd' s o := by
  intro s
  induction s with
  | zero => intro o _; rfl
  | succ s ih =>
    intro o h
    have z := he o h
    cases e : nd o with
    | inl x => rw [wk_l e, wk_l (z ▸ e)]
    | inr x => rw [wk_r e, wk_r (z ▸ e)]; exact ih x (hc o x h e)
/-- a chain that is told where one of its objects ends answers as the chain itself -/
theorem wk_told {nd : Nat → Int32 ⊕ Nat} {t : Nat} {p : Int32} {M : Nat} (hc : ∀ o o', o < M → nd o = .inr o' → o' < M) (hp : wk nd M t = some p) {o : Nat} (ho : o < M) {s : Nat} (hs : M ≤ s) :
    wk (fun o => if o = t then .inl p else nd o) s o = wk nd M o := by
  have up : ∀ (s o : Nat) (v : Int32), wk nd s o = some v → wk (fun o => if o = t then .inl p else nd o) s o = some v := by
    intro s
    induction s with
    | zero => intro o v h; cases h
    | succ s ih =>
      intro o v h
      by_cases e : o = t
      · have a := wk_mono (s + 1) o (s + 1 + M) (by omega) h
        have b := wk_mono M t (s + 1 + M) (by omega) hp
        rw [e, b] at a
        have z : (if o = t then (.inl p : Int32 ⊕ Nat) else nd o) = .inl p := if_pos e
        rw [wk_l z]
        exact a
      · have z : (if o = t then (.inl p : Int32 ⊕ Nat) else nd o) = nd o := if_neg e
        cases f : nd o with
        | inl x => rw [wk_l (z.trans f)]; rw [wk_l f] at h; exact h
        | inr x => rw [wk_r (z.trans f)]; rw [wk_r f] at h; exact ih x v h
  have down : ∀ (s o : Nat) (v : Int32), wk (fun o => if o = t then .inl p else nd o) s o = some v → ∃ s', wk nd s' o = some v := by
    intro s
    induction s with
    | zero => intro o v h; cases h
    | succ s ih =>
      intro o v h
      by_cases e : o = t
      · have z : (if o = t then (.inl p : Int32 ⊕ Nat) else nd o) = .inl p := if_pos e
        rw [wk_l z] at h
        exact ⟨M, by rw [e, hp]; exact h⟩
      · have z : (if o = t then (.inl p : Int32 ⊕ Nat) else nd o) = nd o := if_neg e
        cases f : nd o with
        | inl x => rw [wk_l (z.trans f)] at h; exact ⟨1, by rw [wk_l f]; exact h⟩
        | inr x =>
          rw [wk_r (z.trans f)] at h
          obtain ⟨s', h'⟩ := ih x v h
          exact ⟨s' + 1, by rw [wk_r f]; exact h'⟩
  cases e : wk nd M o with
  | some v => exact wk_mono M o s hs (up M o v e)
  | none =>
    cases f : wk (fun o => if o = t then .inl p else nd o) s o with
    | none => rfl
    | some v =>
      obtain ⟨s', h'⟩ := down s o v f
      rw [wk_stop hc ho e s'] at h'
      cases h'
