/-! ways to sit, and their codes -/
def tM (h : aH) (f : Nat → Nat) (y : Nat) : Nat → Nat
  | 0 => 0
  | q + 1 => if f q < y then nm (tM h f y q) (h.2.2.1 q (f q)) else tM h f y q
def vS1 (h : aH) (f : Nat → Nat) (y p : Nat) : Int := if f p < y then gn h p (f p) (tM h f (f p) h.1) - (f p : Int) * pw p else 0
def vY (h : aH) (f : Nat → Nat) (y : Nat) : Int := sSum (vS1 h f y) h.1
def SY (h : aH) (f : Nat → Nat) (y : Nat) : Nat := gK (fun p => decide (f p < y)) h.1
/-- two that seat the same in front of y -/
def smY (n : Nat) (f g : Nat → Nat) (y : Nat) : Prop := ∀ q, q < n → (f q < y ∧ g q = f q) ∨ (¬ f q < y ∧ ¬ g q < y)
theorem smY_le {n : Nat} {f g : Nat → Nat} {y z : Nat} (h : smY n f g y) (hz : z ≤ y) : smY n f g z := fun q hq => by
  rcases h q hq with ⟨h1, h2⟩ | ⟨h1, h2⟩
  · by_cases e : f q < z
    · exact Or.inl ⟨e, h2⟩
    · exact Or.inr ⟨e, by omega⟩
  · exact Or.inr ⟨by omega, by omega⟩
theorem tM_sm {h : aH} {f g : Nat → Nat} {y : Nat} : ∀ k, smY k f g y → tM h g y k = tM h f y k
  | 0, _ => rfl
  | k + 1, hs => by
    have ih := tM_sm (h := h) k (fun q hq => hs q (by omega))
    unfold tM
    rcases hs k (by omega) with ⟨h1, h2⟩ | ⟨h1, h2⟩
    · rw [if_pos h1, if_pos (by omega), ih, h2]
    · rw [if_neg h1, if_neg h2, ih]
theorem vY_sm {h : aH} {f g : Nat → Nat} {y : Nat} (hs : smY h.1 f g y) : vY h g y = vY h f y := by
  refine sSum_congr h.1 (fun p hp => ?_)
  unfold vS1
  rcases hs p hp with ⟨h1, h2⟩ | ⟨h1, h2⟩
  · rw [if_pos h1, if_pos (by omega), h2, tM_sm h.1 (smY_le hs (by omega))]
  · rw [if_neg h1, if_neg h2]
theorem SY_sm {h : aH} {f g : Nat → Nat} {y : Nat} (hs : smY h.1 f g y) : SY h g y = SY h f y := by
  refine gK_cg h.1 (fun p hp => ?_)
  rcases hs p hp with ⟨h1, h2⟩ | ⟨h1, h2⟩
  · rw [decide_eq_true h1, decide_eq_true (by omega)]
  · rw [decide_eq_false h1, decide_eq_false h2]
/-- nobody in the yard y -/
theorem none_y {h : aH} {f : Nat → Nat} {y : Nat} (hno : ∀ p, p < h.1 → f p ≠ y) : SY h f (y + 1) = SY h f y ∧ tM h f (y + 1) h.1 = tM h f y h.1 ∧ vY h f (y + 1) = vY h f y := by
  refine ⟨gK_cg h.1 (fun p hp => ?_), ?_, sSum_congr h.1 (fun p hp => ?_)⟩
  · have := hno p hp
    by_cases e : f p < y
    · rw [decide_eq_true e, decide_eq_true (by omega)]
    · rw [decide_eq_false e, decide_eq_false (by omega)]
  · have key : ∀ k, k ≤ h.1 → tM h f (y + 1) k = tM h f y k := by
      intro k
      induction k with
      | zero => intro _; rfl
      | succ k ih =>
        intro hk
        have := hno k (by omega)
        unfold tM
        rw [ih (by omega)]
        by_cases e : f k < y
        · rw [if_pos e, if_pos (by omega)]
        · rw [if_neg e, if_neg (by omega)]
    exact key h.1 (Nat.le_refl _)
  · have := hno p hp
    unfold vS1
    by_cases e : f p < y
    · rw [if_pos e, if_pos (by omega)]
    · rw [if_neg e, if_neg (by omega)]
theorem sSum_one {g k : Nat → Int} {p : Nat} : ∀ n, (∀ q, q < n → q ≠ p → g q = k q) → sSum g n = sSum k n + if p < n then g p - k p else 0
  | 0, _ => by rw [if_neg (by omega)]; rfl
  | n + 1, h => by
    have ih := sSum_one n (fun q hq hne => h q (by omega) hne)
    show sSum g n + g n = sSum k n + k n + _
    rw [ih]
    by_cases e : p = n
    · subst e
      rw [if_neg (by omega), if_pos (by omega)]; omega
    · rw [h n (by omega) (fun q => e q.symm)]
      by_cases hp : p < n
      · rw [if_pos hp, if_pos (by omega)]; omega
      · rw [if_neg hp, if_neg (by omega)]; omega
/-- p in the yard y -/
theorem some_y {h : aH} {f : Nat → Nat} {y p : Nat} (hp : p < h.1) (hf : f p = y) (hu : ∀ q, q < h.1 → f q = y → q = p) : SY h f (y + 1) = SY h f y ||| 2 ^ p ∧ (SY h f y).testBit p = false ∧ tM h f (y + 1) h.1 = nm (tM h f y h.1) (h.2.2.1 p y) ∧ vY h f (y + 1) = vY h f y + gn h p y (tM h f y h.1) - (y : Int) * pw p := by
  refine ⟨?_, ?_, ?_, ?_⟩
  · apply Nat.eq_of_testBit_eq
    intro i
    unfold SY
    rw [Nat.testBit_or, gK_bit, gK_bit, Nat.testBit_two_pow]
    by_cases hi : i < h.1
    · rw [decide_eq_true hi, Bool.true_and, Bool.true_and]
      by_cases e : p = i
      · subst e
        rw [decide_eq_true (show f p < y + 1 by omega), decide_eq_true rfl, Bool.or_true]
      · have : f i ≠ y := fun q => e (hu i hi q).symm
        rw [decide_eq_false e, Bool.or_false]
        by_cases q : f i < y
        · rw [decide_eq_true q, decide_eq_true (by omega)]
        · rw [decide_eq_false q, decide_eq_false (by omega)]
    · rw [decide_eq_false hi, Bool.false_and, Bool.false_and, decide_eq_false (by omega)]; rfl
  · unfold SY
    rw [gK_bit, decide_eq_false (show ¬ f p < y by omega), Bool.and_false]
  · have key : ∀ k, k ≤ h.1 → tM h f (y + 1) k = if p < k then nm (tM h f y k) (h.2.2.1 p y) else tM h f y k := by
      intro k
      induction k with
      | zero => intro _; rw [if_neg (by omega)]; rfl
      | succ k ih =>
        intro hk
        unfold tM
        rw [ih (by omega)]
        by_cases e : k = p
        · subst e
          rw [if_pos (show f k < y + 1 by omega), if_neg (show ¬ k < k by omega), if_pos (by omega), if_neg (show ¬ f k < y by omega), hf]
        · have : f k ≠ y := fun q => e (hu k (by omega) q)
          by_cases q : f k < y
          · rw [if_pos (show f k < y + 1 by omega), if_pos q]
            by_cases hpk : p < k
            · rw [if_pos hpk, if_pos (by omega)]
              unfold nm
              repeat' split
              all_goals omega
            · rw [if_neg hpk, if_neg (by omega)]
          · rw [if_neg (show ¬ f k < y + 1 by omega), if_neg q]
            by_cases hpk : p < k
            · rw [if_pos hpk, if_pos (by omega)]
            · rw [if_neg hpk, if_neg (by omega)]
    have := key h.1 (Nat.le_refl _)
    rw [if_pos hp] at this
    exact this
  · unfold vY
    rw [sSum_one (g := vS1 h f (y + 1)) (k := vS1 h f y) (p := p) h.1 (fun q hq hne => ?_), if_pos hp]
    · have e1 : vS1 h f (y + 1) p = gn h p y (tM h f y h.1) - (y : Int) * pw p := by
        unfold vS1
        rw [if_pos (by omega), hf]
      have e2 : vS1 h f y p = 0 := if_neg (by omega)
      rw [e1, e2]; omega
    · have : f q ≠ y := fun e => hne (hu q hq e)
      unfold vS1
      by_cases e : f q < y
      · rw [if_pos e, if_pos (by omega)]
      · rw [if_neg e, if_neg (by omega)]
def ijY (n : Nat) (f : Nat → Nat) (y : Nat) : Prop := ∀ p q, p < n → q < n → f p = f q → f p < y → p = q
theorem way_of {h : aH} : ∀ y S t v, dR h y S t v → ∃ f, ijY h.1 f y ∧ S = SY h f y ∧ t = tM h f y h.1 ∧ v = vY h f y
  | 0, S, t, v, q => by
    obtain ⟨rfl, rfl, rfl⟩ := q
    refine ⟨fun _ => 0, fun p q _ _ _ hlt => absurd hlt (by omega), ?_, ?_, ?_⟩
    · unfold SY
      apply Nat.eq_of_testBit_eq
      intro i
      rw [gK_bit, Nat.zero_testBit, Bool.and_eq_false_iff.mpr (Or.inr (decide_eq_false (Nat.not_lt_zero _)))]
    · have key : ∀ k, tM h (fun _ => 0) 0 k = 0 := by
        intro k
        induction k with
        | zero => rfl
        | succ k ih => unfold tM; rw [if_neg (by omega), ih]
      exact (key h.1).symm
    · have key : ∀ k, sSum (vS1 h (fun _ => 0) 0) k = 0 := by
        intro k
        induction k with
        | zero => rfl
        | succ k ih =>
          show sSum _ k + vS1 h (fun _ => 0) 0 k = 0
          rw [ih, show vS1 h (fun _ => 0) 0 k = 0 from if_neg (by omega)]; rfl
      exact (key h.1).symm
  | y + 1, S, t, v, q => by
    rcases q with q | ⟨S', t', p', h1, h2, h3, h4, v', h5, h6⟩
    · obtain ⟨f, hj, e1, e2, e3⟩ := way_of y S t v q
      have sm : smY h.1 f (fun q => if f q < y then f q else y + 100) y := fun q _ => by
        by_cases e : f q < y
        · exact Or.inl ⟨e, if_pos e⟩
        · exact Or.inr ⟨e, by show ¬ (if f q < y then f q else y + 100) < y; rw [if_neg e]; omega⟩
      obtain ⟨n1, n2, n3⟩ := none_y (h := h) (f := fun q => if f q < y then f q else y + 100) (y := y) (fun p _ => by
        show (if f p < y then f p else y + 100) ≠ y
        split <;> omega)
      refine ⟨fun q => if f q < y then f q else y + 100, fun p q hp hq he hlt => ?_, by rw [n1, SY_sm sm]; exact e1, by rw [n2, tM_sm h.1 sm]; exact e2, by rw [n3, vY_sm sm]; exact e3⟩
      have he : (if f p < y then f p else y + 100) = if f q < y then f q else y + 100 := he
      have hlt : (if f p < y then f p else y + 100) < y + 1 := hlt
      by_cases e : f p < y
      · by_cases e' : f q < y
        · rw [if_pos e, if_pos e'] at he; exact hj p q hp hq he e
        · rw [if_pos e, if_neg e'] at he; omega
      · rw [if_neg e] at hlt; omega
    · obtain ⟨f, hj, e1, e2, e3⟩ := way_of y S' t' v' h5
      have hnp : ¬ f p' < y := fun e => by
        rw [e1] at h2
        unfold SY at h2
        rw [gK_bit, decide_eq_true h1, decide_eq_true e] at h2
        cases h2
      have sm : smY h.1 f (fun q => if q = p' then y else if f q < y then f q else y + 100) y := fun q _ => by
        by_cases eq : q = p'
        · subst eq; exact Or.inr ⟨hnp, by show ¬ (if q = q then y else _) < y; rw [if_pos rfl]; omega⟩
        · by_cases e : f q < y
          · exact Or.inl ⟨e, by show (if q = p' then y else if f q < y then f q else y + 100) = f q; rw [if_neg eq, if_pos e]⟩
          · exact Or.inr ⟨e, by show ¬ (if q = p' then y else if f q < y then f q else y + 100) < y; rw [if_neg eq, if_neg e]; omega⟩
      have at_y : ∀ q, (if q = p' then y else if f q < y then f q else y + 100) = y → q = p' := fun q e => by
        by_cases eq : q = p'
        · exact eq
        · rw [if_neg eq] at e
          by_cases e' : f q < y
          · rw [if_pos e'] at e; omega
          · rw [if_neg e'] at e; omega
      obtain ⟨n1, n0, n2, n3⟩ := some_y (h := h) (f := fun q => if q = p' then y else if f q < y then f q else y + 100) (y := y) h1 (if_pos rfl) (fun q _ e => at_y q e)
      refine ⟨fun q => if q = p' then y else if f q < y then f q else y + 100, fun p q hp hq he hlt => ?_, by rw [n1, SY_sm sm, ← e1]; exact h3, by rw [n2, tM_sm h.1 sm, ← e2]; exact h4, by rw [n3, vY_sm sm, tM_sm h.1 sm, ← e2, ← e3]; exact h6⟩
      have he : (if p = p' then y else if f p < y then f p else y + 100) = if q = p' then y else if f q < y then f q else y + 100 := he
      have hlt : (if p = p' then y else if f p < y then f p else y + 100) < y + 1 := hlt
      by_cases ep : p = p'
      · rw [if_pos ep] at he
        exact ep.trans (at_y q he.symm).symm
      · rw [if_neg ep] at he hlt
        by_cases e : f p < y
        · rw [if_pos e] at he
          by_cases eq : q = p'
          · rw [if_pos eq] at he; omega
          · rw [if_neg eq] at he
            by_cases e' : f q < y
            · rw [if_pos e'] at he; exact hj p q hp hq he e
            · rw [if_neg e'] at he; omega
        · rw [if_neg e] at hlt; omega
theorem of_way {h : aH} {f : Nat → Nat} : ∀ y, ijY h.1 f y → dR h y (SY h f y) (tM h f y h.1) (vY h f y)
  | 0, _ => by
    refine ⟨?_, ?_, ?_⟩
    · unfold SY
      apply Nat.eq_of_testBit_eq
      intro i
      rw [gK_bit, Nat.zero_testBit, Bool.and_eq_false_iff.mpr (Or.inr (decide_eq_false (Nat.not_lt_zero _)))]
    · have key : ∀ k, tM h f 0 k = 0 := by
        intro k
        induction k with
        | zero => rfl
        | succ k ih => unfold tM; rw [if_neg (by omega), ih]
      exact key h.1
    · have key : ∀ k, sSum (vS1 h f 0) k = 0 := by
        intro k
        induction k with
        | zero => rfl
        | succ k ih =>
          show sSum _ k + vS1 h f 0 k = 0
          rw [ih, show vS1 h f 0 k = 0 from if_neg (by omega)]; rfl
      exact key h.1
  | y + 1, hj => by
    have ih := of_way (h := h) (f := f) y (fun p q hp hq he hlt => hj p q hp hq he (by omega))
    by_cases e : ∃ p, p < h.1 ∧ f p = y
    · obtain ⟨p, hp, hf⟩ := e
      obtain ⟨n1, n0, n2, n3⟩ := some_y (h := h) (f := f) (y := y) hp hf (fun q hq e => hj q p hq hp (e.trans hf.symm) (by omega))
      refine Or.inr ⟨SY h f y, tM h f y h.1, p, hp, n0, n1, n2, vY h f y, ih, n3⟩
    · obtain ⟨n1, n2, n3⟩ := none_y (h := h) (f := f) (y := y) (fun p hp q => e ⟨p, hp, q⟩)
      rw [n1, n2, n3]
      exact Or.inl ih
/-- a way for all -/
def wyOk (n : Nat) (f : Nat → Nat) : Prop := (∀ p, p < n → f p < 8) ∧ ∀ p q, p < n → q < n → f p = f q → p = q
theorem spM_way {h : aH} (ok : aOk h) {E : Nat} {a : Nat → Int} (hE : E + 1 = 2 ^ h.1) (hi : dI h 8 (fun _ _ _ => False) a) : mxP (fun v => ∃ f, wyOk h.1 f ∧ v = vY h f 8) (spM E a 11) := by
  refine mxP_cg (fun v => ?_) (spM_ok ok hE hi 11 (Nat.le_refl _))
  constructor
  · rintro ⟨t, ht, q⟩
    obtain ⟨f, hj, e1, e2, e3⟩ := way_of 8 E t v q
    have hl : ∀ p, p < h.1 → f p < 8 := fun p hp => by
      have := congrArg (fun x => x.testBit p) e1
      unfold SY at this
      rw [gK_bit, show E = 2 ^ h.1 - 1 by omega, Nat.testBit_two_pow_sub_one, decide_eq_true hp, Bool.true_and] at this
      exact of_decide_eq_true this.symm
    exact ⟨f, ⟨hl, fun p q hp hq he => hj p q hp hq he (hl p hp)⟩, e3⟩
  · rintro ⟨f, ⟨hl, hj⟩, e⟩
    have q := of_way (h := h) (f := f) 8 (fun p q hp hq he _ => hj p q hp hq he)
    have eE : SY h f 8 = E := by
      apply Nat.eq_of_testBit_eq
      intro i
      unfold SY
      rw [gK_bit, show E = 2 ^ h.1 - 1 by omega, Nat.testBit_two_pow_sub_one]
      by_cases hi : i < h.1
      · rw [decide_eq_true hi, decide_eq_true (hl i hi)]; rfl
      · rw [decide_eq_false hi, Bool.false_and]
    rw [eE] at q
    have := (dR_bd ok 8 (by omega) _ _ _ q).2.1
    exact ⟨tM h f 8 h.1, by omega, by rw [e]; exact q⟩
/-! codes -/
def cd (f : Nat → Nat) : Nat → Nat
  | 0 => 0
  | p + 1 => 8 * cd f p + f p
def dj (c j : Nat) : Nat := c / 8 ^ j % 8
theorem cd_lt {f : Nat → Nat} : ∀ k, (∀ p, p < k → f p < 8) → cd f k < 8 ^ k
  | 0, _ => by show 0 < 1; omega
  | k + 1, h => by
    have := cd_lt k (fun p hp => h p (by omega))
    have := h k (by omega)
    show 8 * cd f k + f k < 8 ^ (k + 1)
    rw [Nat.pow_succ]; omega
theorem dj_cd {f : Nat → Nat} : ∀ k, (∀ p, p < k → f p < 8) → ∀ p, p < k → dj (cd f k) (k - 1 - p) = f p
  | 0, _, p, hp => absurd hp (by omega)
  | k + 1, h, p, hp => by
    have hk := h k (by omega)
    unfold dj
    by_cases e : p = k
    · subst e
      rw [show p + 1 - 1 - p = 0 by omega, Nat.pow_zero, Nat.div_one]
      show (8 * cd f p + f p) % 8 = f p
      omega
    · have ih := dj_cd k (fun p hp => h p (by omega)) p (by omega)
      rw [show k + 1 - 1 - p = (k - 1 - p) + 1 by omega, Nat.pow_succ, Nat.mul_comm, ← Nat.div_div_eq_div_mul]
      show (8 * cd f k + f k) / 8 / 8 ^ (k - 1 - p) % 8 = f p
      rw [show (8 * cd f k + f k) / 8 = cd f k by omega]
      exact ih
theorem cd_dj {n c : Nat} (hc : c < 8 ^ n) : ∀ k, k ≤ n → cd (fun p => dj c (n - 1 - p)) k = c / 8 ^ (n - k)
  | 0, _ => by
    rw [Nat.sub_zero, Nat.div_eq_of_lt hc]; rfl
  | k + 1, hk => by
    show 8 * cd (fun p => dj c (n - 1 - p)) k + dj c (n - 1 - k) = _
    rw [cd_dj hc k (by omega)]
    unfold dj
    rw [show n - k = (n - (k + 1)) + 1 by omega, Nat.pow_succ, ← Nat.div_div_eq_div_mul, show n - 1 - k = n - (k + 1) by omega]
    omega
theorem cd_cg {f g : Nat → Nat} : ∀ k, (∀ p, p < k → f p = g p) → cd f k = cd g k
  | 0, _ => rfl
  | k + 1, h => by
    show 8 * cd f k + f k = 8 * cd g k + g k
    rw [cd_cg k (fun p hp => h p (by omega)), h k (by omega)]
/-- the way's number, as the score takes it off -/
theorem cd_way (f : Nat → Nat) : ∀ k, k ≤ 5 → sSum (fun p => (f p : Int) * pw p) k = ((cd f k * 8 ^ (5 - k) : Nat) : Int)
  | 0, _ => by show (0 : Int) = ((0 * 8 ^ 5 : Nat) : Int); omega
  | k + 1, hk => by
    show sSum (fun p => (f p : Int) * pw p) k + (f k : Int) * pw k = (((8 * cd f k + f k) * 8 ^ (5 - (k + 1)) : Nat) : Int)
    rw [cd_way f k (by omega)]
    unfold pw
    rw [show 5 - k = (4 - k) + 1 by omega, show 5 - (k + 1) = 4 - k by omega, Nat.pow_succ]
    generalize 8 ^ (4 - k) = m
    rw [← Int.natCast_mul, ← Int.natCast_add]
    congr 1
    rw [Nat.add_mul, Nat.mul_comm m 8, ← Nat.mul_assoc, Nat.mul_comm (cd f k) 8]
def wW (h : aH) (f : Nat → Nat) (p : Nat) : Int := if (tM h f (f p) h.1 : Int) ≤ h.2.1 (f p) then h.2.2.2 p (f p) else 0
def wS (h : aH) (f : Nat → Nat) : Int := sSum (wW h f) h.1
theorem wW_bd {h : aH} (ok : aOk h) {f : Nat → Nat} {p : Nat} (hp : p < h.1) (hf : f p < 8) : 0 ≤ wW h f p ∧ wW h f p ≤ 420 := by
  have := ok.2.2.2 p (f p) hp hf
  unfold wW; split <;> omega
theorem wS_bd {h : aH} (ok : aOk h) {f : Nat → Nat} (hf : wyOk h.1 f) : 0 ≤ wS h f ∧ wS h f ≤ 2100 := by
  have := sSum_bd (f := wW h f) (M := 420) (by decide) h.1 (fun q hq => wW_bd ok hq (hf.1 q hq))
  have := ok.1
  unfold wS; omega
theorem vY_eq {h : aH} (ok : aOk h) {f : Nat → Nat} (hf : wyOk h.1 f) : vY h f 8 = 32768 * wS h f - ((cd f h.1 * 8 ^ (5 - h.1) : Nat) : Int) := by
  rw [← cd_way f h.1 ok.1]
  unfold vY wS
  have key : ∀ k, k ≤ h.1 → sSum (vS1 h f 8) k = 32768 * sSum (wW h f) k - sSum (fun p => (f p : Int) * pw p) k := by
    intro k
    induction k with
    | zero => intro _; rfl
    | succ k ih =>
      intro hk
      show sSum (vS1 h f 8) k + vS1 h f 8 k = 32768 * (sSum (wW h f) k + wW h f k) - (sSum (fun p => (f p : Int) * pw p) k + (f k : Int) * pw k)
      have e : vS1 h f 8 k = 32768 * wW h f k - (f k : Int) * pw k := by
        unfold vS1 wW gn
        rw [if_pos (hf.1 k (by omega))]
        split <;> omega
      rw [ih (by omega), e]; omega
  exact key h.1 (Nat.le_refl _)
theorem tM_cg {h : aH} {f g : Nat → Nat} {y : Nat} : ∀ k, (∀ p, p < k → f p = g p) → tM h f y k = tM h g y k
  | 0, _ => rfl
  | k + 1, e => by
    unfold tM
    rw [tM_cg k (fun p hp => e p (by omega)), e k (by omega)]
theorem wS_cg {h : aH} {f g : Nat → Nat} (e : ∀ p, p < h.1 → f p = g p) : wS h f = wS h g := by
  refine sSum_congr h.1 (fun p hp => ?_)
  unfold wW
  rw [e p hp, tM_cg h.1 e]
/-- the first of the best codes -/
def fc (n c p : Nat) : Nat := dj c (n - 1 - p)
def bW (ok : Nat → Bool) (W : Nat → Int) : Nat → Int × Nat
  | 0 => (-1, 0)
  | c + 1 => if ok c = true ∧ (bW ok W c).1 < W c then (W c, c) else bW ok W c
theorem bW_ok {ok : Nat → Bool} {W : Nat → Int} (hW : ∀ c, ok c = true → 0 ≤ W c) : ∀ k, ((bW ok W k).1 = -1 ∧ ∀ c, c < k → ok c = false) ∨ (ok (bW ok W k).2 = true ∧ (bW ok W k).2 < k ∧ (bW ok W k).1 = W (bW ok W k).2 ∧ ∀ c, c < k → ok c = true → W c < W (bW ok W k).2 ∨ (W c = W (bW ok W k).2 ∧ (bW ok W k).2 ≤ c))
  | 0 => Or.inl ⟨rfl, fun c hc => absurd hc (by omega)⟩
  | k + 1 => by
    have ih := bW_ok hW k
    unfold bW
    by_cases e : ok k = true ∧ (bW ok W k).1 < W k
    · rw [if_pos e]
      refine Or.inr ⟨e.1, by show k < k + 1; omega, rfl, fun c hc hoc => ?_⟩
      show W c < W k ∨ (W c = W k ∧ k ≤ c)
      by_cases ec : c = k
      · rw [ec]; exact Or.inr ⟨rfl, Nat.le_refl _⟩
      · rcases ih with ⟨h1, h2⟩ | ⟨h1, h2, h3, h4⟩
        · rw [h2 c (by omega)] at hoc; cases hoc
        · have := h4 c (by omega) hoc
          have := e.2
          left; omega
    · rw [if_neg e]
      rcases ih with ⟨h1, h2⟩ | ⟨h1, h2, h3, h4⟩
      · refine Or.inl ⟨h1, fun c hc => ?_⟩
        by_cases ec : c = k
        · rw [ec]
          cases hk : ok k with
          | false => rfl
          | true => exact absurd ⟨hk, by have := hW k hk; omega⟩ e
        · exact h2 c (by omega)
      · refine Or.inr ⟨h1, by omega, h3, fun c hc hoc => ?_⟩
        by_cases ec : c = k
        · subst ec
          have : ¬ (bW ok W c).1 < W c := fun q => e ⟨hoc, q⟩
          by_cases eq : W c = W (bW ok W c).2
          · exact Or.inr ⟨eq, by omega⟩
          · left; omega
        · exact h4 c (by omega) hoc
/-- the class's score is that of the first best code -/
theorem score_eq {h : aH} (ok : aOk h) {sc : Int} (hm : mxP (fun v => ∃ f, wyOk h.1 f ∧ v = vY h f 8) sc) {o : Nat → Bool} (ho : ∀ c, c < 8 ^ h.1 → (o c = true ↔ wyOk h.1 (fc h.1 c))) {b : Int × Nat} (hb : b = bW o (fun c => wS h (fc h.1 c)) (8 ^ h.1)) (ho' : ∀ c, o c = true → 0 ≤ wS h (fc h.1 c)) :
    b.2 < 8 ^ h.1 ∧ wyOk h.1 (fc h.1 b.2) ∧ b.1 = wS h (fc h.1 b.2) ∧ sc = 32768 * b.1 - ((b.2 * 8 ^ (5 - h.1) : Nat) : Int) := by
  have key := bW_ok (ok := o) (W := fun c => wS h (fc h.1 c)) ho' (8 ^ h.1)
  rw [← hb] at key
  have code : ∀ f, wyOk h.1 f → cd f h.1 < 8 ^ h.1 ∧ o (cd f h.1) = true ∧ wS h (fc h.1 (cd f h.1)) = wS h f := fun f hf => by
    have e : ∀ p, p < h.1 → fc h.1 (cd f h.1) p = f p := fun p hp => dj_cd h.1 hf.1 p hp
    refine ⟨cd_lt h.1 hf.1, (ho _ (cd_lt h.1 hf.1)).mpr ⟨fun p hp => ?_, fun p q hp hq => ?_⟩, wS_cg e⟩
    · rw [e p hp]; exact hf.1 p hp
    · rw [e p hp, e q hq]; exact hf.2 p q hp hq
  have hid : wyOk h.1 (fun p => p) := ⟨fun p hp => by have := ok.1; show p < 8; omega, fun p q _ _ e => e⟩
  rcases key with ⟨-, h2⟩ | ⟨h1, h2, h3, h4⟩
  · obtain ⟨c1, c2, -⟩ := code _ hid
    rw [h2 _ c1] at c2; cases c2
  · have hv := (ho _ h2).mp h1
    have ecd : cd (fc h.1 b.2) h.1 = b.2 := by
      have := cd_dj h2 h.1 (Nat.le_refl _)
      rw [Nat.sub_self, Nat.pow_zero, Nat.div_one] at this
      exact this
    refine ⟨h2, hv, h3, ?_⟩
    have h3 : b.1 = wS h (fc h.1 b.2) := h3
    have hbest := vY_eq ok hv
    rw [ecd, ← h3] at hbest
    have h32 : ∀ c, c < 8 ^ h.1 → c * 8 ^ (5 - h.1) < 32768 := fun c hc => by
      have hp : 0 < 8 ^ (5 - h.1) := Nat.pow_pos (by decide)
      have e1 : c * 8 ^ (5 - h.1) < 8 ^ h.1 * 8 ^ (5 - h.1) := Nat.mul_lt_mul_of_pos_right hc hp
      rw [← Nat.pow_add, show h.1 + (5 - h.1) = 5 by have := ok.1; omega] at e1
      exact e1
    rcases hm with ⟨-, hn⟩ | ⟨⟨f, hf, e⟩, hx⟩
    · exact absurd ⟨_, hid, rfl⟩ (hn _)
    · have h1x := hx _ ⟨_, hv, rfl⟩
      rw [hbest] at h1x
      obtain ⟨c1, c2, c3⟩ := code f hf
      have hve := vY_eq ok hf
      have h4f : wS h f < b.1 ∨ (wS h f = b.1 ∧ b.2 ≤ cd f h.1) := by
        have := h4 _ c1 c2
        simp only [c3] at this
        rw [h3]; exact this
      have w1 := h32 b.2 h2
      rw [← e] at hve
      rcases h4f with q | ⟨q1, q2⟩
      · have : (0 : Int) ≤ ((cd f h.1 * 8 ^ (5 - h.1) : Nat) : Int) := Int.natCast_nonneg _
        omega
      · have : b.2 * 8 ^ (5 - h.1) ≤ cd f h.1 * 8 ^ (5 - h.1) := Nat.mul_le_mul_right _ q2
        rw [q1] at hve
        omega
/-- the digits of the way -/
theorem way_dj {n c p : Nat} (hn : n ≤ 5) (hp : p < n) : c * 8 ^ (5 - n) / 8 ^ (4 - p) % 8 = dj c (n - 1 - p) := by
  unfold dj
  rw [show 4 - p = (5 - n) + (n - 1 - p) by omega, Nat.pow_add, ← Nat.div_div_eq_div_mul, Nat.mul_div_cancel _ (Nat.pow_pos (by decide))]
