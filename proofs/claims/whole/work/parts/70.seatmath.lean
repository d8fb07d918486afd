/-! all seated anew: the numbers -/
theorem sl_32 : ∀ n : Nat, n < 32 → ((iI (n : Int) &&& 31).toBitVec.smod 32).toNat = n := by decide +kernel
theorem iI_bv (a : Nat) : (iI (a : Int)).toBitVec = BitVec.ofNat 32 a := by
  show BitVec.ofInt 32 (a : Int) = _
  exact BitVec.ofInt_natCast 32 a
theorem shrN {a k : Nat} (ha : a < 2147483648) (hk : k < 32) : iI (a : Int) >>> (iI (k : Int) &&& 31) = iI ((a / 2 ^ k : Nat) : Int) := by
  apply Int32.toBitVec_inj.mp
  rw [Int32.toBitVec_shiftRight]
  show ((iI (a : Int)).toBitVec.sshiftRight ((iI (k : Int) &&& 31).toBitVec.smod 32).toNat) = _
  rw [sl_32 k hk, iI_bv, iI_bv, ← Nat.shiftRight_eq_div_pow]
  apply BitVec.eq_of_getLsbD_eq
  intro i hi
  rw [BitVec.getLsbD_sshiftRight, BitVec.msb_eq_getLsbD_last, BitVec.getLsbD_ofNat, BitVec.getLsbD_ofNat, BitVec.getLsbD_ofNat, Nat.testBit_shiftRight]
  have h31 : ∀ j, 31 ≤ j → a.testBit j = false := fun j hj => by
    have e : 2 ^ 31 ≤ 2 ^ j := Nat.pow_le_pow_right (by decide) hj
    exact Nat.testBit_lt_two_pow (Nat.lt_of_lt_of_le (show a < 2 ^ 31 from ha) e)
  by_cases h : k + i < 32
  · simp [hi, h]
  · simp [hi, h, h31 (k + i) (by omega), h31 31 (by omega)]
theorem shlN {a k : Nat} (ha : a < 2147483648) (hk : k < 32) : iI (a : Int) <<< (iI (k : Int) &&& 31) = iI ((a * 2 ^ k : Nat) : Int) := by
  apply Int32.toBitVec_inj.mp
  rw [Int32.toBitVec_shiftLeft]
  show ((iI (a : Int)).toBitVec <<< ((iI (k : Int) &&& 31).toBitVec.smod 32).toNat) = _
  rw [sl_32 k hk, iI_bv, iI_bv]
  apply BitVec.eq_of_toNat_eq
  rw [BitVec.toNat_shiftLeft, BitVec.toNat_ofNat, BitVec.toNat_ofNat, Nat.shiftLeft_eq, Nat.mod_eq_of_lt (show a < 2 ^ 32 by omega)]
theorem and7 (a : Nat) : iI (a : Int) &&& iI 7 = iI ((a % 8 : Nat) : Int) := by
  apply Int32.toBitVec_inj.mp
  rw [Int32.toBitVec_and, iI_bv, iI_bv, show iI 7 = iI ((7 : Nat) : Int) from rfl, iI_bv]
  apply BitVec.eq_of_toNat_eq
  rw [BitVec.toNat_and, BitVec.toNat_ofNat, BitVec.toNat_ofNat, BitVec.toNat_ofNat, show 7 % 2 ^ 32 = 2 ^ 3 - 1 from rfl, Nat.and_two_pow_sub_one_eq_mod]
  omega
def pw (p : Nat) : Int := ((8 ^ (4 - p) : Nat) : Int)
theorem pw_c {p : Nat} (h : p < 5) : (p = 0 ∧ pw p = 4096) ∨ (p = 1 ∧ pw p = 512) ∨ (p = 2 ∧ pw p = 64) ∨ (p = 3 ∧ pw p = 8) ∨ (p = 4 ∧ pw p = 1) := by
  match p, h with
  | 0, _ => exact Or.inl ⟨rfl, rfl⟩
  | 1, _ => exact Or.inr (Or.inl ⟨rfl, rfl⟩)
  | 2, _ => exact Or.inr (Or.inr (Or.inl ⟨rfl, rfl⟩))
  | 3, _ => exact Or.inr (Or.inr (Or.inr (Or.inl ⟨rfl, rfl⟩)))
  | 4, _ => exact Or.inr (Or.inr (Or.inr (Or.inr ⟨rfl, rfl⟩)))
theorem shl_seat {y p : Nat} (hy : y < 8) (hp : p < 5) : iI (y : Int) <<< (iI (3 * (4 - (p : Int))) &&& 31) = iI ((y : Int) * pw p) := by
  have h : ∀ y : Fin 8, ∀ p : Fin 5, iI ((y.val : Nat) : Int) <<< (iI (3 * (4 - ((p.val : Nat) : Int))) &&& 31) = iI (((y.val : Nat) : Int) * pw p.val) := by decide +kernel
  exact h ⟨y, hy⟩ ⟨p, hp⟩
theorem ypw {y p : Nat} (hy : y < 8) (hp : p < 5) : 0 ≤ (y : Int) * pw p ∧ (y : Int) * pw p ≤ 28672 := by
  rcases pw_c hp with ⟨-, e⟩ | ⟨-, e⟩ | ⟨-, e⟩ | ⟨-, e⟩ | ⟨-, e⟩ <;> rw [e] <;> omega
def nm (a b : Nat) : Nat := if a < b then b else a
def im (a b : Int) : Int := if a < b then b else a
theorem nm_i (a b : Nat) : (if (a : Int) < (b : Int) then (b : Int) else (a : Int)) = ((nm a b : Nat) : Int) := by
  unfold nm
  by_cases h : a < b
  · rw [if_pos h, if_pos (by omega)]
  · rw [if_neg h, if_neg (by omega)]
theorem gK_bit (f : Nat → Bool) (i : Nat) : ∀ k, (gK f k).testBit i = (decide (i < k) && f i)
  | 0 => by simp [gK]
  | k + 1 => by
    unfold gK
    by_cases h : f k = true
    · rw [if_pos h, Nat.testBit_or, gK_bit f i k, Nat.testBit_two_pow]
      by_cases e : k = i
      · subst e; simp [h]
      · have e1 : decide (k = i) = false := decide_eq_false e
        have e2 : decide (i < k + 1) = decide (i < k) := by
          by_cases q : i < k
          · rw [decide_eq_true q, decide_eq_true (by omega)]
          · rw [decide_eq_false q, decide_eq_false (by omega)]
        rw [e1, e2, Bool.or_false]
    · rw [if_neg h, gK_bit f i k]
      by_cases e : i = k
      · subst e
        have : f i = false := by simpa using h
        rw [this, Bool.and_false, Bool.and_false]
      · have e2 : decide (i < k + 1) = decide (i < k) := by
          by_cases q : i < k
          · rw [decide_eq_true q, decide_eq_true (by omega)]
          · rw [decide_eq_false q, decide_eq_false (by omega)]
        rw [e2]
theorem or_gt {S p : Nat} (h : S.testBit p = false) : S < S ||| 2 ^ p := by
  have h1 : S ≤ S ||| 2 ^ p := Nat.left_le_or
  have h2 : S ≠ S ||| 2 ^ p := fun e => by
    have := congrArg (fun x => x.testBit p) e
    simp only [Nat.testBit_or, Nat.testBit_two_pow, h] at this
    simp at this
  omega
/-- the most of a set of scores, or a number below all -/
def mxP (P : Int → Prop) (a : Int) : Prop := (a = -1000000 ∧ ∀ v, ¬ P v) ∨ (P a ∧ ∀ v, P v → v ≤ a)
theorem mxP_cg {P Q : Int → Prop} {a : Int} (h : ∀ v, P v ↔ Q v) (hm : mxP P a) : mxP Q a := by
  rcases hm with ⟨e, hn⟩ | ⟨h1, h2⟩
  · exact Or.inl ⟨e, fun v q => hn v ((h v).mpr q)⟩
  · exact Or.inr ⟨(h a).mp h1, fun v q => h2 v ((h v).mpr q)⟩
theorem mxP_or {P Q : Int → Prop} {a b : Int} (hP : ∀ v, P v → -1000000 < v) (hQ : ∀ v, Q v → -1000000 < v) (ha : mxP P a) (hb : mxP Q b) : mxP (fun v => P v ∨ Q v) (im a b) := by
  unfold im
  rcases ha with ⟨e, hn⟩ | ⟨h1, h2⟩
  · rcases hb with ⟨e', hn'⟩ | ⟨h1', h2'⟩
    · rw [e, e', if_neg (by omega)]
      exact Or.inl ⟨rfl, fun v q => by rcases q with q | q; exact hn v q; exact hn' v q⟩
    · have := hQ b h1'
      rw [if_pos (by omega)]
      exact Or.inr ⟨Or.inr h1', fun v q => by rcases q with q | q; exact absurd q (hn v); exact h2' v q⟩
  · rcases hb with ⟨e', hn'⟩ | ⟨h1', h2'⟩
    · have := hP a h1
      rw [if_neg (by omega)]
      exact Or.inr ⟨Or.inl h1, fun v q => by rcases q with q | q; exact h2 v q; exact absurd q (hn' v)⟩
    · by_cases h : a < b
      · rw [if_pos h]
        exact Or.inr ⟨Or.inr h1', fun v q => by rcases q with q | q; (have := h2 v q; omega); exact h2' v q⟩
      · rw [if_neg h]
        exact Or.inr ⟨Or.inl h1, fun v q => by rcases q with q | q; exact h2 v q; (have := h2' v q; omega)⟩
/-- a hill as the seating sees it: bidders, heights, tops, worths -/
abbrev aH : Type := Nat × (Nat → Int) × (Nat → Nat → Nat) × (Nat → Nat → Int)
def aOk (h : aH) : Prop := h.1 ≤ 5 ∧ (∀ y, y < 8 → 0 ≤ h.2.1 y ∧ h.2.1 y ≤ 9) ∧ (∀ p y, h.2.2.1 p y ≤ 10) ∧ (∀ p y, p < h.1 → y < 8 → 0 ≤ h.2.2.2 p y ∧ h.2.2.2 p y ≤ 420)
def gn (h : aH) (p y t : Nat) : Int := if (t : Int) ≤ h.2.1 y then h.2.2.2 p y * 32768 else 0
theorem gn_bd {h : aH} (ok : aOk h) {p y : Nat} (t : Nat) (hp : p < h.1) (hy : y < 8) : 0 ≤ gn h p y t ∧ gn h p y t ≤ 13762560 := by
  have := ok.2.2.2 p y hp hy
  unfold gn; split <;> omega
def dC (h : aH) (Q : Nat → Nat → Int → Prop) (y S' t' p' S t : Nat) (v : Int) : Prop := p' < h.1 ∧ S'.testBit p' = false ∧ S = S' ||| 2 ^ p' ∧ t = nm t' (h.2.2.1 p' y) ∧ ∃ v', Q S' t' v' ∧ v = v' + gn h p' y t' - (y : Int) * pw p'
def dR (h : aH) : Nat → Nat → Nat → Int → Prop
  | 0 => fun S t v => S = 0 ∧ t = 0 ∧ v = 0
  | y + 1 => fun S t v => dR h y S t v ∨ ∃ S' t' p', dC h (dR h y) y S' t' p' S t v
theorem dR_bd {h : aH} (ok : aOk h) : ∀ y, y ≤ 8 → ∀ S t v, dR h y S t v → S < 2 ^ h.1 ∧ t ≤ 10 ∧ (-28672 * (y : Int) ≤ v ∧ v ≤ 13762560 * (y : Int))
  | 0, _, S, t, v, q => by
    obtain ⟨rfl, rfl, rfl⟩ := q
    exact ⟨Nat.two_pow_pos _, by omega, by omega, by omega⟩
  | y + 1, hy, S, t, v, q => by
    rcases q with q | ⟨S', t', p', h1, h2, h3, h4, v', h5, h6⟩
    · obtain ⟨a, b, c, d⟩ := dR_bd ok y (by omega) S t v q
      exact ⟨a, b, by omega, by omega⟩
    · obtain ⟨a, b, c, d⟩ := dR_bd ok y (by omega) S' t' v' h5
      have e1 := gn_bd ok t' h1 (show y < 8 by omega)
      have e2 := ypw (show y < 8 by omega) (show p' < 5 by have := ok.1; omega)
      have e3 := ok.2.2.1 p' y
      refine ⟨?_, ?_, by omega, by omega⟩
      · rw [h3]
        exact Nat.or_lt_two_pow a (Nat.pow_lt_pow_right (by decide) h1)
      · rw [h4]; unfold nm; split <;> omega
theorem dC_bd {h : aH} (ok : aOk h) {y S' t' p' S t : Nat} {v : Int} (hy : y < 8) (q : dC h (dR h y) y S' t' p' S t v) : -229376 ≤ v ∧ v ≤ 110100480 := by
  have := (dR_bd ok (y + 1) (by omega) S t v (Or.inr ⟨S', t', p', q⟩)).2.2
  omega
/-- the scores in the row a, when of the yard y the triples D are worked off -/
def dI (h : aH) (y : Nat) (D : Nat → Nat → Nat → Prop) (a : Nat → Int) : Prop := ∀ S t, S < 2 ^ h.1 → t < 11 → mxP (fun v => dR h y S t v ∨ ∃ S' t' p', D S' t' p' ∧ dC h (dR h y) y S' t' p' S t v) (a (11 * S + t))
theorem dI_cg {h : aH} {y : Nat} {D D' : Nat → Nat → Nat → Prop} {a : Nat → Int} (e : ∀ S' t' p' v', p' < h.1 → S'.testBit p' = false → dR h y S' t' v' → (D S' t' p' ↔ D' S' t' p')) (hi : dI h y D a) : dI h y D' a := by
  intro S t hS ht
  refine mxP_cg (fun v => ?_) (hi S t hS ht)
  constructor
  · rintro (q | ⟨S', t', p', d, c⟩)
    · exact Or.inl q
    · have c' := c
      obtain ⟨h1, h2, -, -, v', h5, -⟩ := c'
      exact Or.inr ⟨S', t', p', (e S' t' p' v' h1 h2 h5).mp d, c⟩
  · rintro (q | ⟨S', t', p', d, c⟩)
    · exact Or.inl q
    · have c' := c
      obtain ⟨h1, h2, -, -, v', h5, -⟩ := c'
      exact Or.inr ⟨S', t', p', (e S' t' p' v' h1 h2 h5).mpr d, c⟩
theorem dI_next {h : aH} {y : Nat} {a : Nat → Int} (hi : dI h y (fun _ _ _ => True) a) : dI h (y + 1) (fun _ _ _ => False) a := by
  intro S t hS ht
  refine mxP_cg (fun v => ?_) (hi S t hS ht)
  constructor
  · rintro (q | ⟨S', t', p', -, c⟩)
    · exact Or.inl (Or.inl q)
    · exact Or.inl (Or.inr ⟨S', t', p', c⟩)
  · rintro ((q | ⟨S', t', p', c⟩) | ⟨S', t', p', d, c⟩)
    · exact Or.inl q
    · exact Or.inr ⟨S', t', p', trivial, c⟩
    · exact absurd d (fun x => x)
theorem dI_rng {h : aH} (ok : aOk h) {y : Nat} (hy : y ≤ 8) {D : Nat → Nat → Nat → Prop} {a : Nat → Int} (hD : y = 8 → ∀ S' t' p', ¬ D S' t' p') (hi : dI h y D a) {S t : Nat} (hS : S < 2 ^ h.1) (ht : t < 11) : -1000000 ≤ a (11 * S + t) ∧ a (11 * S + t) ≤ 110100480 := by
  rcases hi S t hS ht with ⟨e, -⟩ | ⟨q | ⟨S', t', p', d, c⟩, -⟩
  · rw [e]; omega
  · have := (dR_bd ok y hy S t _ q).2.2; omega
  · have := dC_bd ok (show y < 8 by
      rcases Nat.lt_or_ge y 8 with h8 | h8
      · exact h8
      · exact absurd d (hD (by omega) S' t' p')) c
    omega
/-- what is read of a set that nobody has been put into yet -/
theorem dI_src {h : aH} {y s t : Nat} {D : Nat → Nat → Nat → Prop} {a : Nat → Int} (hD : ∀ S' t' p', D S' t' p' → s ≤ S') (hs : s < 2 ^ h.1) (ht : t < 11) (hi : dI h y D a) : mxP (dR h y s t) (a (11 * s + t)) := by
  refine mxP_cg (fun v => ?_) (hi s t hs ht)
  constructor
  · rintro (q | ⟨S', t', p', d, h1, h2, h3, -⟩)
    · exact q
    · have := hD S' t' p' d
      have := or_gt h2
      omega
  · exact fun q => Or.inl q
theorem dI_put {h : aH} (ok : aOk h) {y s t p : Nat} {D : Nat → Nat → Nat → Prop} {a : Nat → Int} {b : Int} (hy : y < 8) (hs : s < 2 ^ h.1) (ht : t < 11) (hp : p < h.1) (hb : s.testBit p = false) (hm : mxP (dR h y s t) b) (hu : b ≠ -1000000) (hi : dI h y D a) :
    dI h y (fun S' t' p' => D S' t' p' ∨ (S' = s ∧ t' = t ∧ p' = p)) (zu a (11 * (s ||| 2 ^ p) + nm t (h.2.2.1 p y)) (im (a (11 * (s ||| 2 ^ p) + nm t (h.2.2.1 p y))) (b + gn h p y t - (y : Int) * pw p))) := by
  intro S T hS hT
  have e3 := ok.2.2.1 p y
  have hnm : nm t (h.2.2.1 p y) < 11 := by unfold nm; split <;> omega
  rw [zu_at]
  by_cases e : 11 * S + T = 11 * (s ||| 2 ^ p) + nm t (h.2.2.1 p y)
  · have eS : S = s ||| 2 ^ p := by omega
    have eT : T = nm t (h.2.2.1 p y) := by omega
    rw [if_pos e, ← e]
    have q0 : mxP (fun v => ∃ v', dR h y s t v' ∧ v = v' + gn h p y t - (y : Int) * pw p) (b + gn h p y t - (y : Int) * pw p) := by
      rcases hm with ⟨e, -⟩ | ⟨m1, m2⟩
      · exact absurd e hu
      · exact Or.inr ⟨⟨b, m1, rfl⟩, fun v ⟨v', q1, q2⟩ => by have := m2 v' q1; omega⟩
    refine mxP_cg (fun v => ?_) (mxP_or (fun v q => ?_) (fun v q => ?_) (hi S T hS hT) q0)
    · constructor
      · rintro ((q | ⟨S', t', p', d, c⟩) | ⟨v', q1, q2⟩)
        · exact Or.inl q
        · exact Or.inr ⟨S', t', p', Or.inl d, c⟩
        · exact Or.inr ⟨s, t, p, Or.inr ⟨rfl, rfl, rfl⟩, hp, hb, eS, eT, v', q1, q2⟩
      · rintro (q | ⟨S', t', p', d | ⟨rfl, rfl, rfl⟩, c⟩)
        · exact Or.inl (Or.inl q)
        · exact Or.inl (Or.inr ⟨S', t', p', d, c⟩)
        · obtain ⟨-, -, -, -, v', q1, q2⟩ := c
          exact Or.inr ⟨v', q1, q2⟩
    · rcases q with q | ⟨S', t', p', d, c⟩
      · have := (dR_bd ok y (by omega) S T v q).2.2; omega
      · have := dC_bd ok hy c; omega
    · obtain ⟨v', q1, q2⟩ := q
      have := dC_bd ok hy (S := s ||| 2 ^ p) (t := nm t (h.2.2.1 p y)) (v := v) ⟨hp, hb, rfl, rfl, v', q1, q2⟩
      omega
  · rw [if_neg e]
    refine mxP_cg (fun v => ?_) (hi S T hS hT)
    constructor
    · rintro (q | ⟨S', t', p', d, c⟩)
      · exact Or.inl q
      · exact Or.inr ⟨S', t', p', Or.inl d, c⟩
    · rintro (q | ⟨S', t', p', d | ⟨rfl, rfl, rfl⟩, c⟩)
      · exact Or.inl q
      · exact Or.inr ⟨S', t', p', d, c⟩
      · exact absurd (by rw [c.2.2.1, c.2.2.2.1]) e
/-! the same as the program does it -/
def spP (h : aH) (s y t : Nat) (b : Int) (a : Nat → Int) : Nat → Nat → Int
  | 0 => a
  | p + 1 => if s.testBit p = true then spP h s y t b a p else zu (spP h s y t b a p) (11 * (s ||| 2 ^ p) + nm t (h.2.2.1 p y)) (im (spP h s y t b a p (11 * (s ||| 2 ^ p) + nm t (h.2.2.1 p y))) (b + gn h p y t - (y : Int) * pw p))
def spT (h : aH) (s y : Nat) (a : Nat → Int) : Nat → Nat → Int
  | 0 => a
  | t + 1 => if spT h s y a t (11 * s + t) = -1000000 then spT h s y a t else spP h s y t (spT h s y a t (11 * s + t)) (spT h s y a t) h.1
def spS (h : aH) (E y : Nat) (a : Nat → Int) : Nat → Nat → Int
  | 0 => a
  | k + 1 => spT h (E - 1 - k) y (spS h E y a k) 11
def spY (h : aH) (E : Nat) (a : Nat → Int) : Nat → Nat → Int
  | 0 => a
  | y + 1 => spS h E y (spY h E a y) E
def spM (E : Nat) (a : Nat → Int) : Nat → Int
  | 0 => -1000000
  | t + 1 => im (spM E a t) (a (11 * E + t))
theorem dI_spP {h : aH} (ok : aOk h) {y s t : Nat} {a : Nat → Int} {b : Int} (hy : y < 8) (hs : s < 2 ^ h.1) (ht : t < 11) (hm : mxP (dR h y s t) b) (hu : b ≠ -1000000) (hi : dI h y (fun S' t' _ => s < S' ∨ (S' = s ∧ t' < t)) a) : ∀ p, p ≤ h.1 → dI h y (fun S' t' p' => (s < S' ∨ (S' = s ∧ t' < t)) ∨ (S' = s ∧ t' = t ∧ p' < p)) (spP h s y t b a p)
  | 0, _ => dI_cg (fun S' t' p' v' _ _ _ => by constructor <;> intro q <;> omega) hi
  | p + 1, hp => by
    have ih := dI_spP ok hy hs ht hm hu hi p (by omega)
    unfold spP
    by_cases hb : s.testBit p = true
    · rw [if_pos hb]
      refine dI_cg (fun S' t' p' v' _ hb' _ => ?_) ih
      constructor
      · intro q; omega
      · rintro (q | ⟨e1, e2, e3⟩)
        · exact Or.inl q
        · by_cases e : p' = p
          · rw [e1, e, hb] at hb'; cases hb'
          · exact Or.inr ⟨e1, e2, by omega⟩
    · rw [if_neg hb]
      refine dI_cg (fun S' t' p' v' _ _ _ => by constructor <;> intro q <;> omega) (dI_put ok hy hs ht (by omega) (by simpa using hb) hm hu ih)
theorem dI_spT {h : aH} (ok : aOk h) {y s : Nat} {a : Nat → Int} (hy : y < 8) (hs : s < 2 ^ h.1) (hi : dI h y (fun S' _ _ => s < S') a) : ∀ t, t ≤ 11 → dI h y (fun S' t' _ => s < S' ∨ (S' = s ∧ t' < t)) (spT h s y a t)
  | 0, _ => dI_cg (fun S' t' p' v' _ _ _ => by constructor <;> intro q <;> omega) hi
  | t + 1, ht => by
    have ih := dI_spT ok hy hs hi t (by omega)
    have hm := dI_src (t := t) (fun S' t' p' q => by omega) hs (by omega) ih
    unfold spT
    by_cases e : spT h s y a t (11 * s + t) = -1000000
    · rw [if_pos e]
      refine dI_cg (fun S' t' p' v' _ _ hr => ?_) ih
      constructor
      · intro q; omega
      · rintro (q | ⟨e1, e2⟩)
        · exact Or.inl q
        · by_cases et : t' = t
          · rw [e1, et] at hr
            rcases hm with ⟨-, hn⟩ | ⟨h1, -⟩
            · exact absurd hr (hn v')
            · rw [e] at h1
              have := (dR_bd ok y (by omega) s t _ h1).2.2
              omega
          · exact Or.inr ⟨e1, by omega⟩
    · rw [if_neg e]
      refine dI_cg (fun S' t' p' v' hp _ _ => by constructor <;> intro q <;> omega) (dI_spP ok hy hs (by omega) hm e ih h.1 (Nat.le_refl _))
theorem dI_spS {h : aH} (ok : aOk h) {y E : Nat} {a : Nat → Int} (hy : y < 8) (hE : E + 1 = 2 ^ h.1) (hi : dI h y (fun _ _ _ => False) a) : ∀ k, k ≤ E → dI h y (fun S' _ _ => E - k ≤ S') (spS h E y a k)
  | 0, _ => by
    refine dI_cg (fun S' t' p' v' hp hb hr => ?_) hi
    constructor
    · intro q; exact absurd q (fun x => x)
    · intro q
      have hlt := (dR_bd ok y (by omega) S' t' v' hr).1
      have e : S' = 2 ^ h.1 - 1 := by omega
      rw [e, Nat.testBit_two_pow_sub_one, decide_eq_true hp] at hb
      cases hb
  | k + 1, hk => by
    have ih := dI_spS ok hy hE hi k (by omega)
    have h1 := dI_spT ok (s := E - 1 - k) hy (by omega) (dI_cg (D' := fun S' _ _ => E - 1 - k < S') (fun S' t' p' v' _ _ _ => by constructor <;> intro q <;> omega) ih) 11 (Nat.le_refl _)
    refine dI_cg (fun S' t' p' v' _ _ hr => ?_) h1
    have := (dR_bd ok y (by omega) S' t' v' hr).2.1
    constructor <;> intro q <;> omega
theorem dI_spY {h : aH} (ok : aOk h) {E : Nat} {a : Nat → Int} (hE : E + 1 = 2 ^ h.1) (hi : dI h 0 (fun _ _ _ => False) a) : ∀ y, y ≤ 8 → dI h y (fun _ _ _ => False) (spY h E a y)
  | 0, _ => hi
  | y + 1, hy => by
    have := dI_spS ok (y := y) (by omega) hE (dI_spY ok hE hi y (by omega)) E (Nat.le_refl _)
    exact dI_next (dI_cg (fun S' t' p' v' _ _ _ => by constructor <;> intro q <;> first | trivial | omega) this)
theorem dI_start {h : aH} {a : Nat → Int} (h0 : a 0 = 0) (h1 : ∀ i, 0 < i → i < 352 → a i = -1000000) (hn : h.1 ≤ 5) : dI h 0 (fun _ _ _ => False) a := by
  intro S t hS ht
  have h32 : 2 ^ h.1 ≤ 2 ^ 5 := Nat.pow_le_pow_right (by decide) hn
  by_cases e : S = 0 ∧ t = 0
  · obtain ⟨rfl, rfl⟩ := e
    rw [h0]
    refine Or.inr ⟨Or.inl ⟨rfl, rfl, rfl⟩, fun v q => ?_⟩
    rcases q with ⟨-, -, rfl⟩ | ⟨_, _, _, d, _⟩
    · exact Int.le_refl 0
    · exact absurd d (fun x => x)
  · rw [h1 _ (by omega) (by omega)]
    refine Or.inl ⟨rfl, fun v q => ?_⟩
    rcases q with ⟨e1, e2, -⟩ | ⟨_, _, _, d, _⟩
    · exact e ⟨e1, e2⟩
    · exact d
theorem spM_ok {h : aH} (ok : aOk h) {E : Nat} {a : Nat → Int} (hE : E + 1 = 2 ^ h.1) (hi : dI h 8 (fun _ _ _ => False) a) : ∀ k, k ≤ 11 → mxP (fun v => ∃ t, t < k ∧ dR h 8 E t v) (spM E a k)
  | 0, _ => Or.inl ⟨rfl, fun v ⟨t, ht, _⟩ => absurd ht (by omega)⟩
  | k + 1, hk => by
    have ih := spM_ok ok hE hi k (by omega)
    have hs := dI_src (s := E) (t := k) (fun S' t' p' d => absurd d (fun x => x)) (by omega) (by omega) hi
    refine mxP_cg (fun v => ?_) (mxP_or (fun v q => ?_) (fun v q => ?_) ih hs)
    · constructor
      · rintro (⟨t, h1, h2⟩ | q)
        · exact ⟨t, by omega, h2⟩
        · exact ⟨k, by omega, q⟩
      · rintro ⟨t, h1, h2⟩
        by_cases e : t = k
        · rw [e] at h2; exact Or.inr h2
        · exact Or.inl ⟨t, by omega, h2⟩
    · obtain ⟨t, -, q⟩ := q
      have := (dR_bd ok 8 (by omega) E t v q).2.2; omega
    · have := (dR_bd ok 8 (by omega) E k v q).2.2; omega
