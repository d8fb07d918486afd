/-! reading a text: the pure parser -/
abbrev pD : Type := Int × Int × (Nat → Int) × Nat × (Nat → Int) × (Nat → Int) × (Nat → Int)
def bnd {α β : Type} (a : Nat ⊕ α) (f : α → Nat ⊕ β) : Nat ⊕ β := match a with
  | .inl p => .inl p
  | .inr x => f x
theorem bnd_r {α β : Type} {a : Nat ⊕ α} {f : α → Nat ⊕ β} {q : β} (h : bnd a f = .inr q) : ∃ x, a = .inr x ∧ f x = .inr q := by
  cases a with
  | inl p => cases h
  | inr x => exact ⟨x, rfl, h⟩
def pNum (T : Nat → Int) (t i : Nat) (hi : Int) : Nat ⊕ (Int × Nat) := if (1 ≤ fE T t (sk T t i) - sk T t i ∧ fE T t (sk T t i) - sk T t i ≤ 2) ∧ nV T (sk T t i) (fE T t (sk T t i)) ≤ hi then .inr (nV T (sk T t i) (fE T t (sk T t i)), fE T t (sk T t i)) else .inl (sk T t i)
def pEnd (T : Nat → Int) (t i : Nat) : Nat ⊕ Nat := if sk T t i < t ∧ T (sk T t i) = 59 then .inr (sk T t i + 1) else .inl (sk T t i)
def pHt (T : Nat → Int) (t : Nat) : Nat → Nat → Nat → (Nat → Int) → Nat ⊕ ((Nat → Int) × Nat)
  | 0, _, i, H => .inr (H, i)
  | k + 1, y, i, H => bnd (pNum T t i 9) fun q => pHt T t k (y + 1) q.2 (zu H y q.1)
def sH (S : Nat → Int) (y : Int) (n : Nat) : Int := sHol (fun _ b => S b) y 0 n
def pTr (T : Nat → Int) (t i : Nat) (d : pD) : Nat ⊕ (pD × Nat) := bnd (pNum T t i 7) fun q => .inr ((q.1, d.2), q.2)
def pDk (T : Nat → Int) (t i : Nat) (d : pD) : Nat ⊕ (pD × Nat) := bnd (pNum T t i 24) fun q => .inr ((d.1, 10 * q.1, d.2.2), q.2)
def pHs (T : Nat → Int) (t i : Nat) (d : pD) : Nat ⊕ (pD × Nat) := bnd (pHt T t 8 0 i d.2.2.1) fun q => .inr ((d.1, d.2.1, q.1, d.2.2.2), q.2)
def pOn (T : Nat → Int) (t s i : Nat) (d : pD) : Nat ⊕ (pD × Nat) := if d.2.2.2.1 = 5 then .inl s else bnd (pNum T t i 5) fun q => bnd (pNum T t q.2 50) fun w => .inr ((d.1, d.2.1, d.2.2.1, d.2.2.2.1 + 1, zu d.2.2.2.2.1 d.2.2.2.1 q.1, zu d.2.2.2.2.2.1 d.2.2.2.1 (10 * w.1), zu d.2.2.2.2.2.2 d.2.2.2.1 (-1)), w.2)
def pSe (T : Nat → Int) (t i : Nat) (d : pD) : Nat ⊕ (pD × Nat) := bnd (pNum T t i ((d.2.2.2.1 : Int) - 1)) fun q => if d.2.2.2.2.2.2 q.1.toNat ≠ -1 then .inl (sk T t i) else bnd (pNum T t q.2 7) fun w => if sH d.2.2.2.2.2.2 w.1 d.2.2.2.1 ≠ -1 then .inl (sk T t q.2) else .inr ((d.1, d.2.1, d.2.2.1, d.2.2.2.1, d.2.2.2.2.1, d.2.2.2.2.2.1, zu d.2.2.2.2.2.2 q.1.toNat w.1), w.2)
def wE (T : Nat → Int) (t s i : Nat) : Bool := wQ T s (lE T t s) i
def wd (T : Nat → Int) (t s : Nat) : Int := if wE T t s 2 = true then 2 else if wE T t s 3 = true then 3 else if wE T t s 0 = true then 0 else if wE T t s 1 = true then 1 else if wE T t s 4 = true then 4 else -1
def pB1 (T : Nat → Int) (t s : Nat) (d : pD) : Nat ⊕ (pD × Nat) := if wd T t s = 0 then pTr T t (lE T t s) d else .inl s
def pB2 (T : Nat → Int) (t s : Nat) (d : pD) : Nat ⊕ (pD × Nat) := if wd T t s = 1 then pDk T t (lE T t s) d else if wd T t s = 2 then pHs T t (lE T t s) d else if wd T t s = 3 then pOn T t s (lE T t s) d else if wd T t s = 4 then pSe T t (lE T t s) d else .inl s
def pIt (T : Nat → Int) (t : Nat) (b : Nat ⊕ (pD × Nat)) : Nat ⊕ (pD × Nat) := bnd b fun q => bnd (pEnd T t q.2) fun j => .inr (q.1, j)
def pLoop (T : Nat → Int) (t : Nat) : Nat → Nat → Nat → pD → Nat ⊕ (Nat × pD)
  | 0, n, _, d => .inr (n, d)
  | k + 1, n, s, d => if t ≤ s then .inr (n, d) else bnd (pIt T t (pB2 T t s d)) fun q => pLoop T t k (n + 1) (sk T t q.2) q.1
def d0 : pD := (3, 240, fun _ => 0, 0, fun _ => 0, fun _ => 0, fun _ => 0)
def pAll (T : Nat → Int) (t : Nat) : Nat ⊕ (Nat × pD) := bnd (pIt T t (pB1 T t (sk T t 0) d0)) fun q => pLoop T t (t + 1) 1 (sk T t q.2) q.1
/-- a picture that may stand -/
def dK (d : pD) : Prop := d.2.2.2.1 ≤ 5 ∧ (0 ≤ d.1 ∧ d.1 ≤ 7) ∧ (0 ≤ d.2.1 ∧ d.2.1 ≤ 240) ∧ (∀ y, y < 8 → 0 ≤ d.2.2.1 y ∧ d.2.2.1 y ≤ 9) ∧ (∀ p, p < d.2.2.2.1 → (0 ≤ d.2.2.2.2.1 p ∧ d.2.2.2.2.1 p ≤ 5) ∧ (0 ≤ d.2.2.2.2.2.1 p ∧ d.2.2.2.2.2.1 p ≤ 500) ∧ (-1 ≤ d.2.2.2.2.2.2 p ∧ d.2.2.2.2.2.2 p ≤ 7)) ∧ ∀ p q, p < d.2.2.2.1 → q < d.2.2.2.1 → d.2.2.2.2.2.2 p = d.2.2.2.2.2.2 q → d.2.2.2.2.2.2 p ≠ -1 → p = q
theorem d0_ok : dK d0 := ⟨by decide, by decide, by decide, fun y _ => ⟨Int.le_refl _, by show (0 : Int) ≤ 9; decide⟩, fun p hp => absurd hp (Nat.not_lt_zero p), fun p q hp => absurd hp (Nat.not_lt_zero p)⟩
theorem rn_no {P : Int → Bool} {T : Nat → Int} {k s : Nat} (h : P (T s) = false) : rn P T k s = s := by
  cases k with
  | zero => rfl
  | succ k => exact rn_n h
theorem tk_two {T : Nat → Int} {t s : Nat} (hs : s ≤ t) : (tkK T t s = 2 ↔ (1 ≤ fE T t s - s ∧ fE T t s - s ≤ 2)) ∧ (tkK T t s = 2 → tkE T t s = fE T t s ∧ ∀ v, tkV T t s v = nV T s (fE T t s)) := by
  have hf := fE_bd T hs
  unfold tkK tkE tkV
  by_cases h1 : t ≤ s
  · rw [if_pos h1]
    exact ⟨⟨fun h => absurd h (by decide), fun h => by omega⟩, fun h => absurd h (by decide)⟩
  · rw [if_neg h1]
    by_cases h2 : s < lE T t s
    · rw [if_pos h2]
      have h3 : ¬ s < fE T t s := fun q => by have := fE_lE q; omega
      exact ⟨⟨fun h => absurd h (by decide), fun h => by omega⟩, fun h => absurd h (by decide)⟩
    · rw [if_neg h2]
      by_cases h3 : s < fE T t s
      · rw [if_pos h3]
        by_cases h4 : fE T t s - s ≤ 2
        · rw [if_pos h4]
          refine ⟨⟨fun _ => by omega, fun _ => rfl⟩, fun _ => ⟨?_, fun v => ?_⟩⟩
          · rw [if_neg h1, if_neg h2, if_pos h3]
          · rw [if_neg h1, if_neg h2, if_pos h3]
        · rw [if_neg h4]
          exact ⟨⟨fun h => absurd h (by decide), fun h => by omega⟩, fun h => absurd h (by decide)⟩
      · rw [if_neg h3]
        refine ⟨⟨fun h => ?_, fun h => by omega⟩, fun h => ?_⟩
        · split at h <;> exact absurd h (by decide)
        · split at h <;> exact absurd h (by decide)
theorem tk_three {T : Nat → Int} {t s : Nat} (hs : s ≤ t) : (tkK T t s = 3 ↔ (s < t ∧ T s = 59)) ∧ (tkK T t s = 3 → tkE T t s = s + 1) := by
  unfold tkK tkE
  by_cases h1 : t ≤ s
  · rw [if_pos h1]
    exact ⟨⟨fun h => absurd h (by decide), fun h => by omega⟩, fun h => absurd h (by decide)⟩
  · rw [if_neg h1, if_neg h1]
    by_cases g : T s = 59
    · have h2 : lE T t s = s := rn_no (decide_eq_false (by omega))
      have h3 : fE T t s = s := rn_no (decide_eq_false (by omega))
      rw [h2, h3, if_neg (Nat.lt_irrefl s), if_neg (Nat.lt_irrefl s), if_neg (Nat.lt_irrefl s), if_neg (Nat.lt_irrefl s), if_pos g]
      exact ⟨⟨fun _ => ⟨by omega, g⟩, fun _ => rfl⟩, fun _ => rfl⟩
    · have no : ∀ x : Int, (if s < lE T t s then (1 : Int) else if s < fE T t s then (if fE T t s - s ≤ 2 then 2 else 4) else if T s = 59 then 3 else 4) ≠ 3 := fun _ => by
        rw [if_neg g]
        split
        · decide
        · split
          · split <;> decide
          · decide
      exact ⟨⟨fun h => absurd h (no 0), fun h => absurd h.2 g⟩, fun h => absurd h (no 0)⟩
theorem tk_one {T : Nat → Int} {t s : Nat} (hs : s ≤ t) : (tkK T t s = 1 ↔ s < lE T t s) ∧ (tkK T t s = 1 → tkE T t s = lE T t s) := by
  have hl := lE_bd T hs
  unfold tkK tkE
  by_cases h1 : t ≤ s
  · rw [if_pos h1]
    exact ⟨⟨fun h => absurd h (by decide), fun h => by omega⟩, fun h => absurd h (by decide)⟩
  · rw [if_neg h1, if_neg h1]
    by_cases h2 : s < lE T t s
    · rw [if_pos h2, if_pos h2]
      exact ⟨⟨fun _ => h2, fun _ => rfl⟩, fun _ => rfl⟩
    · have no : ∀ x : Int, (if s < lE T t s then (1 : Int) else if s < fE T t s then (if fE T t s - s ≤ 2 then 2 else 4) else if T s = 59 then 3 else 4) ≠ 1 := fun _ => by
        rw [if_neg h2]
        split
        · split <;> decide
        · split <;> decide
      exact ⟨⟨fun h => absurd h (no 0), fun h => absurd h h2⟩, fun h => absurd h (no 0)⟩
theorem tk_zero {T : Nat → Int} {t s : Nat} (hs : ¬ t ≤ s) : tkK T t s ≠ 0 := by
  unfold tkK
  rw [if_neg hs]
  split
  · decide
  · split
    · split <;> decide
    · split <;> decide
theorem tkE_le {T : Nat → Int} {t s : Nat} (hs : s ≤ t) : tkE T t s ≤ t := by
  have hl := lE_bd T hs
  have hf := fE_bd T hs
  unfold tkE
  split
  · omega
  · split
    · omega
    · split <;> omega
/-- what a number read is -/
theorem pNum_ok {T : Nat → Int} {t i : Nat} (hi : i ≤ t) {m : Int} {q : Int × Nat} (h : pNum T t i m = .inr q) : ((0 ≤ q.1 ∧ q.1 ≤ m) ∧ q.1 ≤ 99) ∧ (i < q.2 ∧ q.2 ≤ t) := by
  unfold pNum at h
  have hs := sk_bd T hi
  have hf := fE_bd T hs.2
  have dg : ∀ j, sk T t i ≤ j → j < fE T t (sk T t i) → 48 ≤ T j ∧ T j ≤ 57 := fun j h1 h2 => of_decide_eq_true (rn_all (P := isFg) (T := T) (t - sk T t i) (sk T t i) j h1 h2)
  generalize sk T t i = s at h hs hf dg
  generalize fE T t s = e at h hf dg
  split at h
  · rename_i c
    cases h
    have a1 := dg s (Nat.le_refl _) (by omega)
    have a2 := dg (e - 1) (by omega) (by omega)
    refine ⟨⟨⟨?_, c.2⟩, ?_⟩, ?_, ?_⟩
    · show 0 ≤ nV T s e
      unfold nV; split <;> omega
    · show nV T s e ≤ 99
      unfold nV; split <;> omega
    · show i < e; omega
    · show e ≤ t; omega
  · cases h
theorem pEnd_ok {T : Nat → Int} {t i j : Nat} (hi : i ≤ t) (h : pEnd T t i = .inr j) : i < j ∧ j ≤ t := by
  unfold pEnd at h
  have hs := sk_bd T hi
  split at h
  · rename_i c
    cases h
    omega
  · cases h
theorem pHt_ok {T : Nat → Int} {t : Nat} : ∀ k y i H q, i ≤ t → (∀ z, z < 8 → 0 ≤ H z ∧ H z ≤ 9) → pHt T t k y i H = .inr q → (∀ z, z < 8 → 0 ≤ q.1 z ∧ q.1 z ≤ 9) ∧ i ≤ q.2 ∧ q.2 ≤ t
  | 0, y, i, H, q, hi, hH, h => by
    cases h
    exact ⟨hH, Nat.le_refl _, hi⟩
  | k + 1, y, i, H, q, hi, hH, h => by
    obtain ⟨x, h1, h2⟩ := bnd_r (a := pNum T t i 9) (f := fun (q : Int × Nat) => pHt T t k (y + 1) q.2 (zu H y q.1)) h
    obtain ⟨⟨a1, a2⟩, a3, a4⟩ := pNum_ok hi h1
    obtain ⟨b1, b2, b3⟩ := pHt_ok k (y + 1) x.2 (zu H y x.1) q a4 (fun z hz => by
      rw [zu_at]
      split
      · exact a1
      · exact hH z hz) h2
    exact ⟨b1, by omega, b3⟩
theorem sH_no {S : Nat → Int} {y : Int} {n : Nat} (h : sH S y n = -1) : ∀ p, p < n → S p ≠ y := fun p hp => hol_none n 0 h p (Nat.zero_le _) (by omega)
theorem pB_ok {T : Nat → Int} {t s : Nat} {d : pD} (hs : s ≤ t) (hd : dK d) {q : pD × Nat} (h : pB2 T t s d = .inr q ∨ pB1 T t s d = .inr q) : dK q.1 ∧ s ≤ q.2 ∧ q.2 ≤ t := by
  have hl := lE_bd T hs
  obtain ⟨k1, k2, k3, k4, k5, k6⟩ := hd
  have one : ∀ q, pTr T t (lE T t s) d = .inr q → dK q.1 ∧ s ≤ q.2 ∧ q.2 ≤ t := fun q h => by
    obtain ⟨x, h1, h2⟩ := bnd_r h
    obtain ⟨⟨a1, a2⟩, a3, a4⟩ := pNum_ok hl.2 h1
    cases h2
    exact ⟨⟨k1, a1, k3, k4, k5, k6⟩, by show s ≤ x.2; omega, a4⟩
  rcases h with h | h
  · unfold pB2 at h
    split at h
    · obtain ⟨x, h1, h2⟩ := bnd_r h
      obtain ⟨⟨a1, a2⟩, a3, a4⟩ := pNum_ok hl.2 h1
      cases h2
      exact ⟨⟨k1, k2, by show 0 ≤ 10 * x.1 ∧ 10 * x.1 ≤ 240; omega, k4, k5, k6⟩, by show s ≤ x.2; omega, a4⟩
    · split at h
      · obtain ⟨x, h1, h2⟩ := bnd_r h
        obtain ⟨a1, a2, a3⟩ := pHt_ok 8 0 _ _ x hl.2 k4 h1
        cases h2
        exact ⟨⟨k1, k2, k3, a1, k5, k6⟩, by show s ≤ x.2; omega, a3⟩
      · split at h
        · unfold pOn at h
          split at h
          · cases h
          · rename_i n5
            obtain ⟨x, h1, h2⟩ := bnd_r h
            obtain ⟨⟨a1, a2⟩, a3, a4⟩ := pNum_ok hl.2 h1
            obtain ⟨w, h3, h4⟩ := bnd_r h2
            obtain ⟨⟨b1, b2⟩, b3, b4⟩ := pNum_ok a4 h3
            cases h4
            refine ⟨⟨by show d.2.2.2.1 + 1 ≤ 5; omega, k2, k3, k4, fun p hp => ?_, fun p r hp hr => ?_⟩, by show s ≤ w.2; omega, b4⟩
            · have hp : p < d.2.2.2.1 + 1 := hp
              show (0 ≤ zu _ _ _ p ∧ zu _ _ _ p ≤ 5) ∧ (0 ≤ zu _ _ _ p ∧ zu _ _ _ p ≤ 500) ∧ (-1 ≤ zu _ _ _ p ∧ zu _ _ _ p ≤ 7)
              rw [zu_at, zu_at, zu_at]
              by_cases e : p = d.2.2.2.1
              · rw [if_pos e, if_pos e, if_pos e]; omega
              · rw [if_neg e, if_neg e, if_neg e]; exact k5 p (by omega)
            · have hp : p < d.2.2.2.1 + 1 := hp
              have hr : r < d.2.2.2.1 + 1 := hr
              show zu _ _ _ p = zu _ _ _ r → zu _ _ _ p ≠ -1 → p = r
              rw [zu_at, zu_at]
              by_cases e : p = d.2.2.2.1
              · rw [if_pos e]; exact fun _ z => absurd rfl z
              · rw [if_neg e]
                by_cases e2 : r = d.2.2.2.1
                · rw [if_pos e2]; exact fun z1 z2 => absurd z1 z2
                · rw [if_neg e2]; exact k6 p r (by omega) (by omega)
        · split at h
          · obtain ⟨x, h1, h2⟩ := bnd_r h
            obtain ⟨⟨a1, a2⟩, a3, a4⟩ := pNum_ok hl.2 h1
            split at h2
            · cases h2
            · rename_i g1
              obtain ⟨w, h3, h4⟩ := bnd_r h2
              obtain ⟨⟨b1, b2⟩, b3, b4⟩ := pNum_ok a4 h3
              split at h4
              · cases h4
              · rename_i g2
                have fr := sH_no (Decidable.byContradiction (fun z => g2 z))
                cases h4
                refine ⟨⟨k1, k2, k3, k4, fun p hp => ⟨(k5 p hp).1, (k5 p hp).2.1, ?_⟩, fun p r hp hr => ?_⟩, by show s ≤ w.2; omega, b4⟩
                · show -1 ≤ zu _ _ _ p ∧ zu _ _ _ p ≤ 7
                  rw [zu_at]
                  split
                  · omega
                  · exact (k5 p hp).2.2
                · show zu _ _ _ p = zu _ _ _ r → zu _ _ _ p ≠ -1 → p = r
                  rw [zu_at, zu_at]
                  by_cases e : p = x.1.toNat
                  · rw [if_pos e]
                    by_cases e2 : r = x.1.toNat
                    · rw [if_pos e2]; intro _ _; omega
                    · rw [if_neg e2]; exact fun z _ => absurd z.symm (fr r hr)
                  · rw [if_neg e]
                    by_cases e2 : r = x.1.toNat
                    · rw [if_pos e2]; exact fun z _ => absurd z (fr p hp)
                    · rw [if_neg e2]; exact k6 p r hp hr
          · cases h
  · unfold pB1 at h
    split at h
    · exact one q h
    · cases h
theorem pIt_ok {T : Nat → Int} {t s : Nat} {d : pD} (hs : s ≤ t) (hd : dK d) {q : pD × Nat} (h : pIt T t (pB2 T t s d) = .inr q ∨ pIt T t (pB1 T t s d) = .inr q) : dK q.1 ∧ s < q.2 ∧ q.2 ≤ t := by
  rcases h with h | h
  · obtain ⟨x, h1, h2⟩ := bnd_r h
    obtain ⟨a1, a2, a3⟩ := pB_ok hs hd (Or.inl h1)
    obtain ⟨j, h3, h4⟩ := bnd_r h2
    have := pEnd_ok a3 h3
    cases h4
    exact ⟨a1, by show s < j; omega, this.2⟩
  · obtain ⟨x, h1, h2⟩ := bnd_r h
    obtain ⟨a1, a2, a3⟩ := pB_ok hs hd (Or.inr h1)
    obtain ⟨j, h3, h4⟩ := bnd_r h2
    have := pEnd_ok a3 h3
    cases h4
    exact ⟨a1, by show s < j; omega, this.2⟩
/-! words -/
theorem wQ_first {T : Nat → Int} {s e i : Nat} (hi : i < 5) (h : wQ T s e i = true) : e - s = eLen.getD i 0 ∧ T s = eChr i 0 := by
  unfold wQ at h
  split at h
  · rename_i g
    refine ⟨g, ?_⟩
    have hL := eLen_ok i hi
    rw [show eLen.getD i 0 = (eLen.getD i 0 - 1) + 1 by omega] at h
    unfold mch at h
    split at h
    · rename_i g2; exact g2
    · cases h
  · cases h
theorem wE_ex {T : Nat → Int} {t s i j : Nat} (hi : i < 5) (hj : j < 5) (h : wE T t s i = true) (hn : i ≠ j) : wE T t s j = false := by
  cases hw : wE T t s j with
  | false => rfl
  | true =>
    obtain ⟨a1, a2⟩ := wQ_first hi h
    obtain ⟨b1, b2⟩ := wQ_first hj hw
    exact absurd ((by decide : ∀ i, i < 5 → ∀ j, j < 5 → eLen.getD i 0 = eLen.getD j 0 → eChr i 0 = eChr j 0 → i = j) i hi j hj (a1.symm.trans b1) (a2.symm.trans b2)) hn
theorem wE_lt {T : Nat → Int} {t s i : Nat} (hi : i < 5) (h : wE T t s i = true) : s < lE T t s := by
  have := (wQ_first hi h).1
  have := eLen_ok i hi
  omega
theorem wd_is {T : Nat → Int} {t s i : Nat} (hi : i < 5) (h : wE T t s i = true) : wd T t s = i := by
  have ex : ∀ j, j < 5 → i ≠ j → wE T t s j = false := fun j hj hn => wE_ex hi hj h hn
  unfold wd
  rcases (show i = 0 ∨ i = 1 ∨ i = 2 ∨ i = 3 ∨ i = 4 by omega) with rfl | rfl | rfl | rfl | rfl
  · rw [ex 2 (by decide) (by decide), ex 3 (by decide) (by decide), h]; rfl
  · rw [ex 2 (by decide) (by decide), ex 3 (by decide) (by decide), ex 0 (by decide) (by decide), h]; rfl
  · rw [h]; rfl
  · rw [ex 2 (by decide) (by decide), h]; rfl
  · rw [ex 2 (by decide) (by decide), ex 3 (by decide) (by decide), ex 0 (by decide) (by decide), ex 1 (by decide) (by decide), h]; rfl
theorem wd_no {T : Nat → Int} {t s : Nat} (h : ∀ i, i < 5 → wE T t s i = false) : wd T t s = -1 := by
  unfold wd
  rw [h 2 (by decide), h 3 (by decide), h 0 (by decide), h 1 (by decide), h 4 (by decide)]; rfl
theorem wE_cases (T : Nat → Int) (t s : Nat) : (∃ i, i < 5 ∧ wE T t s i = true) ∨ ∀ i, i < 5 → wE T t s i = false := by
  by_cases h : ∃ i, i < 5 ∧ wE T t s i = true
  · exact Or.inl h
  · refine Or.inr (fun i hi => ?_)
    cases hw : wE T t s i with
    | false => rfl
    | true => exact absurd ⟨i, hi, hw⟩ h
