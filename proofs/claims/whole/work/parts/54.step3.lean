/-! a step of both, 3: seats that change, with what may be undone -/
theorem tOk_seat {S P D S' P' D' : Nat → Int} {n p : Nat} {y u w : Int} (h : tOk S P D n) (hp : p < n) (hy : -1 ≤ y ∧ y ≤ 7) (hfree : y ≠ -1 → ∀ q, q < n → S q ≠ y) (hu : 0 ≤ u ∧ 0 ≤ w ∧ u + w ≤ 500)
    (e : ∀ q, q ≠ p → S' q = S q ∧ P' q = P q ∧ D' q = D q) (ep : S' p = y ∧ P' p = u ∧ D' p = w) : tOk S' P' D' n := by
  refine ⟨fun q hq => ?_, fun q r hq hr => ?_⟩
  · by_cases hqp : q = p
    · subst hqp
      obtain ⟨a, b, c⟩ := ep
      rw [a, b, c]; omega
    · obtain ⟨a, b, c⟩ := e q hqp
      rw [a, b, c]; exact h.1 q hq
  · intro he hne
    by_cases hqp : q = p
    · by_cases hrp : r = p
      · omega
      · subst hqp
        rw [ep.1, (e r hrp).1] at he
        rw [ep.1] at hne
        exact absurd he.symm (hfree hne r hr)
    · by_cases hrp : r = p
      · subst hrp
        rw [ep.1, (e q hqp).1] at he
        rw [(e q hqp).1, he] at hne
        exact absurd he (hfree hne q hq)
      · rw [(e q hqp).1, (e r hrp).1] at he
        rw [(e q hqp).1] at hne
        exact h.2 q r hq hr he hne
/-- behind 'remember' on both sides and new seats, purses, paid for p -/
theorem rel_seat {ζ η : zSt} (hR : Rel ζ) {n c s p : Nat} (hN : RelN ζ n c s) (hp : p < n) {y u w : Int} (hy : -1 ≤ y ∧ y ≤ 7) (hfree : y ≠ -1 → ∀ q, q < n → ζ.1 7 q ≠ y) (hu : 0 ≤ u ∧ 0 ≤ w ∧ u + w ≤ 500)
    (r : ∀ a b, η.1 a b = if (a = 7 ∨ a = 58) ∧ b = p then y else if (a = 5 ∨ a = 56) ∧ b = p then u else if (a = 6 ∨ a = 57) ∧ b = p then w else if a = 1 ∧ b = 11 then (kk s : Int) + 1 else if a = 52 ∧ b = 24 then (kk s : Int) + 1 else if a = 9 then pQ (shQ (ζ.1 9) s) (ζ.1 7) (ζ.1 5) (ζ.1 6) (kk s) b else if a = 66 then pQ (shQ (ζ.1 66) s) (ζ.1 58) (ζ.1 56) (ζ.1 57) (kk s) b else ζ.1 a b) (h2 : η.2 = ζ.2) : Rel η := by
  obtain ⟨⟨e1, e2, e3, e4, e5, e6⟩, ⟨h1, h2', h3⟩, b1, b2, b3, ⟨b4, b4'⟩, b5, b6⟩ := hN
  have hk8 : kk s + 1 ≤ 8 := by unfold kk; split <;> omega
  refine hR.now ⟨n, c, kk s + 1, ⟨?_, ?_, ?_, ?_, ?_, ?_⟩, ⟨h1, h2', hk8⟩, ?_, fun z hz => ?_, fun q hq => ?_, ⟨?_, fun q hq => ?_⟩, fun i hi => ?_, ?_⟩ (fun a ha => ?_) ?_ h2
  · rw [r]; simp; exact e1
  · rw [r]; simp; exact e2
  · rw [r]; simp
  · rw [r]; simp; exact e4
  · rw [r]; simp; exact e5
  · rw [r]; simp
  · rw [r, r, r, r]; simp; simpa using b1
  · rw [r, r]; simp; simpa using b2 z hz
  · rw [r, r, r]; simp; simpa using b3 q hq
  · refine tOk_seat b4 hp hy hfree hu (fun q hq => ?_) ?_
    · rw [r, r, r]; simp [hq]
    · rw [r, r, r]; simp
  · rw [r, r, r, r, r, r]; simp
    by_cases e : q = p
    · simp [e]
    · simp [e]; simpa using b4' q hq
  · simp only [r]; simpa using b5 i hi
  · have hp9 : η.1 9 = fun b => pQ (shQ (ζ.1 9) s) (ζ.1 7) (ζ.1 5) (ζ.1 6) (kk s) b := by funext b; rw [r]; simp
    have hp66 : η.1 66 = fun b => pQ (shQ (ζ.1 66) s) (ζ.1 58) (ζ.1 56) (ζ.1 57) (kk s) b := by funext b; rw [r]; simp
    rw [hp9, hp66]
    exact past_ok h1 h3 b4 b4' b6
  · funext b
    have m : a ≠ 7 ∧ a ≠ 58 ∧ a ≠ 5 ∧ a ≠ 56 ∧ a ≠ 6 ∧ a ≠ 57 ∧ a ≠ 1 ∧ a ≠ 52 ∧ a ≠ 9 ∧ a ≠ 66 := by revert a; decide
    obtain ⟨m1, m2, m3, m4, m5, m6, m7, m8, m9, m10⟩ := m
    rw [r]; simp [m1, m2, m3, m4, m5, m6, m7, m8, m9, m10]
  · rw [r]; simp
theorem rem_52 (ζ : zSt) (s : Nat) (hs : s ≤ 8) (a b : Nat) (h1 : a ≠ 1) (h9 : a ≠ 9) : (rem ζ s).1 a b = ζ.1 a b := by
  rw [rem_at ζ s a b hs, if_neg (fun q => h1 q.1), if_neg h9]
section ST3
variable {l : Launch} {B : eB} {ζ : zSt}
theorem RelN.at_rem {n c s : Nat} (hN : RelN ζ n c s) {p : Nat} (x : Int) : (zU (rem ζ s) 7 p x).1 52 = ζ.1 52 ∧ (zU (rem ζ s) 7 p x).1 58 = ζ.1 58 := by
  have hs := hN.2.1.2.2
  constructor
  · funext b
    rw [zU_at, if_neg (by omega), rem_52 ζ s hs 52 b (by decide) (by decide)]
  · funext b
    rw [zU_at, if_neg (by omega), rem_52 ζ s hs 58 b (by decide) (by decide)]
theorem both_at {s : Nat} (hs : s ≤ 8) (p : Nat) (x : Int) (a b : Nat) : (zU (mRem (zU (rem ζ s) 7 p x) s) 58 p x).1 a b = if (a = 7 ∨ a = 58) ∧ b = p then x else if a = 1 ∧ b = 11 then (kk s : Int) + 1 else if a = 52 ∧ b = 24 then (kk s : Int) + 1 else if a = 9 then pQ (shQ (ζ.1 9) s) (ζ.1 7) (ζ.1 5) (ζ.1 6) (kk s) b else if a = 66 then pQ (shQ (ζ.1 66) s) (ζ.1 58) (ζ.1 56) (ζ.1 57) (kk s) b else ζ.1 a b := by
  have r66 : (zU (rem ζ s) 7 p x).1 66 = ζ.1 66 := by funext b; rw [zU_at, if_neg (by omega), rem_52 ζ s hs 66 b (by decide) (by decide)]
  have r58 : (zU (rem ζ s) 7 p x).1 58 = ζ.1 58 := by funext b; rw [zU_at, if_neg (by omega), rem_52 ζ s hs 58 b (by decide) (by decide)]
  have r56 : (zU (rem ζ s) 7 p x).1 56 = ζ.1 56 := by funext b; rw [zU_at, if_neg (by omega), rem_52 ζ s hs 56 b (by decide) (by decide)]
  have r57 : (zU (rem ζ s) 7 p x).1 57 = ζ.1 57 := by funext b; rw [zU_at, if_neg (by omega), rem_52 ζ s hs 57 b (by decide) (by decide)]
  rw [zU_at, mRem_at _ s a b hs, r66, r58, r56, r57, zU_at, rem_at ζ s a b hs]
  by_cases h7 : a = 7
  · subst h7; simp
  · by_cases h58 : a = 58
    · subst h58; simp
    · by_cases h52 : a = 52
      · subst h52; simp
      · by_cases h1 : a = 1
        · subst h1; simp
        · by_cases h66 : a = 66
          · subst h66; simp
          · simp [h7, h58, h52, h1, h66]
theorem both_l (s p : Nat) (x : Int) : (zU (mRem (zU (rem ζ s) 7 p x) s) 58 p x).2 = ζ.2 := by
  rw [zU_l, mRem_l, zU_l, rem_l]
theorem st_leave (hR : Rel ζ) {p : Int} (hp : -2147483648 ≤ p ∧ p ≤ 2147483647) : eStep l B mX6_leave mX7_leave [zi p] ζ := by
  obtain ⟨n, c, s, hN⟩ := hR.1
  have hn := hN.2.1.1
  have hs8 := hN.2.1.2.2
  by_cases h : 0 ≤ p ∧ p < n
  · obtain ⟨q, rfl⟩ := Int.eq_ofNat_of_zero_le h.1
    have hq : q < n := by omega
    have hs : -1 ≤ ζ.1 7 q ∧ ζ.1 7 q ≤ 7 := (hN.cOk.1.2.2.2.2 q hq).2.2.2
    have e58 : ζ.1 58 q = ζ.1 7 q := (hN.agr.2.2 q hq).2.2.2
    by_cases h2 : ζ.1 7 q = -1
    · exact ⟨_, _, _, run_X6_leave_no hn hN.1.1 hq h2, run_X7_leave_no (ζ := noS ζ) hn hN.1.2.2.2.1 hq (e58.trans h2), rel_no hR⟩
    · obtain ⟨r52, r58⟩ := hN.at_rem (p := q) (-1)
      refine ⟨_, _, _, run_X6_leave_ok hn hN.1.1 hq hs8 hN.1.2.2.1 (by omega), by rw [show ζ.1 7 q = (zU (rem ζ s) 7 q (-1)).1 58 q from by rw [r58]; exact e58.symm]; exact run_X7_leave_ok hn (by rw [r52]; exact hN.1.2.2.2.1) hq hs8 (by rw [r52]; exact hN.1.2.2.2.2.2) (by rw [r58, e58]; omega), ?_⟩
      refine rel_seat hR hN hq (y := -1) (u := ζ.1 5 q) (w := ζ.1 6 q) (by omega) (fun w => absurd rfl w) (hN.2.2.2.2.2.1.1.1 q hq).2 (fun a b => ?_) (both_l s q (-1))
      rw [both_at hs8]
      by_cases h5 : (a = 5 ∨ a = 56) ∧ b = q
      · obtain ⟨h5, rfl⟩ := h5
        rcases h5 with rfl | rfl
        · simp
        · simp; exact (hN.agr.2.2 b hq).2.1
      · by_cases h6 : (a = 6 ∨ a = 57) ∧ b = q
        · obtain ⟨h6, rfl⟩ := h6
          rcases h6 with rfl | rfl
          · simp
          · simp; exact (hN.agr.2.2 b hq).2.2.1
        · rw [if_neg h5, if_neg h6]
  · exact ⟨_, _, _, run_X6_leave_bad hn hN.1.1 hp h, run_X7_leave_bad (ζ := bdS ζ) hn hN.1.2.2.2.1 hp h, rel_bad hR⟩
theorem hol_none {V : Nat → Nat → Int} {y : Int} : ∀ k p, sHol V y p k = -1 → ∀ q, p ≤ q → q < p + k → V 5 q ≠ y
  | 0, p, _, q, h1, h2 => by omega
  | k + 1, p, h, q, h1, h2 => by
    unfold sHol at h
    by_cases e : V 5 p = y
    · rw [if_pos e] at h; omega
    · rw [if_neg e] at h
      by_cases hq : q = p
      · subst hq; exact e
      · exact hol_none k (p + 1) h q (by omega) (by omega)
theorem st_moves (hR : Rel ζ) {p y : Int} (hp : -2147483648 ≤ p ∧ p ≤ 2147483647) (hy : -2147483648 ≤ y ∧ y ≤ 2147483647) : eStep l B mX6_moves mX7_moves [zi p, zi y] ζ := by
  obtain ⟨n, c, s, hN⟩ := hR.1
  have hn := hN.2.1.1
  have hs8 := hN.2.1.2.2
  have a := hN.agr
  by_cases h : (0 ≤ p ∧ p < n) ∧ (0 ≤ y ∧ y ≤ 7)
  · obtain ⟨q, rfl⟩ := Int.eq_ofNat_of_zero_le h.1.1
    have hq : q < n := by omega
    obtain ⟨z, rfl⟩ := Int.eq_ofNat_of_zero_le h.2.1
    have hz : z < 8 := by omega
    have e58 : ζ.1 58 q = ζ.1 7 q := (a.2.2 q hq).2.2.2
    by_cases h2 : ζ.1 7 q = -1 ∨ sHol (cV ζ) z 0 n ≠ -1
    · exact ⟨_, _, _, run_X6_moves_no hN.cOk hq hz h2, run_X7_moves_no hN.no.mOk hq hz (by
        rcases h2 with h2 | h2
        · left; exact e58.trans h2
        · right; rw [hN.no.agr.hol z n 0 (by omega)]; exact h2), rel_no hR⟩
    · have h3 : ζ.1 7 q ≠ -1 := fun w => h2 (Or.inl w)
      have h4 : sHol (cV ζ) z 0 n = -1 := Decidable.byContradiction (fun w => h2 (Or.inr w))
      obtain ⟨r52, r58⟩ := hN.at_rem (p := q) z
      have hmo : mOk (zU (rem ζ s) 7 q z) n := by
        have rr : ∀ a b, a ∈ [52, 54, 55, 56, 57, 58] → (zU (rem ζ s) 7 q z).1 a b = ζ.1 a b := fun a b ha => by
          rw [zU_at, if_neg (fun w => by have := w.1; subst this; revert ha; decide), rem_52 ζ s hs8 a b (fun w => by subst w; revert ha; decide) (fun w => by subst w; revert ha; decide)]
        have e : ∀ x b, x < 6 → mV (zU (rem ζ s) 7 q z) x b = mV ζ x b := by
          intro x b hx
          match x, hx with
          | 0, _ => cases b <;> exact rr 52 _ (by decide)
          | 1, _ => exact rr 54 b (by decide)
          | 2, _ => exact rr 55 b (by decide)
          | 3, _ => exact rr 56 b (by decide)
          | 4, _ => exact rr 57 b (by decide)
          | 5, _ => exact rr 58 b (by decide)
        exact ⟨vOk_cg e hN.mOk.1, (rr 52 1 (by decide)).trans hN.mOk.2⟩
      have hho : sHol (mV (zU (rem ζ s) 7 q z)) z 0 n = -1 := by
        have key : ∀ k p, sHol (mV (zU (rem ζ s) 7 q z)) z p k = sHol (mV ζ) z p k := by
          intro k
          induction k with
          | zero => intro p; rfl
          | succ k ih =>
            intro p
            unfold sHol
            rw [ih (p + 1), show mV (zU (rem ζ s) 7 q z) 5 p = mV ζ 5 p from by show (zU (rem ζ s) 7 q z).1 58 p = ζ.1 58 p; rw [r58]]
        rw [key, a.hol z n 0 (by omega)]; exact h4
      refine ⟨_, _, _, run_X6_moves_ok hN.cOk hq hz hs8 hN.1.2.2.1 h3 h4, by rw [show ζ.1 7 q = (zU (rem ζ s) 7 q z).1 58 q from by rw [r58]; exact e58.symm]; exact run_X7_moves_ok hmo hq hz hs8 (by rw [r52]; exact hN.1.2.2.2.2.2) (by rw [r58, e58]; exact h3) hho, ?_⟩
      refine rel_seat hR hN hq (y := z) (u := ζ.1 5 q) (w := ζ.1 6 q) (by omega) (fun _ w hw => hol_none n 0 h4 w (by omega) (by omega)) (hN.2.2.2.2.2.1.1.1 q hq).2 (fun a b => ?_) (both_l s q z)
      rw [both_at hs8]
      by_cases h5 : (a = 5 ∨ a = 56) ∧ b = q
      · obtain ⟨h5, rfl⟩ := h5
        rcases h5 with rfl | rfl
        · simp
        · simp; exact (hN.agr.2.2 b hq).2.1
      · by_cases h6 : (a = 6 ∨ a = 57) ∧ b = q
        · obtain ⟨h6, rfl⟩ := h6
          rcases h6 with rfl | rfl
          · simp
          · simp; exact (hN.agr.2.2 b hq).2.2.1
        · rw [if_neg h5, if_neg h6]
  · exact ⟨_, _, _, run_X6_moves_bad hn hN.1.1 hp hy h, run_X7_moves_bad (ζ := bdS ζ) hn hN.1.2.2.2.1 hp hy h, rel_bad hR⟩
/-- the price is at most what the winner bids -/
theorem top_max {f : Nat → Int} : ∀ k, (∀ p, p < k → f p ≤ (sTop f k).2) ∧ ((sTop f k).1 = -1 ∨ ∃ p, p < k ∧ (sTop f k).1 = (p : Int) ∧ (sTop f k).2 = f p)
  | 0 => ⟨fun p hp => absurd hp (by omega), Or.inl rfl⟩
  | k + 1 => by
    obtain ⟨h1, h2⟩ := top_max (f := f) k
    unfold sTop
    by_cases e : (sTop f k).2 < f k
    · rw [if_pos e]
      refine ⟨fun p hp => ?_, Or.inr ⟨k, by omega, rfl, rfl⟩⟩
      by_cases hpk : p = k
      · subst hpk; exact Int.le_refl _
      · have := h1 p (by omega); show f p ≤ f k; omega
    · rw [if_neg e]
      refine ⟨fun p hp => ?_, ?_⟩
      · by_cases hpk : p = k
        · subst hpk; omega
        · exact h1 p (by omega)
      · rcases h2 with h2 | ⟨p, hp, h3⟩
        · exact Or.inl h2
        · exact Or.inr ⟨p, by omega, h3⟩
theorem pri_le {f : Nat → Int} {M : Int} (hM : 0 ≤ M) (w : Int) : ∀ k, (∀ p, p < k → f p ≤ M) → sPri f w k ≤ M
  | 0, _ => hM
  | k + 1, h => by
    have ih := pri_le hM w k (fun p hp => h p (by omega))
    have := h k (by omega)
    unfold sPri
    split
    · exact ih
    · split
      · exact this
      · exact ih
theorem both2_at {s : Nat} (hs : s ≤ 8) (p : Nat) (x u w d : Int) (a b : Nat) : (zU (zU (zU (mRem (zU (zU (zU (rem ζ s) 5 p u) 6 p w) 7 p x) s) 58 p x) 56 p ((mRem (zU (zU (zU (rem ζ s) 5 p u) 6 p w) 7 p x) s).1 56 p - d)) 57 p ((mRem (zU (zU (zU (rem ζ s) 5 p u) 6 p w) 7 p x) s).1 57 p + d)).1 a b = if (a = 7 ∨ a = 58) ∧ b = p then x else if a = 5 ∧ b = p then u else if a = 56 ∧ b = p then ζ.1 56 p - d else if a = 6 ∧ b = p then w else if a = 57 ∧ b = p then ζ.1 57 p + d else if a = 1 ∧ b = 11 then (kk s : Int) + 1 else if a = 52 ∧ b = 24 then (kk s : Int) + 1 else if a = 9 then pQ (shQ (ζ.1 9) s) (ζ.1 7) (ζ.1 5) (ζ.1 6) (kk s) b else if a = 66 then pQ (shQ (ζ.1 66) s) (ζ.1 58) (ζ.1 56) (ζ.1 57) (kk s) b else ζ.1 a b := by
  have rr : ∀ a b, a ≠ 1 → a ≠ 5 → a ≠ 6 → a ≠ 7 → a ≠ 9 → (zU (zU (zU (rem ζ s) 5 p u) 6 p w) 7 p x).1 a b = ζ.1 a b := fun a b h1 h5 h6 h7 h9 => by
    rw [zU_at, if_neg (fun q => h7 q.1), zU_at, if_neg (fun q => h6 q.1), zU_at, if_neg (fun q => h5 q.1), rem_52 ζ s hs a b h1 h9]
  have r66 : (zU (zU (zU (rem ζ s) 5 p u) 6 p w) 7 p x).1 66 = ζ.1 66 := funext fun b => rr 66 b (by decide) (by decide) (by decide) (by decide) (by decide)
  have r58 : (zU (zU (zU (rem ζ s) 5 p u) 6 p w) 7 p x).1 58 = ζ.1 58 := funext fun b => rr 58 b (by decide) (by decide) (by decide) (by decide) (by decide)
  have r56 : (zU (zU (zU (rem ζ s) 5 p u) 6 p w) 7 p x).1 56 = ζ.1 56 := funext fun b => rr 56 b (by decide) (by decide) (by decide) (by decide) (by decide)
  have r57 : (zU (zU (zU (rem ζ s) 5 p u) 6 p w) 7 p x).1 57 = ζ.1 57 := funext fun b => rr 57 b (by decide) (by decide) (by decide) (by decide) (by decide)
  have m56 : (mRem (zU (zU (zU (rem ζ s) 5 p u) 6 p w) 7 p x) s).1 56 p = ζ.1 56 p := by
    rw [mRem_at _ s 56 p hs, if_neg (by omega), if_neg (by decide), r56]
  have m57 : (mRem (zU (zU (zU (rem ζ s) 5 p u) 6 p w) 7 p x) s).1 57 p = ζ.1 57 p := by
    rw [mRem_at _ s 57 p hs, if_neg (by omega), if_neg (by decide), r57]
  rw [m56, m57, zU_at, zU_at, zU_at, mRem_at _ s a b hs, r66, r58, r56, r57, zU_at, zU_at, zU_at, rem_at ζ s a b hs]
  by_cases h7 : a = 7
  · subst h7; simp
  · by_cases h58 : a = 58
    · subst h58; simp
    · by_cases h52 : a = 52
      · subst h52; simp
      · by_cases h1 : a = 1
        · subst h1; simp
        · by_cases h66 : a = 66
          · subst h66; simp
          · by_cases h5 : a = 5
            · subst h5; simp
            · by_cases h6 : a = 6
              · subst h6; simp
              · by_cases h56 : a = 56
                · subst h56; simp
                · by_cases h57 : a = 57
                  · subst h57; simp
                  · simp [h7, h58, h52, h1, h66, h5, h6, h56, h57]
theorem st_sell (hR : Rel ζ) {y : Int} (hy : -2147483648 ≤ y ∧ y ≤ 2147483647) : eStep l B mX6_sell mX7_sell [zi y] ζ := by
  obtain ⟨n, c, s, hN⟩ := hR.1
  have hn := hN.2.1.1
  have hs8 := hN.2.1.2.2
  have a := hN.agr
  have hv := hN.cOk.1
  by_cases h : 0 ≤ y ∧ y ≤ 7
  · obtain ⟨z, rfl⟩ := Int.eq_ofNat_of_zero_le h.1
    have hz : z < 8 := by omega
    by_cases h2 : sHol (cV ζ) z 0 n ≠ -1 ∨ (sTop (sOff (cV ζ) n z) n).1 = -1
    · exact ⟨_, _, _, run_X6_sell_no hN.cOk hz h2, run_X7_sell_no hN.no.mOk hz (by
        rcases h2 with h2 | h2
        · left; rw [hN.no.agr.hol z n 0 (by omega)]; exact h2
        · right; rw [hN.no.agr.top hN.no.cOk.1 hz]; exact h2), rel_no hR⟩
    · have h4 : sHol (cV ζ) z 0 n = -1 := Decidable.byContradiction (fun w => h2 (Or.inl w))
      obtain ⟨hmx, hpp⟩ := top_max (f := sOff (cV ζ) n z) n
      rcases hpp with hpp | ⟨q, hq, hq1, hq2⟩
      · exact absurd hpp (fun w => h2 (Or.inr w))
      · have hofb := hv.off hq hz
        have hpr : 0 ≤ sPri (sOff (cV ζ) n z) q n ∧ sPri (sOff (cV ζ) n z) q n ≤ 420 := sPri_bd (w := q) (fun p hp => hv.off (n := n) hp hz) n (Nat.le_refl n)
        have hpl : sPri (sOff (cV ζ) n z) q n ≤ sOff (cV ζ) n z q := pri_le hofb.1 q n (fun p hp => by rw [← hq2]; exact hmx p hp)
        have hse : ζ.1 7 q = -1 ∨ sOff (cV ζ) n z q = 0 := by
          by_cases e : ζ.1 7 q = -1
          · exact Or.inl e
          · right; exact if_neg e
        have hbp : sOff (cV ζ) n z q ≤ ζ.1 5 q := by
          have hpur : 0 ≤ ζ.1 5 q ∧ ζ.1 5 q ≤ 500 := (hv.2.2.2.2 q hq).2.1
          unfold sOff
          split
          · unfold sBid
            split
            · exact Int.le_refl _
            · rename_i hh
              have : ¬ ζ.1 5 q < sWin (cV ζ) n q z := hh
              omega
          · exact hpur.1
        have htr := (hN.2.2.2.2.2.1.1.1 q hq).2
        have re5 : (rem ζ s).1 5 q = ζ.1 5 q := rem_52 ζ s hs8 5 q (by decide) (by decide)
        have re6 : (rem ζ s).1 6 q = ζ.1 6 q := rem_52 ζ s hs8 6 q (by decide) (by decide)
        have rx := run_X6_sell_ok (l := l) (B := B) hN.cOk hz hs8 hN.1.2.2.1 h4 hq hq1
        rw [re5, re6] at rx
        have rr : ∀ a b, a ∈ [52, 54, 55, 56, 57, 58] → (zU (zU (zU (rem ζ s) 5 q (ζ.1 5 q - sPri (sOff (cV ζ) n z) q n)) 6 q (ζ.1 6 q + sPri (sOff (cV ζ) n z) q n)) 7 q z).1 a b = ζ.1 a b := fun a b ha => by
          rw [zU_at, if_neg (fun w => by have := w.1; subst this; revert ha; decide), zU_at, if_neg (fun w => by have := w.1; subst this; revert ha; decide), zU_at, if_neg (fun w => by have := w.1; subst this; revert ha; decide), rem_52 ζ s hs8 a b (fun w => by subst w; revert ha; decide) (fun w => by subst w; revert ha; decide)]
        generalize hη : zU (zU (zU (rem ζ s) 5 q (ζ.1 5 q - sPri (sOff (cV ζ) n z) q n)) 6 q (ζ.1 6 q + sPri (sOff (cV ζ) n z) q n)) 7 q z = η at rx rr
        have e : ∀ x b, x < 6 → mV η x b = mV ζ x b := by
          intro x b hx
          match x, hx with
          | 0, _ => cases b <;> exact rr 52 _ (by decide)
          | 1, _ => exact rr 54 b (by decide)
          | 2, _ => exact rr 55 b (by decide)
          | 3, _ => exact rr 56 b (by decide)
          | 4, _ => exact rr 57 b (by decide)
          | 5, _ => exact rr 58 b (by decide)
        have hmo : mOk η n := ⟨vOk_cg e hN.mOk.1, (rr 52 1 (by decide)).trans hN.mOk.2⟩
        have ag : Agr (cV ζ) (mV η) n := ⟨⟨(e 0 0 (by decide)).trans a.1.1, (e 0 1 (by decide)).trans a.1.2⟩, fun y hy => (e 1 y (by decide)).trans (a.2.1 y hy), fun p hp => ⟨(e 2 p (by decide)).trans (a.2.2 p hp).1, (e 3 p (by decide)).trans (a.2.2 p hp).2.1, (e 4 p (by decide)).trans (a.2.2 p hp).2.2.1, (e 5 p (by decide)).trans (a.2.2 p hp).2.2.2⟩⟩
        have rm := run_X7_sell_ok (l := l) (B := B) hmo hz hs8 ((rr 52 24 (by decide)).trans hN.1.2.2.2.2.2) (by rw [ag.hol z n 0 (by omega)]; exact h4) hq (by rw [ag.top hv hz]; exact hq1)
        rw [ag.pri hv hz] at rm
        refine ⟨_, _, _, rx, rm, ?_⟩
        rw [← hη]
        refine rel_seat hR hN hq (y := z) (u := ζ.1 5 q - sPri (sOff (cV ζ) n z) q n) (w := ζ.1 6 q + sPri (sOff (cV ζ) n z) q n) (by omega) (fun _ w hw => hol_none n 0 h4 w (by omega) (by omega)) (by omega) (fun a' b => ?_) ?_
        · rw [both2_at hs8]
          have e56 : ζ.1 56 q = ζ.1 5 q := (a.2.2 q hq).2.1
          have e57 : ζ.1 57 q = ζ.1 6 q := (a.2.2 q hq).2.2.1
          rw [e56, e57]
          by_cases g7 : (a' = 7 ∨ a' = 58) ∧ b = q
          · rw [if_pos g7, if_pos g7]
          · rw [if_neg g7, if_neg g7]
            by_cases g5 : a' = 5 ∧ b = q
            · rw [if_pos g5, if_pos ⟨Or.inl g5.1, g5.2⟩]
            · rw [if_neg g5]
              by_cases g56 : a' = 56 ∧ b = q
              · rw [if_pos g56, if_pos ⟨Or.inr g56.1, g56.2⟩]
              · rw [if_neg g56, if_neg (c := (a' = 5 ∨ a' = 56) ∧ b = q) (fun w => by rcases w with ⟨w1 | w1, w2⟩; exact g5 ⟨w1, w2⟩; exact g56 ⟨w1, w2⟩)]
                by_cases g6 : a' = 6 ∧ b = q
                · rw [if_pos g6, if_pos ⟨Or.inl g6.1, g6.2⟩]
                · rw [if_neg g6]
                  by_cases g57 : a' = 57 ∧ b = q
                  · rw [if_pos g57, if_pos ⟨Or.inr g57.1, g57.2⟩]
                  · rw [if_neg g57, if_neg (c := (a' = 6 ∨ a' = 57) ∧ b = q) (fun w => by rcases w with ⟨w1 | w1, w2⟩; exact g6 ⟨w1, w2⟩; exact g57 ⟨w1, w2⟩)]
        · rw [zU_l, zU_l, zU_l, mRem_l, zU_l, zU_l, zU_l, rem_l]
  · exact ⟨_, _, _, run_X6_sell_bad hy h, run_X7_sell_bad hy h, rel_bad hR⟩
end ST3
