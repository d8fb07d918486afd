/-! reading a text: the reference's whole -/
theorem MS.rf (ζ : zSt) : MS ζ ζ := ⟨⟨fun _ _ => rfl, rfl⟩, fun _ _ => rfl⟩
theorem MS.fill {ζ0 ζ : zSt} (h : MS ζ0 ζ) : ∀ n, MS ζ0 (zFill ζ 65 0 n)
  | 0 => h
  | n + 1 => (MS.fill h n).p65 n 0
def iniM (ζ : zSt) : zSt := zU (zU (zU ζ 52 16 0) 52 19 0) 52 18 240
theorem ini_MC (ζ : zSt) : MC ζ (zFill (iniM ζ) 65 0 8) 0 (ζ.1 52 17, d0.2) := by
  refine ⟨MS.fill ((((MS.rf ζ).p52 (by decide) _).p52 (by decide) _).p52 (by decide) _) 8, rfl, ⟨rfl, rfl, rfl⟩, fun y hy => ?_, fun p hp => absurd hp (Nat.not_lt_zero p)⟩
  rw [zFill_at, if_pos ⟨rfl, hy⟩]; rfl
def bL (ζ : zSt) : Nat → zSt
  | 0 => ζ
  | p + 1 => zU (mAd (bL ζ p) p (ζ.1 64 (3 * p)) (ζ.1 64 (3 * p + 1))) 58 p (ζ.1 64 (3 * p + 2))
theorem mAd_at (ζ : zSt) (n : Nat) (k u : Int) (a b : Nat) : (mAd ζ n k u).1 a b = if a = 52 ∧ b = 24 then 0 else if a = 52 ∧ b = 1 then (n : Int) + 1 else if a = 58 ∧ b = n then -1 else if a = 57 ∧ b = n then 0 else if a = 56 ∧ b = n then u else if a = 55 ∧ b = n then k else ζ.1 a b := rfl
theorem bL_at (ζ : zSt) (h24 : ζ.1 52 24 = 0) (h1 : ζ.1 52 1 = 0) (a b : Nat) : ∀ n, (bL ζ n).1 a b = if a = 55 ∧ b < n then ζ.1 64 (3 * b) else if a = 56 ∧ b < n then ζ.1 64 (3 * b + 1) else if a = 57 ∧ b < n then 0 else if a = 58 ∧ b < n then ζ.1 64 (3 * b + 2) else if a = 52 ∧ b = 1 then (n : Int) else ζ.1 a b
  | 0 => by
    rw [if_neg (by omega), if_neg (by omega), if_neg (by omega), if_neg (by omega)]
    split
    · rename_i h; rw [h.1, h.2]; exact h1
    · rfl
  | n + 1 => by
    show (if a = 58 ∧ b = n then ζ.1 64 (3 * n + 2) else (mAd (bL ζ n) n (ζ.1 64 (3 * n)) (ζ.1 64 (3 * n + 1))).1 a b) = _
    rw [mAd_at, bL_at ζ h24 h1 a b n]
    by_cases e55 : a = 55
    · subst e55
      by_cases hb : b = n
      · subst hb; simp
      · by_cases hb2 : b < n
        · have : b < n + 1 := by omega
          simp [hb, hb2, this]
        · have : ¬ b < n + 1 := by omega
          simp [hb, hb2, this]
    · by_cases e56 : a = 56
      · subst e56
        by_cases hb : b = n
        · subst hb; simp
        · by_cases hb2 : b < n
          · have : b < n + 1 := by omega
            simp [hb, hb2, this]
          · have : ¬ b < n + 1 := by omega
            simp [hb, hb2, this]
      · by_cases e57 : a = 57
        · subst e57
          by_cases hb : b = n
          · subst hb; simp
          · by_cases hb2 : b < n
            · have : b < n + 1 := by omega
              simp [hb, hb2, this]
            · have : ¬ b < n + 1 := by omega
              simp [hb, hb2, this]
        · by_cases e58 : a = 58
          · subst e58
            by_cases hb : b = n
            · subst hb; simp
            · by_cases hb2 : b < n
              · have : b < n + 1 := by omega
                simp [hb, hb2, this]
              · have : ¬ b < n + 1 := by omega
                simp [hb, hb2, this]
          · by_cases e52 : a = 52
            · subst e52
              by_cases h24b : b = 24
              · subst h24b; simp [h24]
              · by_cases hb1 : b = 1
                · subst hb1; simp
                · simp [h24b, hb1]
            · simp [e55, e56, e57, e58, e52]
theorem bL_l (ζ : zSt) : ∀ n, (bL ζ n).2 = ζ.2
  | 0 => rfl
  | n + 1 => bL_l ζ n
theorem mBg_at (ζ : zSt) (t d : Int) (a b : Nat) : (mBg ζ t d).1 a b = if a = 54 ∧ b < 8 then 0 else if a = 52 ∧ b = 24 then 0 else if a = 52 ∧ b = 4 then 0 else if a = 52 ∧ b = 1 then 0 else if a = 52 ∧ b = 3 then d else if a = 52 ∧ b = 2 then t else ζ.1 a b := by
  unfold mBg
  rw [zFill_at]; rfl
theorem mBg_l (ζ : zSt) (t d : Int) : (mBg ζ t d).2 = ζ.2 := by
  unfold mBg
  rw [zFill_l]; rfl
def hgS (ζ : zSt) (y : Nat) : zSt := zR ζ 54 (hF (ζ.1 65) (ζ.1 54) y)
theorem hgS_s (ζ : zSt) (y : Nat) : zU (hgS ζ y) 54 y (ζ.1 65 y) = hgS ζ (y + 1) := by
  unfold hgS
  rw [zRU, hF_s]
theorem hgS_0 (ζ : zSt) : hgS ζ 0 = ζ := by
  unfold hgS
  rw [hF_0, zR_self]
/-- behind a text read -/
def MN (ζ0 ζ : zSt) (d : pD) : Prop := ((∀ r, r ∉ [52, 54, 55, 56, 57, 58, 64, 65] → ζ.1 r = ζ0.1 r) ∧ ζ.2 = ζ0.2) ∧ (ζ.1 52 1 = d.2.2.2.1 ∧ ζ.1 52 2 = d.1 ∧ ζ.1 52 3 = d.2.1 ∧ ζ.1 52 4 = 0 ∧ ζ.1 52 24 = 0 ∧ ζ.1 52 15 = ζ0.1 52 15) ∧ (∀ y, y < 8 → ζ.1 54 y = d.2.2.1 y) ∧ ∀ p, p < d.2.2.2.1 → ζ.1 55 p = d.2.2.2.2.1 p ∧ ζ.1 56 p = d.2.2.2.2.2.1 p ∧ ζ.1 57 p = 0 ∧ ζ.1 58 p = d.2.2.2.2.2.2 p
