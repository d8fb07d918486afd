/-! rows behind the longer writes -/
theorem cpO_at (ζ : zSt) {d o s : Nat} (hs : s ≠ d) (a b : Nat) : ∀ n, (cpO ζ d o s n).1 a b = if a = d ∧ o ≤ b ∧ b < o + n then ζ.1 s (b - o) else ζ.1 a b
  | 0 => by rw [if_neg (by omega)]; rfl
  | n + 1 => by
    show (if a = d ∧ b = o + n then (cpO ζ d o s n).1 s n else (cpO ζ d o s n).1 a b) = _
    rw [show (cpO ζ d o s n).1 s n = ζ.1 s n from by rw [cpO_at ζ hs s n n]; exact if_neg (fun q => hs q.1), cpO_at ζ hs a b n]
    by_cases h1 : a = d ∧ b = o + n
    · rw [if_pos h1, if_pos (by omega), show b - o = n by omega]
    · rw [if_neg h1]
      by_cases h2 : a = d ∧ o ≤ b ∧ b < o + n
      · rw [if_pos h2, if_pos (by omega)]
      · rw [if_neg h2, if_neg (by omega)]
theorem cpI_at (ζ : zSt) {d s o : Nat} (hs : s ≠ d) (a b : Nat) : ∀ n, (cpI ζ d s o n).1 a b = if a = d ∧ b < n then ζ.1 s (o + b) else ζ.1 a b
  | 0 => by rw [if_neg (by omega)]; rfl
  | n + 1 => by
    show (if a = d ∧ b = n then (cpI ζ d s o n).1 s (o + n) else (cpI ζ d s o n).1 a b) = _
    rw [show (cpI ζ d s o n).1 s (o + n) = ζ.1 s (o + n) from by rw [cpI_at ζ hs s (o + n) n]; exact if_neg (fun q => hs q.1), cpI_at ζ hs a b n]
    by_cases h1 : a = d ∧ b = n
    · rw [if_pos h1, if_pos (by omega), h1.2]
    · rw [if_neg h1]
      by_cases h2 : a = d ∧ b < n
      · rw [if_pos h2, if_pos (by omega)]
      · rw [if_neg h2, if_neg (by omega)]
theorem mLay_at (ζ : zSt) {c : Nat} (i : Nat) (h6 : 56 ≠ c) (h7 : 57 ≠ c) (h8 : 58 ≠ c) (a b : Nat) : ∀ n, n ≤ 5 → (mLay ζ c i n).1 a b = if a = c ∧ i ≤ b ∧ b < i + n then ζ.1 58 (b - i) else if a = c ∧ i + 5 ≤ b ∧ b < i + 5 + n then ζ.1 56 (b - (i + 5)) else if a = c ∧ i + 10 ≤ b ∧ b < i + 10 + n then ζ.1 57 (b - (i + 10)) else ζ.1 a b
  | 0, _ => by rw [if_neg (by omega), if_neg (by omega), if_neg (by omega)]; rfl
  | n + 1, hn => by
    show (if a = c ∧ b = i + 10 + n then (mLay ζ c i n).1 57 n else if a = c ∧ b = i + 5 + n then (mLay ζ c i n).1 56 n else if a = c ∧ b = i + n then (mLay ζ c i n).1 58 n else (mLay ζ c i n).1 a b) = _
    rw [mLay_off ζ c i h7 n n, mLay_off ζ c i h6 n n, mLay_off ζ c i h8 n n, mLay_at ζ i h6 h7 h8 a b n (by omega)]
    by_cases ha : a = c
    · subst ha
      by_cases g1 : b = i + 10 + n
      · rw [if_pos ⟨rfl, g1⟩, if_neg (by omega), if_neg (by omega), if_pos (by omega), show b - (i + 10) = n by omega]
      · rw [if_neg (fun q => g1 q.2)]
        by_cases g2 : b = i + 5 + n
        · rw [if_pos ⟨rfl, g2⟩, if_neg (by omega), if_pos (by omega), show b - (i + 5) = n by omega]
        · rw [if_neg (fun q => g2 q.2)]
          by_cases g3 : b = i + n
          · rw [if_pos ⟨rfl, g3⟩, if_pos (by omega), show b - i = n by omega]
          · rw [if_neg (fun q => g3 q.2)]
            by_cases k1 : i ≤ b ∧ b < i + n
            · rw [if_pos ⟨rfl, k1⟩, if_pos (by omega)]
            · rw [if_neg (fun q => k1 q.2), if_neg (c := a = a ∧ i ≤ b ∧ b < i + (n + 1)) (by omega)]
              by_cases k2 : i + 5 ≤ b ∧ b < i + 5 + n
              · rw [if_pos ⟨rfl, k2⟩, if_pos (by omega)]
              · rw [if_neg (fun q => k2 q.2), if_neg (c := a = a ∧ i + 5 ≤ b ∧ b < i + 5 + (n + 1)) (by omega)]
                by_cases k3 : i + 10 ≤ b ∧ b < i + 10 + n
                · rw [if_pos ⟨rfl, k3⟩, if_pos (by omega)]
                · rw [if_neg (fun q => k3 q.2), if_neg (by omega)]
    · simp [ha]
theorem mTak_at (ζ : zSt) {c : Nat} (i : Nat) (h6 : c ≠ 56) (h7 : c ≠ 57) (h8 : c ≠ 58) (a b : Nat) : ∀ n, (mTak ζ c i n).1 a b = if a = 58 ∧ b < n then ζ.1 c (i + b) else if a = 56 ∧ b < n then ζ.1 c (i + 5 + b) else if a = 57 ∧ b < n then ζ.1 c (i + 10 + b) else ζ.1 a b
  | 0 => by rw [if_neg (by omega), if_neg (by omega), if_neg (by omega)]; rfl
  | n + 1 => by
    have off : ∀ j, (mTak ζ c i n).1 c j = ζ.1 c j := fun j => by
      rw [mTak_at ζ i h6 h7 h8 c j n, if_neg (by omega), if_neg (by omega), if_neg (by omega)]
    show (if a = 57 ∧ b = n then (mTak ζ c i n).1 c (i + 10 + n) else if a = 56 ∧ b = n then (mTak ζ c i n).1 c (i + 5 + n) else if a = 58 ∧ b = n then (mTak ζ c i n).1 c (i + n) else (mTak ζ c i n).1 a b) = _
    rw [off, off, off, mTak_at ζ i h6 h7 h8 a b n]
    by_cases e1 : a = 57 ∧ b = n
    · rw [if_pos e1, if_neg (by omega), if_neg (by omega), if_pos (by omega), e1.2]
    · rw [if_neg e1]
      by_cases e2 : a = 56 ∧ b = n
      · rw [if_pos e2, if_neg (by omega), if_pos (by omega), e2.2]
      · rw [if_neg e2]
        by_cases e3 : a = 58 ∧ b = n
        · rw [if_pos e3, if_pos (by omega), e3.2]
        · rw [if_neg e3]
          by_cases k1 : a = 58 ∧ b < n
          · rw [if_pos k1, if_pos (by omega)]
          · rw [if_neg k1, if_neg (c := a = 58 ∧ b < n + 1) (by omega)]
            by_cases k2 : a = 56 ∧ b < n
            · rw [if_pos k2, if_pos (by omega)]
            · rw [if_neg k2, if_neg (c := a = 56 ∧ b < n + 1) (by omega)]
              by_cases k3 : a = 57 ∧ b < n
              · rw [if_pos k3, if_pos (by omega)]
              · rw [if_neg k3, if_neg (by omega)]
theorem mSh_at (ζ : zSt) (a b : Nat) : ∀ k, (mSh ζ k).1 a b = if a = 66 ∧ b < k then ζ.1 66 (b + 15) else ζ.1 a b
  | 0 => by rw [if_neg (by omega)]; rfl
  | k + 1 => by
    show (if a = 66 ∧ b = k then (mSh ζ k).1 66 (k + 15) else (mSh ζ k).1 a b) = _
    rw [show (mSh ζ k).1 66 (k + 15) = ζ.1 66 (k + 15) from by rw [mSh_at ζ 66 (k + 15) k]; exact if_neg (by omega), mSh_at ζ a b k]
    by_cases h1 : a = 66 ∧ b = k
    · rw [if_pos h1, if_pos (by omega), h1.2]
    · rw [if_neg h1]
      by_cases h2 : a = 66 ∧ b < k
      · rw [if_pos h2, if_pos (by omega)]
      · rw [if_neg h2, if_neg (by omega)]
theorem mLay_l (ζ : zSt) (c i : Nat) : ∀ n, (mLay ζ c i n).2 = ζ.2
  | 0 => rfl
  | n + 1 => mLay_l ζ c i n
theorem mTak_l (ζ : zSt) (c i : Nat) : ∀ n, (mTak ζ c i n).2 = ζ.2
  | 0 => rfl
  | n + 1 => mTak_l ζ c i n
theorem mSh_l (ζ : zSt) : ∀ n, (mSh ζ n).2 = ζ.2
  | 0 => rfl
  | n + 1 => mSh_l ζ n
theorem cpO_l (ζ : zSt) (d o s : Nat) : ∀ n, (cpO ζ d o s n).2 = ζ.2
  | 0 => rfl
  | n + 1 => cpO_l ζ d o s n
theorem cpI_l (ζ : zSt) (d o s : Nat) : ∀ n, (cpI ζ d o s n).2 = ζ.2
  | 0 => rfl
  | n + 1 => cpI_l ζ d o s n
theorem nO_l (ζ : zSt) (i : Nat) : ∀ n, (nO ζ i n).2 = ζ.2
  | 0 => rfl
  | n + 1 => nO_l ζ i n
theorem nI'_l (ζ : zSt) (i : Nat) : ∀ n, (nI' ζ i n).2 = ζ.2
  | 0 => rfl
  | n + 1 => nI'_l ζ i n
/-- the past behind one more step -/
def shQ (Q : Nat → Int) (s b : Nat) : Int := if s < 8 then Q b else if b < 105 then Q (b + 15) else Q b
def kk (s : Nat) : Nat := if s < 8 then s else 7
def pQ (Q S P D : Nat → Int) (k b : Nat) : Int := if 15 * k ≤ b ∧ b < 15 * k + 5 then S (b - 15 * k) else if 15 * k + 5 ≤ b ∧ b < 15 * k + 5 + 5 then P (b - (15 * k + 5)) else if 15 * k + 10 ≤ b ∧ b < 15 * k + 10 + 5 then D (b - (15 * k + 10)) else Q b
theorem rmS_at (ζ : zSt) (s a b : Nat) : (rmS ζ s).1 a b = if a = 1 ∧ b = 11 then (s : Int) + 1 else if a = 9 then pQ (ζ.1 9) (ζ.1 7) (ζ.1 5) (ζ.1 6) s b else ζ.1 a b := by
  unfold rmS
  rw [zU_at]
  by_cases h : a = 1 ∧ b = 11
  · rw [if_pos h, if_pos h]
  · rw [if_neg h, if_neg h]
    by_cases h9 : a = 9
    · subst h9
      rw [if_pos rfl]
      unfold pQ
      simp only [zCp_at, Nat.reduceEqDiff, reduceIte, Nat.zero_add]
      by_cases k3 : 15 * s + 10 ≤ b ∧ b < 15 * s + 10 + 5
      · have k1 : ¬ (15 * s ≤ b ∧ b < 15 * s + 5) := by omega
        have k2 : ¬ (15 * s + 5 ≤ b ∧ b < 15 * s + 5 + 5) := by omega
        simp only [if_pos k3, if_neg k1, if_neg k2]
      · by_cases k2 : 15 * s + 5 ≤ b ∧ b < 15 * s + 5 + 5
        · have k1 : ¬ (15 * s ≤ b ∧ b < 15 * s + 5) := by omega
          simp only [if_neg k3, if_pos k2, if_neg k1]
        · simp only [if_neg k3, if_neg k2]
    · rw [if_neg h9]
      simp only [zCp_at, if_neg h9]
theorem rem_at (ζ : zSt) (s a b : Nat) (hs : s ≤ 8) : (rem ζ s).1 a b = if a = 1 ∧ b = 11 then (kk s : Int) + 1 else if a = 9 then pQ (shQ (ζ.1 9) s) (ζ.1 7) (ζ.1 5) (ζ.1 6) (kk s) b else ζ.1 a b := by
  unfold rem kk
  by_cases h8 : s < 8
  · rw [if_pos h8, if_pos h8, rmS_at]
    have e : shQ (ζ.1 9) s = ζ.1 9 := by funext b; unfold shQ; rw [if_pos h8]
    rw [e]
  · rw [if_neg h8, if_neg h8, rmS_at]
    by_cases h : a = 1 ∧ b = 11
    · rw [if_pos h, if_pos h]
    · rw [if_neg h, if_neg h]
      by_cases h9 : a = 9
      · rw [if_pos h9, if_pos h9]
        congr 1
        funext b
        unfold shQ
        rw [if_neg h8]
        simp only [zU_at, zCp_at, Nat.reduceEqDiff, reduceIte, false_and, Nat.zero_le, true_and, Nat.sub_zero, Nat.zero_add]
        by_cases hb : b < 105
        · rw [if_pos hb, if_pos hb, Nat.add_comm]
        · rw [if_neg hb, if_neg hb]
      · rw [if_neg h9, if_neg h9, zU_at, if_neg h, zCp_at, if_neg h9]
theorem mNt_at (ζ : zSt) (s a b : Nat) : (mNt ζ s).1 a b = if a = 52 ∧ b = 24 then (s : Int) + 1 else if a = 66 then pQ (ζ.1 66) (ζ.1 58) (ζ.1 56) (ζ.1 57) s b else ζ.1 a b := by
  unfold mNt
  rw [zU_at]
  by_cases h : a = 52 ∧ b = 24
  · rw [if_pos h, if_pos h]
  · rw [if_neg h, if_neg h, mLay_at ζ (15 * s) (by decide) (by decide) (by decide) a b 5 (by decide)]
    by_cases h9 : a = 66
    · subst h9
      rw [if_pos rfl]
      unfold pQ
      simp only [true_and]
    · rw [if_neg (fun q => h9 q.1), if_neg (fun q => h9 q.1), if_neg (fun q => h9 q.1), if_neg h9]
theorem mRem_at (ζ : zSt) (s a b : Nat) (hs : s ≤ 8) : (mRem ζ s).1 a b = if a = 52 ∧ b = 24 then (kk s : Int) + 1 else if a = 66 then pQ (shQ (ζ.1 66) s) (ζ.1 58) (ζ.1 56) (ζ.1 57) (kk s) b else ζ.1 a b := by
  unfold mRem kk
  by_cases h8 : s < 8
  · rw [if_pos h8, if_pos h8, mNt_at]
    have e : shQ (ζ.1 66) s = ζ.1 66 := by funext b; unfold shQ; rw [if_pos h8]
    rw [e]
  · rw [if_neg h8, if_neg h8, mNt_at]
    have r : ∀ c j, (zU (mSh ζ 105) 52 24 7).1 c j = if c = 52 ∧ j = 24 then 7 else if c = 66 ∧ j < 105 then ζ.1 66 (j + 15) else ζ.1 c j := fun c j => by rw [zU_at, mSh_at]
    have r58 : (zU (mSh ζ 105) 52 24 7).1 58 = ζ.1 58 := by funext j; rw [r, if_neg (by omega), if_neg (by omega)]
    have r56 : (zU (mSh ζ 105) 52 24 7).1 56 = ζ.1 56 := by funext j; rw [r, if_neg (by omega), if_neg (by omega)]
    have r57 : (zU (mSh ζ 105) 52 24 7).1 57 = ζ.1 57 := by funext j; rw [r, if_neg (by omega), if_neg (by omega)]
    have r66 : (zU (mSh ζ 105) 52 24 7).1 66 = shQ (ζ.1 66) s := by
      funext j
      unfold shQ
      rw [r, if_neg (by omega), if_neg h8]
      by_cases hj : j < 105
      · rw [if_pos ⟨rfl, hj⟩, if_pos hj]
      · rw [if_neg (fun q => hj q.2), if_neg hj]
    rw [r58, r56, r57, r66]
    by_cases h : a = 52 ∧ b = 24
    · rw [if_pos h, if_pos h]
    · rw [if_neg h, if_neg h]
      by_cases h9 : a = 66
      · rw [if_pos h9, if_pos h9]
      · rw [if_neg h9, if_neg h9, r, if_neg h, if_neg (fun q => h9 q.1)]
theorem mRem_l (ζ : zSt) (s : Nat) : (mRem ζ s).2 = ζ.2 := by
  unfold mRem mNt
  split
  · exact mLay_l ζ 66 (15 * s) 5
  · rw [zU_l, mLay_l, zU_l, mSh_l]
theorem rem_l (ζ : zSt) (s : Nat) : (rem ζ s).2 = ζ.2 := by
  unfold rem
  split <;> rfl
/-- the steps kept are as they were, the newest one is what was there -/
theorem past_ok {Q S P D Q' S' P' D' : Nat → Int} {n s : Nat} (hn : n ≤ 5) (hs : s ≤ 8) (hT : tOk S P D n) (hE : tEq S' P' D' S P D n)
    (h : ∀ i, i < s → tOk (fun p => Q (15 * i + p)) (fun p => Q (15 * i + 5 + p)) (fun p => Q (15 * i + 10 + p)) n ∧ tEq (fun p => Q' (15 * i + p)) (fun p => Q' (15 * i + 5 + p)) (fun p => Q' (15 * i + 10 + p)) (fun p => Q (15 * i + p)) (fun p => Q (15 * i + 5 + p)) (fun p => Q (15 * i + 10 + p)) n) :
    ∀ i, i < kk s + 1 → tOk (fun p => pQ (shQ Q s) S P D (kk s) (15 * i + p)) (fun p => pQ (shQ Q s) S P D (kk s) (15 * i + 5 + p)) (fun p => pQ (shQ Q s) S P D (kk s) (15 * i + 10 + p)) n ∧ tEq (fun p => pQ (shQ Q' s) S' P' D' (kk s) (15 * i + p)) (fun p => pQ (shQ Q' s) S' P' D' (kk s) (15 * i + 5 + p)) (fun p => pQ (shQ Q' s) S' P' D' (kk s) (15 * i + 10 + p)) (fun p => pQ (shQ Q s) S P D (kk s) (15 * i + p)) (fun p => pQ (shQ Q s) S P D (kk s) (15 * i + 5 + p)) (fun p => pQ (shQ Q s) S P D (kk s) (15 * i + 10 + p)) n := by
  intro i hi
  by_cases e : i = kk s
  · subst e
    have q : ∀ (Q S P D : Nat → Int) (p : Nat), p < n → pQ (shQ Q s) S P D (kk s) (15 * kk s + p) = S p ∧ pQ (shQ Q s) S P D (kk s) (15 * kk s + 5 + p) = P p ∧ pQ (shQ Q s) S P D (kk s) (15 * kk s + 10 + p) = D p := by
      intro Q S P D p hp
      unfold pQ
      refine ⟨?_, ?_, ?_⟩
      · rw [if_pos (by omega), show 15 * kk s + p - 15 * kk s = p by omega]
      · rw [if_neg (by omega), if_pos (by omega), show 15 * kk s + 5 + p - (15 * kk s + 5) = p by omega]
      · rw [if_neg (by omega), if_neg (by omega), if_pos (by omega), show 15 * kk s + 10 + p - (15 * kk s + 10) = p by omega]
    refine ⟨⟨fun p hp => ?_, fun p p2 hp hp2 => ?_⟩, fun p hp => ?_⟩
    · obtain ⟨a, b, c⟩ := q Q S P D p hp
      simp only [a, b, c]; exact hT.1 p hp
    · simp only [(q Q S P D p hp).1, (q Q S P D p2 hp2).1]; exact hT.2 p p2 hp hp2
    · obtain ⟨a, b, c⟩ := q Q S P D p hp
      obtain ⟨a', b', c'⟩ := q Q' S' P' D' p hp
      simp only [a, b, c, a', b', c']; exact hE p hp
  · have hik : i < kk s := by omega
    have hks : kk s ≤ 7 := by unfold kk; split <;> omega
    obtain ⟨j, hj, ej⟩ : ∃ j, j < s ∧ ∀ (Q S P D : Nat → Int) (x : Nat), x < 15 → pQ (shQ Q s) S P D (kk s) (15 * i + x) = Q (15 * j + x) := by
      by_cases h8 : s < 8
      · refine ⟨i, by unfold kk at hik; rw [if_pos h8] at hik; exact hik, fun Q S P D x hx => ?_⟩
        unfold pQ
        rw [if_neg (by omega), if_neg (by omega), if_neg (by omega)]
        unfold shQ
        rw [if_pos h8]
      · refine ⟨i + 1, by unfold kk at hik; rw [if_neg h8] at hik; omega, fun Q S P D x hx => ?_⟩
        unfold pQ
        rw [if_neg (by omega), if_neg (by omega), if_neg (by omega)]
        unfold shQ
        rw [if_neg h8, if_pos (by unfold kk at hik; rw [if_neg h8] at hik; omega), show 15 * i + x + 15 = 15 * (i + 1) + x by omega]
    have hh := h j hj
    have q : ∀ (Q S P D : Nat → Int) (p : Nat), p < n → pQ (shQ Q s) S P D (kk s) (15 * i + p) = Q (15 * j + p) ∧ pQ (shQ Q s) S P D (kk s) (15 * i + 5 + p) = Q (15 * j + 5 + p) ∧ pQ (shQ Q s) S P D (kk s) (15 * i + 10 + p) = Q (15 * j + 10 + p) := by
      intro Q S P D p hp
      refine ⟨ej Q S P D p (by omega), ?_, ?_⟩
      · have := ej Q S P D (5 + p) (by omega)
        rw [← Nat.add_assoc, ← Nat.add_assoc] at this; exact this
      · have := ej Q S P D (10 + p) (by omega)
        rw [← Nat.add_assoc, ← Nat.add_assoc] at this; exact this
    refine ⟨⟨fun p hp => ?_, fun p p2 hp hp2 => ?_⟩, fun p hp => ?_⟩
    · obtain ⟨a, b, c⟩ := q Q S P D p hp
      simp only [a, b, c]; exact hh.1.1 p hp
    · simp only [(q Q S P D p hp).1, (q Q S P D p2 hp2).1]; exact hh.1.2 p p2 hp hp2
    · obtain ⟨a, b, c⟩ := q Q S P D p hp
      obtain ⟨a', b', c'⟩ := q Q' S' P' D' p hp
      simp only [a, b, c, a', b', c']; exact hh.2 p hp
