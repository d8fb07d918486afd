/-! a step of both, 4: undo, image, from -/
theorem tOk_cg {S P D S' P' D' : Nat → Int} {n : Nat} (h : tOk S P D n) (e : ∀ p, p < n → S' p = S p ∧ P' p = P p ∧ D' p = D p) : tOk S' P' D' n := by
  refine ⟨fun p hp => ?_, fun p q hp hq => ?_⟩
  · obtain ⟨a, b, c⟩ := e p hp
    rw [a, b, c]; exact h.1 p hp
  · rw [(e p hp).1, (e q hq).1]; exact h.2 p q hp hq
theorem tEq_cg {S P D S' P' D' T1 T2 T3 U1 U2 U3 : Nat → Int} {n : Nat} (h : tEq S' P' D' S P D n) (e : ∀ p, p < n → T1 p = S p ∧ T2 p = P p ∧ T3 p = D p) (e' : ∀ p, p < n → U1 p = S' p ∧ U2 p = P' p ∧ U3 p = D' p) : tEq U1 U2 U3 T1 T2 T3 n := fun p hp => by
  obtain ⟨a, b, c⟩ := e p hp
  obtain ⟨a', b', c'⟩ := e' p hp
  rw [a, b, c, a', b', c']; exact h p hp
theorem free_cg {V W : Nat → Nat → Int} : ∀ k, (∀ p, p < k → W 5 p = V 5 p) → sFree W k = sFree V k
  | 0, _ => rfl
  | k + 1, h => by
    unfold sFree
    rw [h k (by omega), free_cg k (fun p hp => h p (by omega))]
/-- an image's picture, looked at through other functions that agree where it looks -/
theorem Snp_cg {n c s : Nat} {tr dk tr' dk' : Int} {H K Hd P D S N Q H' K' P' D' S' N0 N1 N2 N3 Q' : Nat → Int} (h : Snp n c s tr dk H K Hd P D S N Q tr' dk' H' K' P' D' S' N0 N1 N2 N3 Q')
    {ur uk ur' uk' : Int} {uH uK uHd uP uD uS uN uQ uH' uK' uP' uD' uS' u0 u1 u2 u3 uQ' : Nat → Int}
    (et : ur = tr ∧ uk = dk ∧ ur' = tr' ∧ uk' = dk') (eH : ∀ y, y < 8 → uH y = H y ∧ uH' y = H' y) (eK : ∀ p, p < 5 → uK p = K p ∧ uHd p = Hd p ∧ uK' p = K' p)
    (eS : ∀ p, p < 5 → uS p = S p ∧ uP p = P p ∧ uD p = D p) (eS' : ∀ p, p < 5 → uS' p = S' p ∧ uP' p = P' p ∧ uD' p = D' p) (eN : ∀ i, i < 24 → uN i = N i) (eM : ∀ i, i < 6 → u0 i = N0 i ∧ u1 i = N1 i ∧ u2 i = N2 i ∧ u3 i = N3 i)
    (eQ : ∀ i, i < 120 → uQ i = Q i) (eQ' : ∀ i, i < 120 → uQ' i = Q' i) : Snp n c s ur uk uH uK uHd uP uD uS uN uQ ur' uk' uH' uK' uP' uD' uS' u0 u1 u2 u3 uQ' := by
  obtain ⟨⟨h1, h2, h3⟩, b1, b2, b3, ⟨b4, b4'⟩, b5, b6⟩ := h
  obtain ⟨t1, t2, t3, t4⟩ := et
  refine ⟨⟨h1, h2, h3⟩, ?_, fun y hy => ?_, fun p hp => ?_, ⟨tOk_cg b4 (fun p hp => eS p (by omega)), tEq_cg b4' (fun p hp => eS p (by omega)) (fun p hp => eS' p (by omega))⟩, fun i hi => ?_, fun i hi => ⟨tOk_cg (b6 i hi).1 (fun p hp => ?_), tEq_cg (b6 i hi).2 (fun p hp => ?_) (fun p hp => ?_)⟩⟩
  · rw [t1, t2, t3, t4]; exact b1
  · obtain ⟨a, b⟩ := eH y hy
    rw [a, b]; exact b2 y hy
  · obtain ⟨a, b, d⟩ := eK p (by omega)
    rw [a, b, d]; exact b3 p hp
  · obtain ⟨a, b, d, e⟩ := eM i (by omega)
    rw [eN (4 * i) (by omega), eN (4 * i + 1) (by omega), eN (4 * i + 2) (by omega), eN (4 * i + 3) (by omega), a, b, d, e]; exact b5 i hi
  · exact ⟨eQ _ (by omega), eQ _ (by omega), eQ _ (by omega)⟩
  · exact ⟨eQ _ (by omega), eQ _ (by omega), eQ _ (by omega)⟩
  · exact ⟨eQ' _ (by omega), eQ' _ (by omega), eQ' _ (by omega)⟩
theorem sbS_at (ζ : zSt) (s a b : Nat) : (sbS ζ s).1 a b = if a = 7 ∧ b < 5 then ζ.1 9 (15 * s + b) else if a = 5 ∧ b < 5 then ζ.1 9 (15 * s + 5 + b) else if a = 6 ∧ b < 5 then ζ.1 9 (15 * s + 10 + b) else if a = 1 ∧ b = 11 then (s : Int) else ζ.1 a b := by
  unfold sbS
  simp only [zCp_at, zU_at, Nat.zero_le, true_and, Nat.zero_add, Nat.sub_zero]
  by_cases h6 : a = 6
  · subst h6; simp
  · by_cases h5 : a = 5
    · subst h5; simp
    · by_cases h7 : a = 7
      · subst h7; simp
      · simp [h5, h6, h7]
theorem cpS_off (ζ : zSt) {h g a : Nat} (ha : a < h ∨ h + 8 < a) : (cpS ζ h g).1 a = ζ.1 a := by
  unfold cpS
  rw [zCp_row, if_neg (by omega), zU_row, if_neg (by omega), zCp_row, if_neg (by omega), zU_row, if_neg (by omega), zCp_row, if_neg (by omega), zCp_row, if_neg (by omega), zCp_row, if_neg (by omega), zCp_row, if_neg (by omega), zCp_row, if_neg (by omega), zU_row, if_neg (by omega), zCp_row, if_neg (by omega), zU_row, if_neg (by omega), zU_row, if_neg (by omega)]
theorem cpS_l (ζ : zSt) (h g : Nat) : (cpS ζ h g).2 = ζ.2 := rfl
/-- what a copied hill's cells hold -/
def CpR (ζ η : zSt) (h g : Nat) : Prop := (η.1 h 0 = ζ.1 g 0 ∧ η.1 h 1 = ζ.1 g 1 ∧ η.1 h 3 = ζ.1 g 3 ∧ η.1 h 9 = ζ.1 g 9 ∧ η.1 h 11 = ζ.1 g 11) ∧ (∀ b, b < 8 → η.1 (h + 1) b = ζ.1 (g + 1) b) ∧ (∀ b, b < 5 → η.1 (h + 2) b = ζ.1 (g + 2) b ∧ η.1 (h + 3) b = ζ.1 (g + 3) b ∧ η.1 (h + 4) b = ζ.1 (g + 4) b ∧ η.1 (h + 5) b = ζ.1 (g + 5) b ∧ η.1 (h + 6) b = ζ.1 (g + 6) b) ∧ (∀ b, b < 24 → η.1 (h + 7) b = ζ.1 (g + 7) b) ∧ ∀ b, b < 120 → η.1 (h + 8) b = ζ.1 (g + 8) b
theorem zcp_lt {f g : Nat → Int} {n b : Nat} (h : b < n) : (if 0 ≤ b ∧ b < 0 + n then f (0 + (b - 0)) else g b) = f b := by
  rw [if_pos ⟨Nat.zero_le _, by omega⟩, Nat.zero_add, Nat.sub_zero]
theorem cpS_20_1 (ζ : zSt) : CpR ζ (cpS ζ 20 1) 20 1 := ⟨⟨rfl, rfl, rfl, rfl, rfl⟩, fun _ hb => zcp_lt hb, fun _ hb => ⟨zcp_lt hb, zcp_lt hb, zcp_lt hb, zcp_lt hb, zcp_lt hb⟩, fun _ hb => zcp_lt hb, fun _ hb => zcp_lt hb⟩
theorem cpS_29_1 (ζ : zSt) : CpR ζ (cpS ζ 29 1) 29 1 := ⟨⟨rfl, rfl, rfl, rfl, rfl⟩, fun _ hb => zcp_lt hb, fun _ hb => ⟨zcp_lt hb, zcp_lt hb, zcp_lt hb, zcp_lt hb, zcp_lt hb⟩, fun _ hb => zcp_lt hb, fun _ hb => zcp_lt hb⟩
theorem cpS_1_20 (ζ : zSt) : CpR ζ (cpS ζ 1 20) 1 20 := ⟨⟨rfl, rfl, rfl, rfl, rfl⟩, fun _ hb => zcp_lt hb, fun _ hb => ⟨zcp_lt hb, zcp_lt hb, zcp_lt hb, zcp_lt hb, zcp_lt hb⟩, fun _ hb => zcp_lt hb, fun _ hb => zcp_lt hb⟩
theorem cpS_1_29 (ζ : zSt) : CpR ζ (cpS ζ 1 29) 1 29 := ⟨⟨rfl, rfl, rfl, rfl, rfl⟩, fun _ hb => zcp_lt hb, fun _ hb => ⟨zcp_lt hb, zcp_lt hb, zcp_lt hb, zcp_lt hb, zcp_lt hb⟩, fun _ hb => zcp_lt hb, fun _ hb => zcp_lt hb⟩
theorem cpS_1_10 (ζ : zSt) : CpR ζ (cpS ζ 1 10) 1 10 := ⟨⟨rfl, rfl, rfl, rfl, rfl⟩, fun _ hb => zcp_lt hb, fun _ hb => ⟨zcp_lt hb, zcp_lt hb, zcp_lt hb, zcp_lt hb, zcp_lt hb⟩, fun _ hb => zcp_lt hb, fun _ hb => zcp_lt hb⟩
/-- the notes laid out -/
theorem nO_off (ζ : zSt) (i : Nat) {a : Nat} (h : a ≠ 69) (b : Nat) : ∀ n, (nO ζ i n).1 a b = ζ.1 a b
  | 0 => rfl
  | n + 1 => by
    unfold nO
    rw [zU_at, if_neg (fun q => h q.1), zU_at, if_neg (fun q => h q.1), zU_at, if_neg (fun q => h q.1), zU_at, if_neg (fun q => h q.1), nO_off ζ i h b n]
theorem nO_at (ζ : zSt) (i b : Nat) : ∀ n, n ≤ 6 → (nO ζ i n).1 69 b = if i + 33 ≤ b ∧ b < i + 33 + n then ζ.1 59 (b - (i + 33)) else if i + 39 ≤ b ∧ b < i + 39 + n then ζ.1 60 (b - (i + 39)) else if i + 45 ≤ b ∧ b < i + 45 + n then ζ.1 61 (b - (i + 45)) else if i + 51 ≤ b ∧ b < i + 51 + n then ζ.1 62 (b - (i + 51)) else ζ.1 69 b
  | 0, _ => by rw [if_neg (by omega), if_neg (by omega), if_neg (by omega), if_neg (by omega)]; rfl
  | n + 1, hn => by
    unfold nO
    rw [zU_at, zU_at, zU_at, zU_at, nO_off ζ i (by decide) n n, nO_off ζ i (by decide) n n, nO_off ζ i (by decide) n n, nO_off ζ i (by decide) n n, nO_at ζ i b n (by omega)]
    by_cases g1 : b = i + 51 + n
    · rw [if_pos ⟨rfl, g1⟩, if_neg (by omega), if_neg (by omega), if_neg (by omega), if_pos (by omega), show b - (i + 51) = n by omega]
    · rw [if_neg (fun q => g1 q.2)]
      by_cases g2 : b = i + 45 + n
      · rw [if_pos ⟨rfl, g2⟩, if_neg (by omega), if_neg (by omega), if_pos (by omega), show b - (i + 45) = n by omega]
      · rw [if_neg (fun q => g2 q.2)]
        by_cases g3 : b = i + 39 + n
        · rw [if_pos ⟨rfl, g3⟩, if_neg (by omega), if_pos (by omega), show b - (i + 39) = n by omega]
        · rw [if_neg (fun q => g3 q.2)]
          by_cases g4 : b = i + 33 + n
          · rw [if_pos ⟨rfl, g4⟩, if_pos (by omega), show b - (i + 33) = n by omega]
          · rw [if_neg (fun q => g4 q.2)]
            by_cases k1 : i + 33 ≤ b ∧ b < i + 33 + n
            · rw [if_pos k1, if_pos (by omega)]
            · rw [if_neg k1, if_neg (c := i + 33 ≤ b ∧ b < i + 33 + (n + 1)) (by omega)]
              by_cases k2 : i + 39 ≤ b ∧ b < i + 39 + n
              · rw [if_pos k2, if_pos (by omega)]
              · rw [if_neg k2, if_neg (c := i + 39 ≤ b ∧ b < i + 39 + (n + 1)) (by omega)]
                by_cases k3 : i + 45 ≤ b ∧ b < i + 45 + n
                · rw [if_pos k3, if_pos (by omega)]
                · rw [if_neg k3, if_neg (c := i + 45 ≤ b ∧ b < i + 45 + (n + 1)) (by omega)]
                  by_cases k4 : i + 51 ≤ b ∧ b < i + 51 + n
                  · rw [if_pos k4, if_pos (by omega)]
                  · rw [if_neg k4, if_neg (by omega)]
theorem nI'_at (ζ : zSt) (i a b : Nat) : ∀ n, (nI' ζ i n).1 a b = if a = 59 ∧ b < n then ζ.1 69 (i + 33 + b) else if a = 60 ∧ b < n then ζ.1 69 (i + 39 + b) else if a = 61 ∧ b < n then ζ.1 69 (i + 45 + b) else if a = 62 ∧ b < n then ζ.1 69 (i + 51 + b) else ζ.1 a b
  | 0 => by rw [if_neg (by omega), if_neg (by omega), if_neg (by omega), if_neg (by omega)]; rfl
  | n + 1 => by
    have off : ∀ j, (nI' ζ i n).1 69 j = ζ.1 69 j := fun j => by
      rw [nI'_at ζ i 69 j n, if_neg (by omega), if_neg (by omega), if_neg (by omega), if_neg (by omega)]
    unfold nI'
    rw [zU_at, zU_at, zU_at, zU_at, off, off, off, off, nI'_at ζ i a b n]
    by_cases g1 : a = 62 ∧ b = n
    · rw [if_pos g1, if_neg (by omega), if_neg (by omega), if_neg (by omega), if_pos (by omega), g1.2]
    · rw [if_neg g1]
      by_cases g2 : a = 61 ∧ b = n
      · rw [if_pos g2, if_neg (by omega), if_neg (by omega), if_pos (by omega), g2.2]
      · rw [if_neg g2]
        by_cases g3 : a = 60 ∧ b = n
        · rw [if_pos g3, if_neg (by omega), if_pos (by omega), g3.2]
        · rw [if_neg g3]
          by_cases g4 : a = 59 ∧ b = n
          · rw [if_pos g4, if_pos (by omega), g4.2]
          · rw [if_neg g4]
            by_cases k1 : a = 59 ∧ b < n
            · rw [if_pos k1, if_pos (by omega)]
            · rw [if_neg k1, if_neg (c := a = 59 ∧ b < n + 1) (by omega)]
              by_cases k2 : a = 60 ∧ b < n
              · rw [if_pos k2, if_pos (by omega)]
              · rw [if_neg k2, if_neg (c := a = 60 ∧ b < n + 1) (by omega)]
                by_cases k3 : a = 61 ∧ b < n
                · rw [if_pos k3, if_pos (by omega)]
                · rw [if_neg k3, if_neg (c := a = 61 ∧ b < n + 1) (by omega)]
                  by_cases k4 : a = 62 ∧ b < n
                  · rw [if_pos k4, if_pos (by omega)]
                  · rw [if_neg k4, if_neg (by omega)]
theorem mIm1_at (ζ : zSt) (i a b : Nat) : (mIm1 ζ i).1 a b = if a = 69 ∧ b = 190 * i + 4 then ζ.1 52 24 else if a = 69 ∧ b = 190 * i + 3 then ζ.1 52 4 else if a = 69 ∧ b = 190 * i + 2 then ζ.1 52 3 else if a = 69 ∧ b = 190 * i + 1 then ζ.1 52 2 else if a = 69 ∧ b = 190 * i then ζ.1 52 1 else if a = 70 ∧ b = i then 1 else ζ.1 a b := rfl
theorem mImg_off (ζ : zSt) (i : Nat) {a : Nat} (h9 : a ≠ 69) (h0 : a ≠ 70) (b : Nat) : (mImg ζ i).1 a b = ζ.1 a b := by
  unfold mImg
  rw [cpO_at _ (by decide), if_neg (fun q => h9 q.1), nO_off _ _ h9, cpO_at _ (by decide), if_neg (fun q => h9 q.1), cpO_at _ (by decide), if_neg (fun q => h9 q.1), mLay_off _ _ _ h9, mIm1_at, if_neg (fun q => h9 q.1), if_neg (fun q => h9 q.1), if_neg (fun q => h9 q.1), if_neg (fun q => h9 q.1), if_neg (fun q => h9 q.1), if_neg (fun q => h0 q.1)]
theorem mImg_70 (ζ : zSt) (i b : Nat) : (mImg ζ i).1 70 b = if b = i then 1 else ζ.1 70 b := by
  unfold mImg
  rw [cpO_at _ (by decide), if_neg (by omega), nO_off _ _ (by decide), cpO_at _ (by decide), if_neg (by omega), cpO_at _ (by decide), if_neg (by omega), mLay_off _ _ _ (by decide), mIm1_at, if_neg (by omega), if_neg (by omega), if_neg (by omega), if_neg (by omega), if_neg (by omega)]
  simp
/-- row 69 behind an image, place by place -/
theorem mImg_69 (ζ : zSt) (i b : Nat) : (mImg ζ i).1 69 b = if 190 * i + 57 ≤ b ∧ b < 190 * i + 57 + 120 then ζ.1 66 (b - (190 * i + 57)) else if 190 * i + 33 ≤ b ∧ b < 190 * i + 33 + 6 then ζ.1 59 (b - (190 * i + 33)) else if 190 * i + 39 ≤ b ∧ b < 190 * i + 39 + 6 then ζ.1 60 (b - (190 * i + 39)) else if 190 * i + 45 ≤ b ∧ b < 190 * i + 45 + 6 then ζ.1 61 (b - (190 * i + 45)) else if 190 * i + 51 ≤ b ∧ b < 190 * i + 51 + 6 then ζ.1 62 (b - (190 * i + 51)) else if 190 * i + 25 ≤ b ∧ b < 190 * i + 25 + 8 then ζ.1 54 (b - (190 * i + 25)) else if 190 * i + 20 ≤ b ∧ b < 190 * i + 20 + 5 then ζ.1 55 (b - (190 * i + 20)) else if 190 * i + 5 ≤ b ∧ b < 190 * i + 5 + 5 then ζ.1 58 (b - (190 * i + 5)) else if 190 * i + 5 + 5 ≤ b ∧ b < 190 * i + 5 + 5 + 5 then ζ.1 56 (b - (190 * i + 5 + 5)) else if 190 * i + 5 + 10 ≤ b ∧ b < 190 * i + 5 + 10 + 5 then ζ.1 57 (b - (190 * i + 5 + 10)) else if b = 190 * i + 4 then ζ.1 52 24 else if b = 190 * i + 3 then ζ.1 52 4 else if b = 190 * i + 2 then ζ.1 52 3 else if b = 190 * i + 1 then ζ.1 52 2 else if b = 190 * i then ζ.1 52 1 else ζ.1 69 b := by
  have m1 : ∀ a b, a ≠ 69 → a ≠ 70 → (mIm1 ζ i).1 a b = ζ.1 a b := fun a b h9 h0 => by
    rw [mIm1_at, if_neg (fun q => h9 q.1), if_neg (fun q => h9 q.1), if_neg (fun q => h9 q.1), if_neg (fun q => h9 q.1), if_neg (fun q => h9 q.1), if_neg (fun q => h0 q.1)]
  have m2 : ∀ a b, a ≠ 69 → a ≠ 70 → (mLay (mIm1 ζ i) 69 (190 * i + 5) 5).1 a b = ζ.1 a b := fun a b h9 h0 => by rw [mLay_off _ _ _ h9, m1 a b h9 h0]
  have m3 : ∀ a b, a ≠ 69 → a ≠ 70 → (cpO (mLay (mIm1 ζ i) 69 (190 * i + 5) 5) 69 (190 * i + 20) 55 5).1 a b = ζ.1 a b := fun a b h9 h0 => by rw [cpO_at _ (by decide), if_neg (fun q => h9 q.1), m2 a b h9 h0]
  have m4 : ∀ a b, a ≠ 69 → a ≠ 70 → (cpO (cpO (mLay (mIm1 ζ i) 69 (190 * i + 5) 5) 69 (190 * i + 20) 55 5) 69 (190 * i + 25) 54 8).1 a b = ζ.1 a b := fun a b h9 h0 => by rw [cpO_at _ (by decide), if_neg (fun q => h9 q.1), m3 a b h9 h0]
  unfold mImg
  rw [cpO_at _ (by decide), nO_off _ _ (by decide), m4 _ _ (by decide) (by decide), nO_at _ _ _ _ (by decide), m4 _ _ (by decide) (by decide), m4 _ _ (by decide) (by decide), m4 _ _ (by decide) (by decide), m4 _ _ (by decide) (by decide), cpO_at _ (by decide), m3 _ _ (by decide) (by decide), cpO_at _ (by decide), m2 _ _ (by decide) (by decide), mLay_at _ _ (by decide) (by decide) (by decide) _ _ _ (by decide), m1 _ _ (by decide) (by decide), m1 _ _ (by decide) (by decide), m1 _ _ (by decide) (by decide), mIm1_at]
  simp only [true_and, Nat.reduceEqDiff, false_and, reduceIte]
theorem mImg_l (ζ : zSt) (i : Nat) : (mImg ζ i).2 = ζ.2 := by
  unfold mImg
  rw [cpO_l, nO_l, cpO_l, cpO_l, mLay_l]; rfl
theorem mFr1_at (ζ : zSt) (i a b : Nat) : (mFr1 ζ i).1 a b = if a = 52 ∧ b = 24 then ζ.1 69 (190 * i + 4) else if a = 52 ∧ b = 4 then ζ.1 69 (190 * i + 3) else if a = 52 ∧ b = 3 then ζ.1 69 (190 * i + 2) else if a = 52 ∧ b = 2 then ζ.1 69 (190 * i + 1) else if a = 52 ∧ b = 1 then ζ.1 69 (190 * i) else ζ.1 a b := rfl
theorem mFro_at (ζ : zSt) (i a b : Nat) : (mFro ζ i).1 a b = if a = 66 ∧ b < 120 then ζ.1 69 (190 * i + 57 + b) else if a = 59 ∧ b < 6 then ζ.1 69 (190 * i + 33 + b) else if a = 60 ∧ b < 6 then ζ.1 69 (190 * i + 39 + b) else if a = 61 ∧ b < 6 then ζ.1 69 (190 * i + 45 + b) else if a = 62 ∧ b < 6 then ζ.1 69 (190 * i + 51 + b) else if a = 54 ∧ b < 8 then ζ.1 69 (190 * i + 25 + b) else if a = 55 ∧ b < 5 then ζ.1 69 (190 * i + 20 + b) else if a = 58 ∧ b < 5 then ζ.1 69 (190 * i + 5 + b) else if a = 56 ∧ b < 5 then ζ.1 69 (190 * i + 5 + 5 + b) else if a = 57 ∧ b < 5 then ζ.1 69 (190 * i + 5 + 10 + b) else (mFr1 ζ i).1 a b := by
  have m1 : ∀ b, (mFr1 ζ i).1 69 b = ζ.1 69 b := fun b => by
    rw [mFr1_at, if_neg (by omega), if_neg (by omega), if_neg (by omega), if_neg (by omega), if_neg (by omega)]
  have m2 : ∀ b, (mTak (mFr1 ζ i) 69 (190 * i + 5) 5).1 69 b = ζ.1 69 b := fun b => by
    rw [mTak_at _ _ (by decide) (by decide) (by decide), if_neg (by omega), if_neg (by omega), if_neg (by omega), m1]
  have m3 : ∀ b, (cpI (mTak (mFr1 ζ i) 69 (190 * i + 5) 5) 55 69 (190 * i + 20) 5).1 69 b = ζ.1 69 b := fun b => by
    rw [cpI_at _ (by decide), if_neg (by omega), m2]
  have m4 : ∀ b, (cpI (cpI (mTak (mFr1 ζ i) 69 (190 * i + 5) 5) 55 69 (190 * i + 20) 5) 54 69 (190 * i + 25) 8).1 69 b = ζ.1 69 b := fun b => by
    rw [cpI_at _ (by decide), if_neg (by omega), m3]
  have m5 : ∀ b, (nI' (cpI (cpI (mTak (mFr1 ζ i) 69 (190 * i + 5) 5) 55 69 (190 * i + 20) 5) 54 69 (190 * i + 25) 8) (190 * i) 6).1 69 b = ζ.1 69 b := fun b => by
    rw [nI'_at, if_neg (by omega), if_neg (by omega), if_neg (by omega), if_neg (by omega), m4]
  unfold mFro
  rw [cpI_at _ (by decide), m5, nI'_at, m4, m4, m4, m4, cpI_at _ (by decide), m3, cpI_at _ (by decide), m2, mTak_at _ _ (by decide) (by decide) (by decide), m1, m1, m1]
theorem mFro_l (ζ : zSt) (i : Nat) : (mFro ζ i).2 = ζ.2 := by
  unfold mFro
  rw [cpI_l, nI'_l, cpI_l, cpI_l, mTak_l]; rfl
section ST4
variable {l : Launch} {B : eB} {ζ : zSt}
theorem st_undo (hR : Rel ζ) : eStep l B mX6_undo mX7_undo [] ζ := by
  obtain ⟨n, c, s, hN⟩ := hR.1
  match s, hN with
  | 0, hN => exact ⟨_, _, _, run_X6_undo_no (by have := hN.1.2.2.1; omega), run_X7_undo_no (ζ := noS ζ) (by have h : (noS ζ).1 52 24 = ζ.1 52 24 := rfl; have := hN.1.2.2.2.2.2; omega), rel_no hR⟩
  | s + 1, hN =>
    obtain ⟨⟨e1, e2, e3, e4, e5, e6⟩, ⟨h1, h2', h3⟩, b1, b2, b3, ⟨b4, b4'⟩, b5, b6⟩ := hN
    have hs : s < 8 := by omega
    have q5 : ∀ p, p < n → (sbS ζ s).1 5 p = ζ.1 9 (15 * s + 5 + p) ∧ (sbS ζ s).1 6 p = ζ.1 9 (15 * s + 10 + p) ∧ (sbS ζ s).1 7 p = ζ.1 9 (15 * s + p) := fun p hp => by
      refine ⟨?_, ?_, ?_⟩
      · rw [sbS_at, if_neg (by omega), if_pos (by omega)]
      · rw [sbS_at, if_neg (by omega), if_neg (by omega), if_pos (by omega)]
      · rw [sbS_at, if_pos (by omega)]
    obtain ⟨t1, t2⟩ := b6 s (by omega)
    have hc : cOk (sbS ζ s) n := ⟨⟨h1, b1.1, b1.2.1, fun y hy => (b2 y hy).1, fun p hp => ⟨(b3 p hp).1, by
      show 0 ≤ (sbS ζ s).1 5 p ∧ (sbS ζ s).1 5 p ≤ 500
      rw [(q5 p hp).1]; have := t1.1 p hp; simp only at this; omega, by
      show 0 ≤ (sbS ζ s).1 6 p ∧ (sbS ζ s).1 6 p ≤ 500
      rw [(q5 p hp).2.1]; have := t1.1 p hp; simp only at this; omega, by
      show -1 ≤ (sbS ζ s).1 7 p ∧ (sbS ζ s).1 7 p ≤ 7
      rw [(q5 p hp).2.2]; exact (t1.1 p hp).1⟩⟩, e1, fun p hp => (b3 p hp).2.1⟩
    have r : ∀ a b, (mTak (zU (sbS ζ s) 52 24 s) 66 (15 * s) 5).1 a b = if a = 58 ∧ b < 5 then ζ.1 66 (15 * s + b) else if a = 56 ∧ b < 5 then ζ.1 66 (15 * s + 5 + b) else if a = 57 ∧ b < 5 then ζ.1 66 (15 * s + 10 + b) else if a = 52 ∧ b = 24 then (s : Int) else (sbS ζ s).1 a b := fun a b => by
      rw [mTak_at _ _ (by decide) (by decide) (by decide)]; rfl
    have rl : (mTak (zU (sbS ζ s) 52 24 s) 66 (15 * s) 5).2 = ζ.2 := by rw [mTak_l]; rfl
    have rx := run_X6_undo_ok (l := l) (B := B) hs (by omega) hc
    have rm := run_X7_undo_ok (l := l) (B := B) (ζ := sbS ζ s) (s := s) (n := n) hs (by have h : (sbS ζ s).1 52 24 = ζ.1 52 24 := rfl; omega)
    generalize hη : mTak (zU (sbS ζ s) 52 24 s) 66 (15 * s) 5 = η at r rl rm
    have ro : ∀ a, a ∉ [1, 5, 6, 7, 52, 56, 57, 58] → η.1 a = ζ.1 a := fun a ha => by
      have m : a ≠ 1 ∧ a ≠ 5 ∧ a ≠ 6 ∧ a ≠ 7 ∧ a ≠ 52 ∧ a ≠ 56 ∧ a ≠ 57 ∧ a ≠ 58 := by simpa using ha
      funext b
      rw [r, if_neg (by omega), if_neg (by omega), if_neg (by omega), if_neg (by omega), sbS_at, if_neg (by omega), if_neg (by omega), if_neg (by omega), if_neg (by omega)]
    have s5 : ∀ p, p < n → η.1 7 p = ζ.1 9 (15 * s + p) ∧ η.1 5 p = ζ.1 9 (15 * s + 5 + p) ∧ η.1 6 p = ζ.1 9 (15 * s + 10 + p) := fun p hp => by
      refine ⟨?_, ?_, ?_⟩
      · rw [r, if_neg (by omega), if_neg (by omega), if_neg (by omega), if_neg (by omega)]; exact (q5 p hp).2.2
      · rw [r, if_neg (by omega), if_neg (by omega), if_neg (by omega), if_neg (by omega)]; exact (q5 p hp).1
      · rw [r, if_neg (by omega), if_neg (by omega), if_neg (by omega), if_neg (by omega)]; exact (q5 p hp).2.1
    have s6 : ∀ p, p < n → η.1 58 p = ζ.1 66 (15 * s + p) ∧ η.1 56 p = ζ.1 66 (15 * s + 5 + p) ∧ η.1 57 p = ζ.1 66 (15 * s + 10 + p) := fun p hp => by
      refine ⟨?_, ?_, ?_⟩
      · rw [r, if_pos (by omega)]
      · rw [r, if_neg (by omega), if_pos (by omega)]
      · rw [r, if_neg (by omega), if_neg (by omega), if_pos (by omega)]
    have hNn : RelN η n c s := by
      refine ⟨⟨(r 1 3).trans e1, (r 1 9).trans e2, r 1 11, (r 52 1).trans e4, (r 52 4).trans e5, r 52 24⟩, ⟨h1, h2', by omega⟩, ?_, ?_, ?_, ⟨tOk_cg t1 s5, tEq_cg t2 s5 s6⟩, ?_, ?_⟩
      · rw [show η.1 1 0 = ζ.1 1 0 from r 1 0, show η.1 1 1 = ζ.1 1 1 from r 1 1, show η.1 52 2 = ζ.1 52 2 from r 52 2, show η.1 52 3 = ζ.1 52 3 from r 52 3]; exact b1
      · rw [ro 2 (by decide), ro 54 (by decide)]; exact b2
      · rw [ro 3 (by decide), ro 4 (by decide), ro 55 (by decide)]; exact b3
      · rw [ro 8 (by decide), ro 59 (by decide), ro 60 (by decide), ro 61 (by decide), ro 62 (by decide)]; exact b5
      · rw [ro 9 (by decide), ro 66 (by decide)]; exact fun i hi => b6 i (by omega)
    refine ⟨_, _, η, rx, ?_, hR.now ⟨n, c, s, hNn⟩ (fun a ha => ro a (by revert a; decide)) (r 52 15) rl⟩
    rw [show sFree (cV (sbS ζ s)) n = sFree (mV η) n from (free_cg n (fun p hp => by
      show η.1 58 p = (sbS ζ s).1 7 p
      rw [(s6 p hp).1, (q5 p hp).2.2]; exact (t2 p hp).1)).symm]
    exact rm hNn.mOk
/-- behind an image of both -/
theorem rel_img (hR : Rel ζ) {n c s : Nat} (hN : RelN ζ n c s) {η : zSt} {i h : Nat} (hi : i < 2) (hh : i = 0 ∧ h = 20 ∨ i = 1 ∧ h = 29) (hc : CpR ζ η h 1) (ho : ∀ a, a ≠ 38 → ¬ (h ≤ a ∧ a ≤ h + 8) → η.1 a = ζ.1 a) (h38 : ∀ b, η.1 38 b = if b = i then 1 else ζ.1 38 b) (hl : η.2 = ζ.2) : Rel (mImg η i) := by
  have o1 : ∀ a b, a ≠ 69 → a ≠ 70 → a ≠ 38 → ¬ (h ≤ a ∧ a ≤ h + 8) → (mImg η i).1 a b = ζ.1 a b := fun a b h9 h0 h3 h4 => by rw [mImg_off η i h9 h0, ho a h3 h4]
  have o2 : ∀ a b, a ≠ 69 → a ≠ 70 → (mImg η i).1 a b = η.1 a b := fun a b h9 h0 => mImg_off η i h9 h0 b
  have o38 : ∀ b, (mImg η i).1 38 b = if b = i then 1 else ζ.1 38 b := fun b => by rw [mImg_off η i (by decide) (by decide), h38]
  have o70 : ∀ b, (mImg η i).1 70 b = if b = i then 1 else ζ.1 70 b := fun b => by rw [mImg_70, show η.1 70 = ζ.1 70 from ho 70 (by decide) (by omega)]
  have o9 := mImg_69 η i
  have hm : ∀ a, a ∈ [52, 54, 55, 56, 57, 58, 59, 60, 61, 62, 66, 69] → η.1 a = ζ.1 a := fun a ha => ho a (fun e => by subst e; revert ha; decide) (fun e => by
    have : 52 ≤ a := by clear e; revert a; decide
    omega)
  rw [hm 52 (by decide), hm 54 (by decide), hm 55 (by decide), hm 56 (by decide), hm 57 (by decide), hm 58 (by decide), hm 59 (by decide), hm 60 (by decide), hm 61 (by decide), hm 62 (by decide), hm 66 (by decide), hm 69 (by decide)] at o9
  have ml : (mImg η i).2 = ζ.2 := (mImg_l η i).trans hl
  generalize mImg η i = θ at o1 o2 o38 o70 o9 ml
  obtain ⟨⟨e1, e2, e3, e4, e5, e6⟩, hS⟩ := hN
  -- the new picture
  have key : Snp n c s (θ.1 h 0) (θ.1 h 1) (θ.1 (h + 1)) (θ.1 (h + 2)) (θ.1 (h + 3)) (θ.1 (h + 4)) (θ.1 (h + 5)) (θ.1 (h + 6)) (θ.1 (h + 7)) (θ.1 (h + 8)) (θ.1 69 (190 * i + 1)) (θ.1 69 (190 * i + 2)) (fun b => θ.1 69 (190 * i + 25 + b)) (fun b => θ.1 69 (190 * i + 20 + b)) (fun b => θ.1 69 (190 * i + 10 + b)) (fun b => θ.1 69 (190 * i + 15 + b)) (fun b => θ.1 69 (190 * i + 5 + b)) (fun b => θ.1 69 (190 * i + 33 + b)) (fun b => θ.1 69 (190 * i + 39 + b)) (fun b => θ.1 69 (190 * i + 45 + b)) (fun b => θ.1 69 (190 * i + 51 + b)) (fun b => θ.1 69 (190 * i + 57 + b)) := by
    obtain ⟨⟨c0, c1, -, -, -⟩, c2, c3, c4, c5⟩ := hc
    have H : ∀ a b, h ≤ a → a ≤ h + 8 → θ.1 a b = η.1 a b := fun a b h1 h2 => o2 a b (by omega) (by omega)
    refine Snp_cg hS ⟨?_, ?_, ?_, ?_⟩ (fun y hy => ⟨?_, ?_⟩) (fun p hp => ⟨?_, ?_, ?_⟩) (fun p hp => ⟨?_, ?_, ?_⟩) (fun p hp => ⟨?_, ?_, ?_⟩) (fun j hj => ?_) (fun j hj => ⟨?_, ?_, ?_, ?_⟩) (fun j hj => ?_) (fun j hj => ?_)
    · rw [H h 0 (by omega) (by omega)]; exact c0
    · rw [H h 1 (by omega) (by omega)]; exact c1
    · rw [o9]; repeat' (first | rw [if_pos (by omega)] | rw [if_neg (by omega)])
    · rw [o9]; repeat' (first | rw [if_pos (by omega)] | rw [if_neg (by omega)])
    · rw [H _ _ (by omega) (by omega)]; exact c2 y hy
    · show θ.1 69 (190 * i + 25 + y) = _
      rw [o9, if_neg (by omega), if_neg (by omega), if_neg (by omega), if_neg (by omega), if_neg (by omega), if_pos (by omega), show 190 * i + 25 + y - (190 * i + 25) = y by omega]
    · rw [H _ _ (by omega) (by omega)]; exact (c3 p hp).1
    · rw [H _ _ (by omega) (by omega)]; exact (c3 p hp).2.1
    · show θ.1 69 (190 * i + 20 + p) = _
      rw [o9, if_neg (by omega), if_neg (by omega), if_neg (by omega), if_neg (by omega), if_neg (by omega), if_neg (by omega), if_pos (by omega), show 190 * i + 20 + p - (190 * i + 20) = p by omega]
    · rw [H _ _ (by omega) (by omega)]; exact (c3 p hp).2.2.2.2
    · rw [H _ _ (by omega) (by omega)]; exact (c3 p hp).2.2.1
    · rw [H _ _ (by omega) (by omega)]; exact (c3 p hp).2.2.2.1
    · show θ.1 69 (190 * i + 5 + p) = _
      rw [o9, if_neg (by omega), if_neg (by omega), if_neg (by omega), if_neg (by omega), if_neg (by omega), if_neg (by omega), if_neg (by omega), if_pos (by omega), show 190 * i + 5 + p - (190 * i + 5) = p by omega]
    · show θ.1 69 (190 * i + 10 + p) = _
      rw [o9, if_neg (by omega), if_neg (by omega), if_neg (by omega), if_neg (by omega), if_neg (by omega), if_neg (by omega), if_neg (by omega), if_neg (by omega), if_pos (by omega), show 190 * i + 10 + p - (190 * i + 5 + 5) = p by omega]
    · show θ.1 69 (190 * i + 15 + p) = _
      rw [o9, if_neg (by omega), if_neg (by omega), if_neg (by omega), if_neg (by omega), if_neg (by omega), if_neg (by omega), if_neg (by omega), if_neg (by omega), if_neg (by omega), if_pos (by omega), show 190 * i + 15 + p - (190 * i + 5 + 10) = p by omega]
    · rw [H _ _ (by omega) (by omega)]; exact c4 j hj
    · show θ.1 69 (190 * i + 33 + j) = _
      rw [o9, if_neg (by omega), if_pos (by omega), show 190 * i + 33 + j - (190 * i + 33) = j by omega]
    · show θ.1 69 (190 * i + 39 + j) = _
      rw [o9, if_neg (by omega), if_neg (by omega), if_pos (by omega), show 190 * i + 39 + j - (190 * i + 39) = j by omega]
    · show θ.1 69 (190 * i + 45 + j) = _
      rw [o9, if_neg (by omega), if_neg (by omega), if_neg (by omega), if_pos (by omega), show 190 * i + 45 + j - (190 * i + 45) = j by omega]
    · show θ.1 69 (190 * i + 51 + j) = _
      rw [o9, if_neg (by omega), if_neg (by omega), if_neg (by omega), if_neg (by omega), if_pos (by omega), show 190 * i + 51 + j - (190 * i + 51) = j by omega]
    · rw [H _ _ (by omega) (by omega)]; exact c5 j hj
    · show θ.1 69 (190 * i + 57 + j) = _
      rw [o9, if_pos (by omega), show 190 * i + 57 + j - (190 * i + 57) = j by omega]
  have kn : θ.1 h 3 = n ∧ θ.1 h 9 = c ∧ θ.1 h 11 = s ∧ θ.1 69 (190 * i) = n ∧ θ.1 69 (190 * i + 3) = c ∧ θ.1 69 (190 * i + 4) = s := by
    obtain ⟨⟨-, -, c2, c3, c4⟩, -⟩ := hc
    have H : ∀ b, θ.1 h b = η.1 h b := fun b => o2 h b (by omega) (by omega)
    refine ⟨(H 3).trans (c2.trans e1), (H 9).trans (c3.trans e2), (H 11).trans (c4.trans e3), ?_, ?_, ?_⟩
    · rw [o9]; repeat' (first | rw [if_pos (by omega)] | rw [if_neg (by omega)])
      exact e4
    · rw [o9]; repeat' (first | rw [if_pos (by omega)] | rw [if_neg (by omega)])
      exact e5
    · rw [o9]; repeat' (first | rw [if_pos (by omega)] | rw [if_neg (by omega)])
      exact e6
  have far : ∀ j b, j ≠ i → j < 2 → b < 190 → θ.1 69 (190 * j + b) = ζ.1 69 (190 * j + b) := fun j b hj hj2 hb => by
    rw [o9]; repeat' (rw [if_neg (by omega)])
  have hro : ∀ a, a ≠ 69 → a ≠ 70 → a ≠ 38 → ¬ (h ≤ a ∧ a ≤ h + 8) → θ.1 a = ζ.1 a := fun a h9 h0 h3 h4 => funext fun b => o1 a b h9 h0 h3 h4
  have hmem : ∀ a, a ∈ [0, 1, 2, 3, 4, 5, 6, 7, 8, 9, 39, 40, 52, 53, 54, 55, 56, 57, 58, 59, 60, 61, 62, 63, 66] → θ.1 a = ζ.1 a := fun a ha => by
    have : (a < 20 ∨ 38 < a) ∧ a ≠ 69 ∧ a ≠ 70 := by revert a; decide
    exact hro a this.2.1 this.2.2 (by omega) (by omega)
  obtain ⟨⟨n0, c0', s0, hN0⟩, ⟨hI, hJ⟩, ⟨t, hT⟩, hSt, hF⟩ := hR
  refine ⟨⟨n0, c0', s0, hN0.tr (fun a ha => hmem a (by revert a; decide))⟩, ?_, ⟨t, hT.tr (fun a ha => hmem a (by revert a; decide)) (by rw [hmem 52 (by decide)])⟩, hSt.tr (fun a ha => hmem a (by revert a; decide)), hF.tr (by rw [hmem 0 (by decide)]) (by rw [hmem 0 (by decide)]) ml⟩
  have cg : ∀ (j g : Nat), j ≠ i → j < 2 → (∀ a, g ≤ a → a ≤ g + 8 → ¬ (h ≤ a ∧ a ≤ h + 8)) → 20 ≤ g → g ≤ 29 → RelI ζ j g (g + 1) (g + 2) (g + 3) (g + 4) (g + 5) (g + 6) (g + 7) (g + 8) → RelI θ j g (g + 1) (g + 2) (g + 3) (g + 4) (g + 5) (g + 6) (g + 7) (g + 8) := by
    intro j g hji hj hg hg1 hg2 hr
    have G : ∀ k, k ≤ 8 → θ.1 (g + k) = ζ.1 (g + k) := fun k hk => hro _ (by omega) (by omega) (by omega) (hg _ (by omega) (by omega))
    obtain ⟨k1, k2⟩ := hr
    refine ⟨by rw [o38, o70, if_neg hji, if_neg hji]; exact k1, ?_⟩
    rw [o38, if_neg hji]
    rcases k2 with k2 | ⟨k2, n1, c1, s1, ⟨f1, f2, f3, f4, f5, f6⟩, hs⟩
    · exact Or.inl k2
    · refine Or.inr ⟨k2, n1, c1, s1, ⟨?_, ?_, ?_, (far j 0 hji hj (by omega)).trans f4, (far j 3 hji hj (by omega)).trans f5, (far j 4 hji hj (by omega)).trans f6⟩, ?_⟩
      · rw [show θ.1 g = ζ.1 g from G 0 (by omega)]; exact f1
      · rw [show θ.1 g = ζ.1 g from G 0 (by omega)]; exact f2
      · rw [show θ.1 g = ζ.1 g from G 0 (by omega)]; exact f3
      · rw [show θ.1 g = ζ.1 g from G 0 (by omega), G 1 (by omega), G 2 (by omega), G 3 (by omega), G 4 (by omega), G 5 (by omega), G 6 (by omega), G 7 (by omega), G 8 (by omega)]
        have F : ∀ o b, o + b < 190 → θ.1 69 (190 * j + o + b) = ζ.1 69 (190 * j + o + b) := fun o b hb => by
          rw [Nat.add_assoc]; exact far j (o + b) hji hj hb
        exact Snp_cg hs ⟨rfl, rfl, far j 1 hji hj (by omega), far j 2 hji hj (by omega)⟩ (fun y hy => ⟨rfl, F 25 y (by omega)⟩) (fun p hp => ⟨rfl, rfl, F 20 p (by omega)⟩) (fun _ _ => ⟨rfl, rfl, rfl⟩) (fun p hp => ⟨F 5 p (by omega), F 10 p (by omega), F 15 p (by omega)⟩) (fun _ _ => rfl) (fun q hq => ⟨F 33 q (by omega), F 39 q (by omega), F 45 q (by omega), F 51 q (by omega)⟩) (fun _ _ => rfl) (fun q hq => F 57 q (by omega))
  have new : RelI θ i h (h + 1) (h + 2) (h + 3) (h + 4) (h + 5) (h + 6) (h + 7) (h + 8) := ⟨by rw [o38, o70, if_pos rfl, if_pos rfl], Or.inr ⟨by rw [o38, if_pos rfl], n, c, s, kn, key⟩⟩
  rcases hh with ⟨rfl, rfl⟩ | ⟨rfl, rfl⟩
  · exact ⟨new, cg 1 29 (by decide) (by decide) (fun a h1 h2 => by omega) (by decide) (by decide) hJ⟩
  · exact ⟨cg 0 20 (by decide) (by decide) (fun a h1 h2 => by omega) (by decide) (by decide) hI, new⟩
/-- one step of image: the class's addresses may grow -/
def eStepG (l : Launch) (B : eB) (as : List Value) (ζ : zSt) : Prop := ∃ (z : Int) (ζ1 ζ2 : zSt), zRunG l B mX6_imageA (.ref 0 :: as) ζ (some (zi z)) ζ1 ∧ (∀ B', zRun l B' mX7_image (.ref 52 :: as) ζ1 (some (zi z)) ζ2) ∧ Rel ζ2
theorem st_image (hR : Rel ζ) {w : Int} (hw : -2147483648 ≤ w ∧ w ≤ 2147483647) : eStepG l B [zi w] ζ := by
  obtain ⟨n, c, s, hN⟩ := hR.1
  by_cases h : 0 ≤ w ∧ w ≤ 1
  · rcases (show w = 0 ∨ w = 1 by omega) with rfl | rfl
    · obtain ⟨i1, i2 | ⟨i2, -⟩⟩ := hR.2.1.1
      · refine ⟨_, _, _, run_X6_image_n0 i2, fun _ => run_X7_image_ok (i := 0) (by decide), rel_img hR hN (h := 20) (by decide) (Or.inl ⟨rfl, rfl⟩) ?_ (fun a h3 h4 => ?_) (fun b => ?_) rfl⟩
        · exact cpS_20_1 (zU (nwS ζ 20 0) 38 0 1)
        · rw [cpS_off _ (by omega), row_off h3, nwS_off ζ h3 (by omega)]
        · rw [cpS_off _ (by omega), zU_at]
          by_cases e : b = 0
          · rw [if_pos ⟨rfl, e⟩, if_pos e]
          · rw [if_neg (fun q => e q.2), if_neg e, nwS_38 ζ (by omega), if_neg e]
      · refine ⟨_, _, _, run_X6_image_h0 i2, fun _ => run_X7_image_ok (i := 0) (by decide), rel_img hR hN (h := 20) (by decide) (Or.inl ⟨rfl, rfl⟩) ?_ (fun a h3 h4 => ?_) (fun b => ?_) rfl⟩
        · exact cpS_20_1 ζ
        · rw [cpS_off ζ (by omega)]
        · rw [cpS_off ζ (by omega)]
          by_cases e : b = 0
          · rw [if_pos e, e, i2]
          · rw [if_neg e]
    · obtain ⟨i1, i2 | ⟨i2, -⟩⟩ := hR.2.1.2
      · refine ⟨_, _, _, run_X6_image_n1 i2, fun _ => run_X7_image_ok (i := 1) (by decide), rel_img hR hN (h := 29) (by decide) (Or.inr ⟨rfl, rfl⟩) ?_ (fun a h3 h4 => ?_) (fun b => ?_) rfl⟩
        · exact cpS_29_1 (zU (nwS ζ 29 1) 38 1 1)
        · rw [cpS_off _ (by omega), row_off h3, nwS_off ζ h3 (by omega)]
        · rw [cpS_off _ (by omega), zU_at]
          by_cases e : b = 1
          · rw [if_pos ⟨rfl, e⟩, if_pos e]
          · rw [if_neg (fun q => e q.2), if_neg e, nwS_38 ζ (by omega), if_neg e]
      · refine ⟨_, _, _, run_X6_image_h1 i2, fun _ => run_X7_image_ok (i := 1) (by decide), rel_img hR hN (h := 29) (by decide) (Or.inr ⟨rfl, rfl⟩) ?_ (fun a h3 h4 => ?_) (fun b => ?_) rfl⟩
        · exact cpS_29_1 ζ
        · rw [cpS_off ζ (by omega)]
        · rw [cpS_off ζ (by omega)]
          by_cases e : b = 1
          · rw [if_pos e, e, i2]
          · rw [if_neg e]
  · exact ⟨_, _, _, run_X6_image_bad hw h, fun _ => run_X7_image_bad hw h, rel_bad hR⟩
/-- behind 'from' of both -/
theorem rel_from (hR : Rel ζ) {η : zSt} {i g : Nat} (hi : i < 2) (hg : 20 ≤ g) {n c s : Nat} (hk : (ζ.1 g 3 = n ∧ ζ.1 g 9 = c ∧ ζ.1 g 11 = s ∧ ζ.1 69 (190 * i) = n ∧ ζ.1 69 (190 * i + 3) = c ∧ ζ.1 69 (190 * i + 4) = s) ∧
  Snp n c s (ζ.1 g 0) (ζ.1 g 1) (ζ.1 (g + 1)) (ζ.1 (g + 2)) (ζ.1 (g + 3)) (ζ.1 (g + 4)) (ζ.1 (g + 5)) (ζ.1 (g + 6)) (ζ.1 (g + 7)) (ζ.1 (g + 8)) (ζ.1 69 (190 * i + 1)) (ζ.1 69 (190 * i + 2)) (fun b => ζ.1 69 (190 * i + 25 + b)) (fun b => ζ.1 69 (190 * i + 20 + b)) (fun b => ζ.1 69 (190 * i + 10 + b)) (fun b => ζ.1 69 (190 * i + 15 + b)) (fun b => ζ.1 69 (190 * i + 5 + b)) (fun b => ζ.1 69 (190 * i + 33 + b)) (fun b => ζ.1 69 (190 * i + 39 + b)) (fun b => ζ.1 69 (190 * i + 45 + b)) (fun b => ζ.1 69 (190 * i + 51 + b)) (fun b => ζ.1 69 (190 * i + 57 + b)))
    (hc : CpR ζ η 1 g) (ho : ∀ a, 9 < a ∨ a = 0 → η.1 a = ζ.1 a) (hl : η.2 = ζ.2) : Rel (mFro η i) := by
  have o := mFro_at η i
  have m1 := mFr1_at η i
  rw [ho 69 (by omega)] at o m1
  have ml : (mFro η i).2 = ζ.2 := (mFro_l η i).trans hl
  generalize mFr1 η i = κ at o m1
  generalize mFro η i = θ at o ml
  have off : ∀ a, a ∉ [52, 54, 55, 56, 57, 58, 59, 60, 61, 62, 66] → θ.1 a = η.1 a := fun a ha => by
    have m : a ≠ 52 ∧ a ≠ 54 ∧ a ≠ 55 ∧ a ≠ 56 ∧ a ≠ 57 ∧ a ≠ 58 ∧ a ≠ 59 ∧ a ≠ 60 ∧ a ≠ 61 ∧ a ≠ 62 ∧ a ≠ 66 := by simpa using ha
    funext b
    rw [o]; repeat' (rw [if_neg (by omega)])
    rw [m1]; repeat' (rw [if_neg (by omega)])
  have f52 : ∀ b, θ.1 52 b = κ.1 52 b := fun b => by rw [o]; repeat' (rw [if_neg (by omega)])
  obtain ⟨⟨e1, e2, e3, e4, e5, e6⟩, hS⟩ := hk
  obtain ⟨⟨c0, c1, c3, c9, c11⟩, d1, d2, d7, d8⟩ := hc
  have hNn : RelN θ n c s := by
    refine ⟨⟨?_, ?_, ?_, ?_, ?_, ?_⟩, Snp_cg hS ⟨?_, ?_, ?_, ?_⟩ (fun y hy => ⟨?_, ?_⟩) (fun p hp => ⟨?_, ?_, ?_⟩) (fun p hp => ⟨?_, ?_, ?_⟩) (fun p hp => ⟨?_, ?_, ?_⟩) (fun j hj => ?_) (fun j hj => ⟨?_, ?_, ?_, ?_⟩) (fun j hj => ?_) (fun j hj => ?_)⟩
    · rw [off 1 (by decide)]; exact c3.trans e1
    · rw [off 1 (by decide)]; exact c9.trans e2
    · rw [off 1 (by decide)]; exact c11.trans e3
    · rw [f52, m1]; simpa using e4
    · rw [f52, m1]; simpa using e5
    · rw [f52, m1]; simpa using e6
    · rw [off 1 (by decide)]; exact c0
    · rw [off 1 (by decide)]; exact c1
    · rw [f52, m1]; simp
    · rw [f52, m1]; simp
    · rw [off 2 (by decide)]; exact d1 y hy
    · rw [o]; simp [hy]
    · rw [off 3 (by decide)]; exact (d2 p hp).1
    · rw [off 4 (by decide)]; exact (d2 p hp).2.1
    · rw [o]; simp [hp]
    · rw [off 7 (by decide)]; exact (d2 p hp).2.2.2.2
    · rw [off 5 (by decide)]; exact (d2 p hp).2.2.1
    · rw [off 6 (by decide)]; exact (d2 p hp).2.2.2.1
    · rw [o]; simp [hp]
    · rw [o]; simp [hp]
    · rw [o]; simp [hp]
    · rw [off 8 (by decide)]; exact d7 j hj
    · rw [o]; simp [hj]
    · rw [o]; simp [hj]
    · rw [o]; simp [hj]
    · rw [o]; simp [hj]
    · rw [off 9 (by decide)]; exact d8 j hj
    · rw [o]; simp [hj]
  refine hR.now ⟨n, c, s, hNn⟩ (fun a ha => ?_) ?_ ml
  · rw [off a (by revert a; decide)]
    exact ho a (by revert a; decide)
  · rw [f52, m1]; simp; rw [ho 52 (by omega)]
theorem st_from (hR : Rel ζ) {w : Int} (hw : -2147483648 ≤ w ∧ w ≤ 2147483647) : eStep l B mX6_from mX7_from [zi w] ζ := by
  by_cases h : 0 ≤ w ∧ w ≤ 1
  · have hI := hR.2.1.1
    have hJ := hR.2.1.2
    rcases (show w = 0 ∨ w = 1 by omega) with rfl | rfl
    · obtain ⟨i1, i2 | ⟨i2, n, c, s, hk⟩⟩ := hI
      · exact ⟨_, _, _, run_X6_from_no (i := 0) (by decide) i2, run_X7_from_no (ζ := noS ζ) (i := 0) (by decide) (i1.symm.trans i2), rel_no hR⟩
      · refine ⟨_, _, _, run_X6_from_0 i2, run_X7_from_ok (ζ := cpS ζ 1 20) (i := 0) (by decide) ?_, rel_from hR (g := 20) (i := 0) (by decide) (by decide) hk (cpS_1_20 ζ) (fun a ha => cpS_off ζ (by omega)) rfl⟩
        rw [cpS_off ζ (by omega)]; exact i1.symm.trans i2
    · obtain ⟨i1, i2 | ⟨i2, n, c, s, hk⟩⟩ := hJ
      · exact ⟨_, _, _, run_X6_from_no (i := 1) (by decide) i2, run_X7_from_no (ζ := noS ζ) (i := 1) (by decide) (i1.symm.trans i2), rel_no hR⟩
      · refine ⟨_, _, _, run_X6_from_1 i2, run_X7_from_ok (ζ := cpS ζ 1 29) (i := 1) (by decide) ?_, rel_from hR (g := 29) (i := 1) (by decide) (by decide) hk (cpS_1_29 ζ) (fun a ha => cpS_off ζ (by omega)) rfl⟩
        rw [cpS_off ζ (by omega)]; exact i1.symm.trans i2
  · exact ⟨_, _, _, run_X6_from_bad hw h, run_X7_from_bad hw h, rel_bad hR⟩
end ST4
