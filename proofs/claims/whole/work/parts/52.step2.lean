/-! a step of both, 2: what changes the state -/
theorem row_offC {ζ : zSt} {k0 k1 sp dp n a : Nat} (h : a ≠ k1) : (zCp ζ k0 k1 sp dp n).1 a = ζ.1 a := by rw [zCp_row, if_neg h]
theorem row_offF {ζ : zSt} {k n a : Nat} {x : Int} (h : a ≠ k) : (zFill ζ k x n).1 a = ζ.1 a := by rw [zFill_row, if_neg h]
theorem Rel.txt {ζ η : zSt} (h : Rel ζ) (hT : ∃ t, RelT η t) (hr : ∀ a, a ∈ [0, 1, 2, 3, 4, 5, 6, 7, 8, 9, 20, 21, 22, 23, 24, 25, 26, 27, 28, 29, 30, 31, 32, 33, 34, 35, 36, 37, 38, 53, 54, 55, 56, 57, 58, 59, 60, 61, 62, 66, 69, 70] → η.1 a = ζ.1 a) (h5 : ∀ j, j ∈ [1, 2, 3, 4, 24] → η.1 52 j = ζ.1 52 j) (h2 : η.2 = ζ.2) : Rel η := by
  obtain ⟨⟨n, c, s, hN⟩, ⟨hI, hJ⟩, -, hS, hF⟩ := h
  refine ⟨⟨n, c, s, ?_⟩, ⟨hI.tr0 (fun a ha => hr a (by revert a; decide)), hJ.tr1 (fun a ha => hr a (by revert a; decide))⟩, hT, hS.tr (fun a ha => hr a (by revert a; decide)), hF.tr (by rw [hr 0 (by decide)]) (by rw [hr 0 (by decide)]) h2⟩
  unfold RelN at hN ⊢
  rw [hr 1 (by decide), hr 2 (by decide), hr 3 (by decide), hr 4 (by decide), hr 5 (by decide), hr 6 (by decide), hr 7 (by decide), hr 8 (by decide), hr 9 (by decide), hr 54 (by decide), hr 55 (by decide), hr 56 (by decide), hr 57 (by decide), hr 58 (by decide), hr 59 (by decide), hr 60 (by decide), hr 61 (by decide), hr 62 (by decide), hr 66 (by decide), h5 1 (by decide), h5 2 (by decide), h5 3 (by decide), h5 4 (by decide), h5 24 (by decide)]
  exact hN
section ST2
variable {l : Launch} {B : eB} {ζ : zSt}
theorem st_hill (hR : Rel ζ) {t d : Int} (ht : -2147483648 ≤ t ∧ t ≤ 2147483647) (hd : -2147483648 ≤ d ∧ d ≤ 2147483647) : eStep l B mX6_hill mX7_hill [zi t, zi d] ζ := by
  obtain ⟨n, c, s, hN⟩ := hR.1
  by_cases h : (0 ≤ t ∧ t ≤ 7) ∧ (0 ≤ d ∧ d ≤ 240)
  · refine ⟨_, _, _, run_X6_hill_ok h.1 h.2, by rw [show ζ.1 1 3 = (bgS ζ 1 t d).1 52 1 from hN.1.1.trans hN.1.2.2.2.1.symm]; exact run_X7_hill_ok h.1 h.2, ?_⟩
    refine hR.now ⟨0, 0, 0, ⟨rfl, rfl, rfl, rfl, rfl, rfl⟩, ⟨by decide, by decide, by decide⟩, ⟨h.1, h.2, rfl, rfl⟩, fun y hy => ?_, fun p hp => absurd hp (by omega), ⟨⟨fun p hp => absurd hp (by omega), fun p q hp => absurd hp (by omega)⟩, fun p hp => absurd hp (by omega)⟩, fun i hi => absurd hi (by omega), fun i hi => absurd hi (by omega)⟩ (fun a ha => ?_) rfl ?_
    · have e1 : (mBg (bgS ζ 1 t d) t d).1 2 y = 0 := by
        unfold mBg bgS
        rw [zFill_at, if_neg (by omega)]
        simp only [zU_at, zFill_at]
        simp [hy]
      have e2 : (mBg (bgS ζ 1 t d) t d).1 54 y = 0 := by
        unfold mBg
        rw [zFill_at, if_pos (by omega)]
      rw [e1, e2]; omega
    · unfold mBg bgS
      rw [row_offF (fun e => by subst e; revert ha; decide)]
      repeat rw [row_off (fun e => by subst e; revert ha; decide)]
      rw [row_offF (fun e => by subst e; revert ha; decide)]
      repeat rw [row_off (fun e => by subst e; revert ha; decide)]
    · unfold mBg bgS
      rw [zFill_l]
      show (zFill _ _ _ _).2 = _
      rw [zFill_l]; rfl
  · exact ⟨_, _, _, run_X6_hill_bad ht hd h, run_X7_hill_bad ht hd h, rel_bad hR⟩
theorem st_track (hR : Rel ζ) {t d : Int} (ht : -2147483648 ≤ t ∧ t ≤ 2147483647) (hd : -2147483648 ≤ d ∧ d ≤ 2147483647) : eStep l B mX6_track mX7_track [zi t, zi d] ζ := by
  obtain ⟨n, c, s, hN⟩ := hR.1
  by_cases h : (0 ≤ t ∧ t ≤ 7) ∧ (0 ≤ d ∧ d ≤ 240)
  · refine ⟨_, _, _, run_X6_track_ok h.1 h.2, run_X7_track_ok h.1 h.2, ?_⟩
    obtain ⟨⟨e1, e2, e3, e4, e5, e6⟩, ⟨h1, h2, h3⟩, -, b2, b3, b4, b5, -⟩ := hN
    refine hR.now ⟨n, c, 0, ⟨e1, e2, rfl, e4, e5, rfl⟩, ⟨h1, h2, by decide⟩, ⟨h.1, h.2, rfl, rfl⟩, b2, b3, b4, b5, fun i hi => absurd hi (by omega)⟩ (fun a ha => ?_) rfl rfl
    repeat rw [row_off (fun e => by subst e; revert ha; decide)]
  · exact ⟨_, _, _, run_X6_track_bad ht hd h, run_X7_track_bad ht hd h, rel_bad hR⟩
theorem st_height (hR : Rel ζ) {y h : Int} (hy : -2147483648 ≤ y ∧ y ≤ 2147483647) (hh : -2147483648 ≤ h ∧ h ≤ 2147483647) : eStep l B mX6_height mX7_height [zi y, zi h] ζ := by
  obtain ⟨n, c, s, hN⟩ := hR.1
  by_cases hc : (0 ≤ y ∧ y ≤ 7) ∧ (0 ≤ h ∧ h ≤ 9)
  · obtain ⟨z, rfl⟩ := Int.eq_ofNat_of_zero_le hc.1.1
    have hz : z < 8 := by omega
    obtain ⟨⟨e1, e2, e3, e4, e5, e6⟩, ⟨h1, h2, h3⟩, b1, b2, b3, b4, b5, -⟩ := hN
    refine ⟨_, _, _, run_X6_height_ok hz hc.2, by rw [show ζ.1 2 z = (zU (zU ζ 2 z h) 1 11 0).1 54 z from (b2 z hz).2.symm]; exact run_X7_height_ok hz hc.2, ?_⟩
    refine hR.now ⟨n, c, 0, ⟨e1, e2, rfl, e4, e5, rfl⟩, ⟨h1, h2, by decide⟩, b1, fun w hw => ?_, b3, b4, b5, fun i hi => absurd hi (by omega)⟩ (fun a ha => ?_) rfl rfl
    · have q1 : (zU (zU (zU (zU ζ 2 z h) 1 11 0) 54 z h) 52 24 0).1 2 w = if w = z then h else ζ.1 2 w := by
        simp only [zU_at]; simp
      have q2 : (zU (zU (zU (zU ζ 2 z h) 1 11 0) 54 z h) 52 24 0).1 54 w = if w = z then h else ζ.1 54 w := by
        simp only [zU_at]; simp
      rw [q1, q2]
      by_cases e : w = z
      · rw [if_pos e, if_pos e]; exact ⟨hc.2, rfl⟩
      · rw [if_neg e, if_neg e]; exact b2 w hw
    · repeat rw [row_off (fun e => by subst e; revert ha; decide)]
  · exact ⟨_, _, _, run_X6_height_bad hy hh hc, run_X7_height_bad hy hh hc, rel_bad hR⟩
theorem tOk_add {S P D S' P' D' : Nat → Int} {n : Nat} {u : Int} (hu : 0 ≤ u ∧ u ≤ 500) (h : tOk S P D n) (e : ∀ p, p < n → S' p = S p ∧ P' p = P p ∧ D' p = D p) (en : S' n = -1 ∧ P' n = u ∧ D' n = 0) : tOk S' P' D' (n + 1) := by
  refine ⟨fun p hp => ?_, fun p q hp hq => ?_⟩
  · by_cases hpn : p < n
    · obtain ⟨a, b, c⟩ := e p hpn
      rw [a, b, c]; exact h.1 p hpn
    · have : p = n := by omega
      subst this
      obtain ⟨a, b, c⟩ := en
      rw [a, b, c]; omega
  · intro he hne
    by_cases hpn : p < n
    · by_cases hqn : q < n
      · rw [(e p hpn).1, (e q hqn).1] at he
        rw [(e p hpn).1] at hne
        exact h.2 p q hpn hqn he hne
      · have : q = n := by omega
        subst this
        rw [en.1] at he
        exact absurd he hne
    · have : p = n := by omega
      subst this
      exact absurd en.1 hne
theorem st_one (hR : Rel ζ) {k u : Int} (hk : -2147483648 ≤ k ∧ k ≤ 2147483647) (hu : -2147483648 ≤ u ∧ u ≤ 2147483647) : eStep l B mX6_one mX7_one [zi k, zi u] ζ := by
  obtain ⟨n, c, s, hN⟩ := hR.1
  by_cases hc : (0 ≤ k ∧ k ≤ 5) ∧ (0 ≤ u ∧ u ≤ 500)
  · by_cases h5 : n = 5
    · subst h5
      exact ⟨_, _, _, run_X6_one_full hN.1.1 hc.1 hc.2, run_X7_one_full (ζ := fuS ζ) hN.1.2.2.2.1 hc.1 hc.2, rel_full hR⟩
    · have hn5 : n < 5 := by have := hN.2.1.1; omega
      obtain ⟨⟨e1, e2, e3, e4, e5, e6⟩, ⟨h1, h2, h3⟩, b1, b2, b3, ⟨b4, b4'⟩, b5, -⟩ := hN
      refine ⟨_, _, _, run_X6_one_ok hn5 e1 hc.1 hc.2, run_X7_one_ok (ζ := adS (zU ζ 1 11 0) 1 n k u) hn5 e4 hc.1 hc.2, ?_⟩
      have r : ∀ a b, (mAd (adS (zU ζ 1 11 0) 1 n k u) n k u).1 a b = if a = 52 ∧ b = 24 then 0 else if a = 52 ∧ b = 1 then (n : Int) + 1 else if a = 58 ∧ b = n then -1 else if a = 57 ∧ b = n then 0 else if a = 56 ∧ b = n then u else if a = 55 ∧ b = n then k else if a = 1 ∧ b = 3 then (n : Int) + 1 else if a = 7 ∧ b = n then -1 else if a = 6 ∧ b = n then 0 else if a = 5 ∧ b = n then u else if a = 4 ∧ b = n then sHd k else if a = 3 ∧ b = n then k else if a = 1 ∧ b = 11 then 0 else ζ.1 a b := fun a b => rfl
      refine hR.now ⟨n + 1, c, 0, ⟨?_, ?_, ?_, ?_, ?_, ?_⟩, ⟨by omega, h2, by decide⟩, ?_, fun w hw => ?_, fun p hp => ?_, ⟨?_, fun p hp => ?_⟩, fun i hi => ?_, fun i hi => absurd hi (by omega)⟩ (fun a ha => ?_) ?_ rfl
      · rw [r]; simp
      · rw [r]; simp; exact e2
      · rw [r]; simp
      · rw [r]; simp
      · rw [r]; simp; exact e5
      · rw [r]; simp
      · rw [r, r, r, r]; simp; simpa using b1
      · rw [r, r]; simp; simpa using b2 w hw
      · rw [r, r, r]; simp
        by_cases e : p = n
        · simp [e]; omega
        · simp [e]; simpa using b3 p (by omega)
      · refine tOk_add hc.2 b4 (fun p hp => ?_) ?_
        · have e : ¬ p = n := by omega
          rw [r, r, r]; simp [e]
        · rw [r, r, r]; simp
      · rw [r, r, r, r, r, r]; simp
        by_cases e : p = n
        · simp [e]
        · simp [e]; simpa using b4' p (by omega)
      · have := b5 i hi
        simp only [r]
        simpa using this
      · unfold mAd adS
        repeat rw [row_off (fun e => by subst e; revert ha; decide)]
      · rw [r]; simp
  · exact ⟨_, _, _, run_X6_one_bad hk hu hc, run_X7_one_bad hk hu hc, rel_bad hR⟩
theorem st_type (hR : Rel ζ) {c : Int} (hc : -2147483648 ≤ c ∧ c ≤ 2147483647) : eStep l B mX6_type mX7_type [zi c] ζ := by
  obtain ⟨t, hT⟩ := hR.2.2.1
  by_cases h : 0 ≤ c ∧ c ≤ 127
  · obtain ⟨⟨e1, e2, e3⟩, hb⟩ := hT
    by_cases h5 : t = 150
    · subst h5
      exact ⟨_, _, _, run_X6_type_full e1 h, run_X7_type_full (ζ := fuS ζ) e2 h, rel_full hR⟩
    · refine ⟨_, _, _, run_X6_type_ok (t := t) (by omega) e1 h, run_X7_type_ok (ζ := zU (zU ζ 40 t c) 39 1 (t + 1)) (t := t) (by omega) e2 h, ?_⟩
      have r : ∀ a b, (zU (zU (zU (zU ζ 40 t c) 39 1 (t + 1)) 63 t c) 52 15 (t + 1)).1 a b = if a = 52 ∧ b = 15 then (t : Int) + 1 else if a = 63 ∧ b = t then c else if a = 39 ∧ b = 1 then (t : Int) + 1 else if a = 40 ∧ b = t then c else ζ.1 a b := fun a b => rfl
      refine hR.txt ⟨t + 1, ⟨?_, ?_, by omega⟩, fun i hi => ?_⟩ (fun a ha => ?_) (fun j hj => ?_) rfl
      · rw [r]; simp
      · rw [r]; simp
      · rw [r, r]; simp
        by_cases e : i = t
        · simp [e]; omega
        · simp [e]; simpa using hb i (by omega)
      · repeat rw [row_off (fun e => by subst e; revert ha; decide)]
      · rw [r]
        have : ¬ j = 15 := fun e => by subst e; revert hj; decide
        simp [this]
  · exact ⟨_, _, _, run_X6_type_bad hc h, run_X7_type_bad hc h, rel_bad hR⟩
theorem st_clear (hR : Rel ζ) : eStep l B mX6_clear mX7_clear [] ζ := by
  obtain ⟨t, hT⟩ := hR.2.2.1
  obtain ⟨⟨e1, e2, e3⟩, hb⟩ := hT
  refine ⟨_, _, _, run_X6_clear, by rw [show ζ.1 39 1 = (zU ζ 39 1 0).1 52 15 from e1.trans e2.symm]; exact run_X7_clear, ?_⟩
  refine hR.txt ⟨0, ⟨rfl, rfl, by omega⟩, fun i hi => absurd hi (by omega)⟩ (fun a ha => ?_) (fun j hj => ?_) rfl
  · repeat rw [row_off (fun e => by subst e; revert ha; decide)]
  · rw [zU_at, if_neg (fun q => by have := q.2; subst this; revert hj; decide)]; rfl
theorem st_note (hR : Rel ζ) {p s h w : Int} (hp : -2147483648 ≤ p ∧ p ≤ 2147483647) (hs : -2147483648 ≤ s ∧ s ≤ 2147483647) (hh : -2147483648 ≤ h ∧ h ≤ 2147483647) (hw : -2147483648 ≤ w ∧ w ≤ 2147483647) : eStep l B mX6_note mX7_note [zi p, zi s, zi h, zi w] ζ := by
  obtain ⟨n, c, st, hN⟩ := hR.1
  have hn := hN.2.1.1
  by_cases hc : (0 ≤ p ∧ p < n) ∧ (0 ≤ s ∧ s ≤ 240) ∧ (0 ≤ h ∧ h ≤ 9) ∧ (0 ≤ w ∧ w ≤ 500)
  · obtain ⟨c1, c2, c3, c4⟩ := hc
    by_cases h5 : c = 6
    · subst h5
      exact ⟨_, _, _, run_X6_note_full hn hN.1.1 hN.1.2.1 c1 c2 c3 c4, run_X7_note_full hn hN.fu.1.2.2.2.1 hN.fu.1.2.2.2.2.1 c1 c2 c3 c4, rel_full hR⟩
    · have hc6 : c < 6 := by have := hN.2.1.2.1; omega
      obtain ⟨⟨e1, e2, e3, e4, e5, e6⟩, ⟨h1, h2, h3⟩, b1, b2, b3, b4, b5, b6⟩ := hN
      refine ⟨_, _, _, run_X6_note_ok hn e1 hc6 e2 c1 c2 c3 c4, run_X7_note_ok (ζ := zU (zU (zU (zU (zU ζ 8 (4 * c) p) 8 (4 * c + 1) s) 8 (4 * c + 2) h) 8 (4 * c + 3) w) 1 9 (c + 1)) hn e4 hc6 e5 c1 c2 c3 c4, ?_⟩
      have r : ∀ a b, (zU (zU (zU (zU (zU (zU (zU (zU (zU (zU ζ 8 (4 * c) p) 8 (4 * c + 1) s) 8 (4 * c + 2) h) 8 (4 * c + 3) w) 1 9 (c + 1)) 59 c p) 60 c s) 61 c h) 62 c w) 52 4 (c + 1)).1 a b = if a = 52 ∧ b = 4 then (c : Int) + 1 else if a = 62 ∧ b = c then w else if a = 61 ∧ b = c then h else if a = 60 ∧ b = c then s else if a = 59 ∧ b = c then p else if a = 1 ∧ b = 9 then (c : Int) + 1 else if a = 8 ∧ b = 4 * c + 3 then w else if a = 8 ∧ b = 4 * c + 2 then h else if a = 8 ∧ b = 4 * c + 1 then s else if a = 8 ∧ b = 4 * c then p else ζ.1 a b := fun a b => rfl
      refine hR.now ⟨n, c + 1, st, ⟨?_, ?_, ?_, ?_, ?_, ?_⟩, ⟨h1, by omega, h3⟩, ?_, fun y hy => ?_, fun q hq => ?_, ?_, fun i hi => ?_, ?_⟩ (fun a ha => ?_) ?_ rfl
      · rw [r]; simp; exact e1
      · rw [r]; simp
      · rw [r]; simp; exact e3
      · rw [r]; simp; exact e4
      · rw [r]; simp
      · rw [r]; simp; exact e6
      · rw [r, r, r, r]; simp; simpa using b1
      · rw [r, r]; simp; simpa using b2 y hy
      · rw [r, r, r]; simp; simpa using b3 q hq
      · exact b4
      · simp only [r]
        by_cases e : i = c
        · subst e
          simp
          omega
        · have := b5 i (by omega)
          have n1 : ¬ (4 * i = 4 * c) := by omega
          have n2 : ¬ (4 * i = 4 * c + 1) := by omega
          have n3 : ¬ (4 * i = 4 * c + 2) := by omega
          have n4 : ¬ (4 * i = 4 * c + 3) := by omega
          have m1 : ¬ (4 * i + 1 = 4 * c) := by omega
          have m2 : ¬ (4 * i + 1 = 4 * c + 2) := by omega
          have m3 : ¬ (4 * i + 1 = 4 * c + 3) := by omega
          have m4 : ¬ (4 * i + 2 = 4 * c) := by omega
          have m5 : ¬ (4 * i + 2 = 4 * c + 1) := by omega
          have m6 : ¬ (4 * i + 2 = 4 * c + 3) := by omega
          have m7 : ¬ (4 * i + 3 = 4 * c) := by omega
          have m8 : ¬ (4 * i + 3 = 4 * c + 1) := by omega
          have m9 : ¬ (4 * i + 3 = 4 * c + 2) := by omega
          simp [e, n1, n2, n3, n4, m1, m2, m3, m4, m5, m6, m7, m8, m9]
          simpa using this
      · exact b6
      · repeat rw [row_off (fun e => by subst e; revert ha; decide)]
      · rw [r]; simp
  · exact ⟨_, _, _, run_X6_note_bad hn hN.1.1 hp hs hh hw hc, run_X7_note_bad hn hN.bd.1.2.2.2.1 hp hs hh hw hc, rel_bad hR⟩
theorem st_forget (hR : Rel ζ) : eStep l B mX6_forget mX7_forget [] ζ := by
  obtain ⟨n, c, s, hN⟩ := hR.1
  obtain ⟨⟨e1, e2, e3, e4, e5, e6⟩, ⟨h1, h2, h3⟩, b1, b2, b3, b4, b5, b6⟩ := hN
  refine ⟨_, _, _, run_X6_forget, by rw [show ζ.1 1 9 = (zU ζ 1 9 0).1 52 4 from e2.trans e5.symm]; exact run_X7_forget, ?_⟩
  refine hR.now ⟨n, 0, s, ⟨e1, rfl, e3, e4, rfl, e6⟩, ⟨h1, by decide, h3⟩, b1, b2, b3, b4, fun i hi => absurd hi (by omega), b6⟩ (fun a ha => ?_) rfl rfl
  repeat rw [row_off (fun e => by subst e; revert ha; decide)]
end ST2
