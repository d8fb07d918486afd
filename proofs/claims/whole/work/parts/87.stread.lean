/-! a step of both, 5: read -/
theorem RelN.tr52 {ζ η : zSt} {n c s : Nat} (h : RelN ζ n c s) (hr : ∀ a, a ∈ [1, 2, 3, 4, 5, 6, 7, 8, 9, 54, 55, 56, 57, 58, 59, 60, 61, 62, 66] → η.1 a = ζ.1 a) (h5 : ∀ j, j ∈ [1, 2, 3, 4, 24] → η.1 52 j = ζ.1 52 j) : RelN η n c s := by
  unfold RelN
  rw [hr 1 (by decide), hr 2 (by decide), hr 3 (by decide), hr 4 (by decide), hr 5 (by decide), hr 6 (by decide), hr 7 (by decide), hr 8 (by decide), hr 9 (by decide), h5 1 (by decide), h5 2 (by decide), h5 3 (by decide), h5 4 (by decide), h5 24 (by decide), hr 54 (by decide), hr 55 (by decide), hr 56 (by decide), hr 57 (by decide), hr 58 (by decide), hr 59 (by decide), hr 60 (by decide), hr 61 (by decide), hr 62 (by decide), hr 66 (by decide)]
  exact h
/-- all but the hill that is now, and the text's own marks, stays -/
theorem Rel.text {ζ η : zSt} (h : Rel ζ) (hN : ∃ n c s, RelN η n c s) (hr : ∀ a, a ∈ [0, 20, 21, 22, 23, 24, 25, 26, 27, 28, 29, 30, 31, 32, 33, 34, 35, 36, 37, 38, 40, 53, 63, 69, 70] → η.1 a = ζ.1 a) (h39 : η.1 39 1 = ζ.1 39 1) (h15 : η.1 52 15 = ζ.1 52 15) (h2 : η.2 = ζ.2) : Rel η := by
  obtain ⟨-, ⟨hI, hJ⟩, ⟨t, hT⟩, hS, hF⟩ := h
  refine ⟨hN, ⟨hI.tr0 (fun a ha => hr a (by revert a; decide)), hJ.tr1 (fun a ha => hr a (by revert a; decide))⟩, ⟨t, ?_⟩, hS.tr (fun a ha => hr a (by revert a; decide)), hF.tr (by rw [hr 0 (by decide)]) (by rw [hr 0 (by decide)]) h2⟩
  unfold RelT
  rw [hr 40 (by decide), hr 63 (by decide), h39, h15]
  exact hT
theorem mem_up {a : Nat} {u v : List Nat} (h : ∀ x, x ∈ u → x ∈ v) (ha : a ∉ v) : a ∉ u := fun q => ha (h a q)
section ST5
variable {l : Launch} {B : eB} {ζ : zSt}
theorem st_read (hR : Rel ζ) : eStep l B mX6_read mX7_read [] ζ := by
  obtain ⟨t, hT⟩ := hR.2.2.1
  obtain ⟨n, c, s, hN⟩ := hR.1
  have hx : TXo ζ t (ζ.1 40) := ⟨⟨hT.1.1, hT.1.2.2⟩, fun j hj => ⟨rfl, (hT.2 j hj).1⟩⟩
  have x6 := run_X6_read (l := l) (B := B) hx
  have ok := pAll_ok (T := ζ.1 40) (t := t)
  have tm : ∀ η : zSt, η.1 52 15 = ζ.1 52 15 → η.1 63 = ζ.1 63 → TXm η t (ζ.1 40) := fun η h15 h63 => ⟨⟨h15.trans hT.1.2.1, hT.1.2.2⟩, fun j hj => ⟨by rw [h63]; exact (hT.2 j hj).2, (hT.2 j hj).1⟩⟩
  cases hh : pAll (ζ.1 40) t with
  | inl p =>
    rw [hh] at x6
    obtain ⟨ζ1, r1, hps, -⟩ := x6
    have x7 := run_X7_read (l := l) (B := B) (tm ζ1 (by rw [hps.1.1 52 (by decide)]) (hps.1.1 63 (by decide)))
    rw [hh] at x7
    obtain ⟨ζ2, r2, hms, -⟩ := x7
    refine ⟨_, ζ1, ζ2, r1, r2, ?_⟩
    have e : ∀ a, a ∉ [10, 11, 12, 13, 14, 15, 16, 39, 52, 64, 65] → ζ2.1 a = ζ.1 a := fun a ha => (hms.1.1 a (mem_up (by decide) ha)).trans (hps.1.1 a (mem_up (by decide) ha))
    have e52 : ∀ j, j ∉ [16, 17, 18, 19, 22] → ζ2.1 52 j = ζ.1 52 j := fun j hj => (hms.2 j hj).trans (by rw [hps.1.1 52 (by decide)])
    exact hR.text ⟨n, c, s, hN.tr52 (fun a ha => e a (by revert a; decide)) (fun j hj => e52 j (by revert j; decide))⟩ (fun a ha => e a (by revert a; decide)) (by rw [hms.1.1 39 (by decide)]; exact hps.2) (e52 15 (by decide)) (hms.1.2.trans hps.1.2)
  | inr q =>
    rw [hh] at x6
    obtain ⟨ζ', a, k2, s2, r1, hps, -, hdr⟩ := x6
    have off : ∀ b, 9 < b ∨ b < 1 → (cpS ζ' 1 10).1 b = ζ'.1 b := fun b hb => cpS_off ζ' (by omega)
    have cr := cpS_1_10 ζ'
    have cl := cpS_l ζ' 1 10
    generalize cpS ζ' 1 10 = ζ1 at r1 off cr cl
    have x7 := run_X7_read (l := l) (B := B) (tm ζ1 (by rw [off 52 (by decide), hps.1.1 52 (by decide)]) (by rw [off 63 (by decide), hps.1.1 63 (by decide)]))
    rw [hh] at x7
    obtain ⟨ζ2, r2, ⟨m1, m2⟩, ⟨w1, w2, w3, w4, w5, w6⟩, v1, v2⟩ := x7
    refine ⟨_, ζ1, ζ2, r1, r2, ?_⟩
    have hdk := (ok.2 q hh).1
    clear ok hh tm hx
    obtain ⟨items, tr, dk, H, n', K, U, S⟩ := q
    obtain ⟨k1, k2', k3, k4, k5, k6⟩ := hdk
    replace k1 : n' ≤ 5 := k1
    replace k2' : 0 ≤ tr ∧ tr ≤ 7 := k2'
    replace k3 : 0 ≤ dk ∧ dk ≤ 240 := k3
    replace k4 : ∀ y, y < 8 → 0 ≤ H y ∧ H y ≤ 9 := k4
    replace k5 : ∀ p, p < n' → (0 ≤ K p ∧ K p ≤ 5) ∧ (0 ≤ U p ∧ U p ≤ 500) ∧ (-1 ≤ S p ∧ S p ≤ 7) := k5
    replace k6 : ∀ p q, p < n' → q < n' → S p = S q → S p ≠ -1 → p = q := k6
    obtain ⟨⟨d0, d1, d3, d9, d11⟩, dH, dP⟩ := hdr
    obtain ⟨⟨c0, c1, c3, c9, c11⟩, cH, cP, -, -⟩ := cr
    have r1' : ζ2.1 1 = ζ1.1 1 := m1 1 (by decide)
    have r2' : ζ2.1 2 = ζ1.1 2 := m1 2 (by decide)
    have r3' : ζ2.1 3 = ζ1.1 3 := m1 3 (by decide)
    have r4' : ζ2.1 4 = ζ1.1 4 := m1 4 (by decide)
    have r5' : ζ2.1 5 = ζ1.1 5 := m1 5 (by decide)
    have r6' : ζ2.1 6 = ζ1.1 6 := m1 6 (by decide)
    have r7' : ζ2.1 7 = ζ1.1 7 := m1 7 (by decide)
    have f2 : ∀ y, y < 8 → ζ2.1 2 y = H y := fun y hy => by rw [r2']; exact (cH y hy).trans (dH y hy)
    have fP : ∀ p, p < n' → ζ2.1 3 p = K p ∧ ζ2.1 4 p = sHd (K p) ∧ ζ2.1 5 p = U p ∧ ζ2.1 6 p = 0 ∧ ζ2.1 7 p = S p := fun p hp => by
      obtain ⟨a1, a2, a3, a4, a5⟩ := cP p (by omega)
      obtain ⟨b1, b2, b3, b4, b5⟩ := dP p hp
      rw [r3', r4', r5', r6', r7']
      exact ⟨a1.trans b1, a2.trans b2, a3.trans b3, a4.trans b4, a5.trans b5⟩
    have f10 : ζ2.1 1 0 = tr := by rw [r1']; exact c0.trans d0
    have f11 : ζ2.1 1 1 = dk := by rw [r1']; exact c1.trans d1
    have f13 : ζ2.1 1 3 = n' := by rw [r1']; exact c3.trans d3
    have f19 : ζ2.1 1 9 = 0 := by rw [r1']; exact c9.trans d9
    have f111 : ζ2.1 1 11 = 0 := by rw [r1']; exact c11.trans d11
    have hNn : RelN ζ2 n' 0 0 := by
      refine ⟨⟨f13, f19, f111, w1, w4, w5⟩, ⟨k1, by omega, by omega⟩, ?_, fun y hy => ?_, fun p hp => ?_, ⟨⟨fun p hp => ?_, fun p q hp hq => ?_⟩, fun p hp => ?_⟩, fun i hi => absurd hi (Nat.not_lt_zero i), fun i hi => absurd hi (Nat.not_lt_zero i)⟩
      · rw [f10, f11]; exact ⟨k2', k3, w2, w3⟩
      · rw [f2 y hy]; exact ⟨k4 y hy, v1 y hy⟩
      · obtain ⟨a1, a2, -, -, -⟩ := fP p hp
        rw [a2, a1]; exact ⟨(k5 p hp).1, rfl, (v2 p hp).1⟩
      · obtain ⟨-, -, a3, a4, a5⟩ := fP p hp
        obtain ⟨-, g2, g3⟩ := k5 p hp
        rw [a3, a4, a5]; exact ⟨g3, g2.1, Int.le_refl 0, by omega⟩
      · rw [(fP p hp).2.2.2.2, (fP q hq).2.2.2.2]; exact k6 p q hp hq
      · obtain ⟨-, -, a3, a4, a5⟩ := fP p hp
        obtain ⟨-, g2, g3, g4⟩ := v2 p hp
        rw [a3, a4, a5]; exact ⟨g4, g2, g3⟩
    have e : ∀ a, a ∈ [0, 20, 21, 22, 23, 24, 25, 26, 27, 28, 29, 30, 31, 32, 33, 34, 35, 36, 37, 38, 39, 40, 53, 63, 69, 70] → ζ2.1 a = ζ'.1 a := fun a ha => (m1 a (by revert a; decide)).trans (off a (by revert a; decide))
    refine hR.text ⟨n', 0, 0, hNn⟩ (fun a ha => (e a (by revert a; decide)).trans (hps.1.1 a (by revert a; decide))) (by rw [e 39 (by decide)]; exact hps.2) ?_ ?_
    · rw [w6, off 52 (by decide), hps.1.1 52 (by decide)]
    · rw [m2, cl]; exact hps.1.2
end ST5
