/-! a step of both, 1 -/
def eStep (l : Launch) (B : eB) (M1 M2 : eM) (as : List Value) (ζ : zSt) : Prop := ∃ (z : Int) (ζ1 ζ2 : zSt), zRun l B M1 (.ref 0 :: as) ζ (some (zi z)) ζ1 ∧ zRun l B M2 (.ref 52 :: as) ζ1 (some (zi z)) ζ2 ∧ Rel ζ2
def eStepL (l : Launch) (B : eB) (M1 M2 : eM) (as : List Value) (ζ : zSt) : Prop := ∃ (z : Int) (ζ1 ζ2 : zSt), zRun l B M1 (.ref 0 :: as) ζ (some (zl z)) ζ1 ∧ zRun l B M2 (.ref 52 :: as) ζ1 (some (zl z)) ζ2 ∧ Rel ζ2
/-- which rows a part of the relation looks at -/
theorem RelN.tr {ζ η : zSt} {n c s : Nat} (h : RelN ζ n c s) (hr : ∀ a, a ∈ [1, 2, 3, 4, 5, 6, 7, 8, 9, 52, 54, 55, 56, 57, 58, 59, 60, 61, 62, 66] → η.1 a = ζ.1 a) : RelN η n c s := by
  unfold RelN
  rw [hr 1 (by decide), hr 2 (by decide), hr 3 (by decide), hr 4 (by decide), hr 5 (by decide), hr 6 (by decide), hr 7 (by decide), hr 8 (by decide), hr 9 (by decide), hr 52 (by decide), hr 54 (by decide), hr 55 (by decide), hr 56 (by decide), hr 57 (by decide), hr 58 (by decide), hr 59 (by decide), hr 60 (by decide), hr 61 (by decide), hr 62 (by decide), hr 66 (by decide)]
  exact h
theorem RelI.tr0 {ζ η : zSt} (h : RelI ζ 0 20 21 22 23 24 25 26 27 28) (hr : ∀ a, a ∈ [20, 21, 22, 23, 24, 25, 26, 27, 28, 38, 69, 70] → η.1 a = ζ.1 a) : RelI η 0 20 21 22 23 24 25 26 27 28 := by
  unfold RelI
  rw [hr 20 (by decide), hr 21 (by decide), hr 22 (by decide), hr 23 (by decide), hr 24 (by decide), hr 25 (by decide), hr 26 (by decide), hr 27 (by decide), hr 28 (by decide), hr 38 (by decide), hr 69 (by decide), hr 70 (by decide)]
  exact h
theorem RelI.tr1 {ζ η : zSt} (h : RelI ζ 1 29 30 31 32 33 34 35 36 37) (hr : ∀ a, a ∈ [29, 30, 31, 32, 33, 34, 35, 36, 37, 38, 69, 70] → η.1 a = ζ.1 a) : RelI η 1 29 30 31 32 33 34 35 36 37 := by
  unfold RelI
  rw [hr 29 (by decide), hr 30 (by decide), hr 31 (by decide), hr 32 (by decide), hr 33 (by decide), hr 34 (by decide), hr 35 (by decide), hr 36 (by decide), hr 37 (by decide), hr 38 (by decide), hr 69 (by decide), hr 70 (by decide)]
  exact h
theorem RelT.tr {ζ η : zSt} {t : Nat} (h : RelT ζ t) (hr : ∀ a, a ∈ [39, 40, 63] → η.1 a = ζ.1 a) (h15 : η.1 52 15 = ζ.1 52 15) : RelT η t := by
  unfold RelT
  rw [hr 39 (by decide), hr 40 (by decide), hr 63 (by decide), h15]
  exact h
theorem RelS.tr {ζ η : zSt} (h : RelS ζ) (hr : ∀ a, a ∈ [0, 53] → η.1 a = ζ.1 a) : RelS η := by
  unfold RelS
  rw [hr 0 (by decide), hr 53 (by decide)]
  exact h
theorem RelF.tr {ζ η : zSt} (h : RelF ζ) (h8 : η.1 0 7 = ζ.1 0 7) (h9 : η.1 0 8 = ζ.1 0 8) (h2 : η.2 = ζ.2) : RelF η := by
  unfold RelF
  rw [h8, h9, h2]
  exact h
/-- all but the hill that is now stays -/
theorem Rel.now {ζ η : zSt} (h : Rel ζ) (hN : ∃ n c s, RelN η n c s) (hr : ∀ a, a ∈ [0, 20, 21, 22, 23, 24, 25, 26, 27, 28, 29, 30, 31, 32, 33, 34, 35, 36, 37, 38, 39, 40, 53, 63, 69, 70] → η.1 a = ζ.1 a) (h15 : η.1 52 15 = ζ.1 52 15) (h2 : η.2 = ζ.2) : Rel η := by
  obtain ⟨-, ⟨hI, hJ⟩, ⟨t, hT⟩, hS, hF⟩ := h
  exact ⟨hN, ⟨hI.tr0 (fun a ha => hr a (by revert a; decide)), hJ.tr1 (fun a ha => hr a (by revert a; decide))⟩, ⟨t, hT.tr (fun a ha => hr a (by revert a; decide)) h15⟩, hS.tr (fun a ha => hr a (by revert a; decide)), hF.tr (by rw [hr 0 (by decide)]) (by rw [hr 0 (by decide)]) h2⟩
/-- all but the status stays -/
theorem Rel.stat {ζ η : zSt} (h : Rel ζ) (hS : RelS η) (hr : ∀ a, a ∈ [1, 2, 3, 4, 5, 6, 7, 8, 9, 20, 21, 22, 23, 24, 25, 26, 27, 28, 29, 30, 31, 32, 33, 34, 35, 36, 37, 38, 39, 40, 52, 54, 55, 56, 57, 58, 59, 60, 61, 62, 63, 66, 69, 70] → η.1 a = ζ.1 a) (h8 : η.1 0 7 = ζ.1 0 7) (h9 : η.1 0 8 = ζ.1 0 8) (h2 : η.2 = ζ.2) : Rel η := by
  obtain ⟨⟨n, c, s, hN⟩, ⟨hI, hJ⟩, ⟨t, hT⟩, -, hF⟩ := h
  exact ⟨⟨n, c, s, hN.tr (fun a ha => hr a (by revert a; decide))⟩, ⟨hI.tr0 (fun a ha => hr a (by revert a; decide)), hJ.tr1 (fun a ha => hr a (by revert a; decide))⟩, ⟨t, hT.tr (fun a ha => hr a (by revert a; decide)) (by rw [hr 52 (by decide)])⟩, hS, hF.tr h8 h9 h2⟩
theorem row_off {ζ : zSt} {k i a : Nat} {x : Int} (h : a ≠ k) : (zU ζ k i x).1 a = ζ.1 a := by rw [zU_row, if_neg h]
theorem rel_bad {ζ : zSt} (h : Rel ζ) : Rel (mBd (bdS ζ)) := by
  refine h.stat ?_ (fun a ha => ?_) rfl rfl rfl
  · obtain ⟨-, -, -, ⟨s0, s1, s2⟩, -⟩ := h
    exact ⟨by show ζ.1 53 0 + 1 = ζ.1 0 9 + 1; rw [s0], s1, s2⟩
  · unfold mBd bdS
    rw [row_off (fun e => by subst e; revert ha; decide), row_off (fun e => by subst e; revert ha; decide)]
theorem rel_no {ζ : zSt} (h : Rel ζ) : Rel (mNo (noS ζ)) := by
  refine h.stat ?_ (fun a ha => ?_) rfl rfl rfl
  · obtain ⟨-, -, -, ⟨s0, s1, s2⟩, -⟩ := h
    exact ⟨s0, by show ζ.1 53 1 + 1 = ζ.1 0 10 + 1; rw [s1], s2⟩
  · unfold mNo noS
    rw [row_off (fun e => by subst e; revert ha; decide), row_off (fun e => by subst e; revert ha; decide)]
theorem rel_full {ζ : zSt} (h : Rel ζ) : Rel (mFu (fuS ζ)) := by
  refine h.stat ?_ (fun a ha => ?_) rfl rfl rfl
  · obtain ⟨-, -, -, ⟨s0, s1, s2⟩, -⟩ := h
    exact ⟨s0, s1, by show ζ.1 53 2 + 1 = ζ.1 0 11 + 1; rw [s2]⟩
  · unfold mFu fuS
    rw [row_off (fun e => by subst e; revert ha; decide), row_off (fun e => by subst e; revert ha; decide)]
section ST1
variable {l : Launch} {B : eB} {ζ : zSt}
/-- behind a refusal of the class the Model stands as it stood -/
theorem RelN.bd {n c s : Nat} (h : RelN ζ n c s) : RelN (bdS ζ) n c s := h.tr (fun a ha => by unfold bdS; rw [row_off (fun e => by subst e; revert ha; decide)])
theorem RelN.no {n c s : Nat} (h : RelN ζ n c s) : RelN (noS ζ) n c s := h.tr (fun a ha => by unfold noS; rw [row_off (fun e => by subst e; revert ha; decide)])
theorem RelN.fu {n c s : Nat} (h : RelN ζ n c s) : RelN (fuS ζ) n c s := h.tr (fun a ha => by unfold fuS; rw [row_off (fun e => by subst e; revert ha; decide)])
theorem st_of (hR : Rel ζ) {p w : Int} (hp : -2147483648 ≤ p ∧ p ≤ 2147483647) (hw : -2147483648 ≤ w ∧ w ≤ 2147483647) : eStep l B mX6_of mX7_of [zi p, zi w] ζ := by
  obtain ⟨n, c, s, hN⟩ := hR.1
  have a := hN.agr
  have hn := hN.2.1.1
  by_cases h : (0 ≤ p ∧ p < n) ∧ (0 ≤ w ∧ w ≤ 4)
  · obtain ⟨q, rfl⟩ := Int.eq_ofNat_of_zero_le h.1.1
    have hq : q < n := by omega
    obtain ⟨a2, a3, a4, a5⟩ := a.2.2 q hq
    rcases (show w = 0 ∨ w = 1 ∨ w = 2 ∨ w = 3 ∨ w = 4 by omega) with rfl | rfl | rfl | rfl | rfl
    · exact ⟨_, _, _, run_X6_of_0 hn hN.1.1 hq, by rw [show ζ.1 3 q = ζ.1 55 q from a2.symm]; exact run_X7_of_0 hn hN.1.2.2.2.1 hq, hR⟩
    · exact ⟨_, _, _, run_X6_of_1 hn hN.1.1 hq, by rw [show ζ.1 5 q = ζ.1 56 q from a3.symm]; exact run_X7_of_1 hn hN.1.2.2.2.1 hq, hR⟩
    · exact ⟨_, _, _, run_X6_of_2 hn hN.1.1 hq, by rw [show ζ.1 6 q = ζ.1 57 q from a4.symm]; exact run_X7_of_2 hn hN.1.2.2.2.1 hq, hR⟩
    · exact ⟨_, _, _, run_X6_of_3 hn hN.1.1 hq, by rw [show ζ.1 7 q = ζ.1 58 q from a5.symm]; exact run_X7_of_3 hn hN.1.2.2.2.1 hq, hR⟩
    · exact ⟨_, _, _, run_X6_of_4 hn hN.1.1 hq, by rw [hN.cOk.2.2 q hq, show ζ.1 3 q = ζ.1 55 q from a2.symm]; exact run_X7_of_4 hN.mOk hq, hR⟩
  · exact ⟨_, _, _, run_X6_of_bad hn hN.1.1 hp hw h, run_X7_of_bad hn hN.bd.1.2.2.2.1 hp hw h, rel_bad hR⟩
theorem st_yard (hR : Rel ζ) {y w : Int} (hy : -2147483648 ≤ y ∧ y ≤ 2147483647) (hw : -2147483648 ≤ w ∧ w ≤ 2147483647) : eStep l B mX6_yard mX7_yard [zi y, zi w] ζ := by
  obtain ⟨n, c, s, hN⟩ := hR.1
  have a := hN.agr
  by_cases h : (0 ≤ y ∧ y ≤ 7) ∧ (0 ≤ w ∧ w ≤ 2)
  · obtain ⟨q, rfl⟩ := Int.eq_ofNat_of_zero_le h.1.1
    have hq : q < 8 := by omega
    rcases (show w = 0 ∨ w = 1 ∨ w = 2 by omega) with rfl | rfl | rfl
    · exact ⟨_, _, _, run_X6_yard_0 hq, by rw [show ζ.1 2 q = ζ.1 54 q from (a.2.1 q hq).symm]; exact run_X7_yard_0 hq, hR⟩
    · exact ⟨_, _, _, run_X6_yard_1 hN.cOk hq, by rw [← a.dk]; exact run_X7_yard_1 hN.mOk hq, hR⟩
    · exact ⟨_, _, _, run_X6_yard_2 hN.cOk hq, by rw [← a.hol q n 0 (by omega)]; exact run_X7_yard_2 hN.mOk hq, hR⟩
  · exact ⟨_, _, _, run_X6_yard_bad hy hw h, run_X7_yard_bad hy hw h, rel_bad hR⟩
theorem st_sees (hR : Rel ζ) {p y : Int} (hp : -2147483648 ≤ p ∧ p ≤ 2147483647) (hy : -2147483648 ≤ y ∧ y ≤ 2147483647) : eStep l B mX6_sees mX7_sees [zi p, zi y] ζ := by
  obtain ⟨n, c, s, hN⟩ := hR.1
  have a := hN.agr
  have hn := hN.2.1.1
  by_cases h : (0 ≤ p ∧ p < n) ∧ (-1 ≤ y ∧ y ≤ 7)
  · obtain ⟨q, rfl⟩ := Int.eq_ofNat_of_zero_le h.1.1
    have hq : q < n := by omega
    by_cases h1 : y = -1
    · subst h1
      exact ⟨_, _, _, run_X6_sees_now hN.cOk hq, by rw [← a.now hN.cOk.1 hq]; exact run_X7_sees_now hN.mOk hq, hR⟩
    · obtain ⟨z, rfl⟩ := Int.eq_ofNat_of_zero_le (show 0 ≤ y by omega)
      have hz : z < 8 := by omega
      cases ho : sOpn (cV ζ) n q z with
      | true => exact ⟨_, _, _, run_X6_sees_in hN.cOk hq hz ho, by rw [← a.seen hN.cOk.1 hz]; exact run_X7_sees_in hN.mOk hq hz (by rw [a.opn]; exact ho), hR⟩
      | false => exact ⟨_, _, _, run_X6_sees_no hN.cOk hq hz ho, run_X7_sees_no hN.no.mOk hq hz (by rw [hN.no.agr.opn]; exact ho), rel_no hR⟩
  · exact ⟨_, _, _, run_X6_sees_bad hn hN.1.1 hp hy h, run_X7_sees_bad hn hN.bd.1.2.2.2.1 hp hy h, rel_bad hR⟩
/-- one's own yard is open -/
theorem own_open {n c s : Nat} (hN : RelN ζ n c s) {q z : Nat} (hq : q < n) (hz : ζ.1 7 q = z) : sOpn (cV ζ) n q z = true := by
  have key : ∀ k p, p + k ≤ n → sHol (cV ζ) z p k = -1 ∨ sHol (cV ζ) z p k = q := by
    intro k
    induction k with
    | zero => intro p _; exact Or.inl rfl
    | succ k ih =>
      intro p hp
      unfold sHol
      by_cases e : cV ζ 5 p = z
      · rw [if_pos e]
        right
        have e2 : ζ.1 7 p = z := e
        have := hN.2.2.2.2.2.1.1.2 p q (by omega) hq (by rw [e2, hz]) (by rw [e2]; omega)
        rw [this]
      · rw [if_neg e]; exact ih (p + 1) (by omega)
  exact decide_eq_true (key n 0 (by omega))
theorem st_gives (hR : Rel ζ) {p y : Int} (hp : -2147483648 ≤ p ∧ p ≤ 2147483647) (hy : -2147483648 ≤ y ∧ y ≤ 2147483647) : eStep l B mX6_gives mX7_gives [zi p, zi y] ζ := by
  obtain ⟨n, c, s, hN⟩ := hR.1
  have a := hN.agr
  have hn := hN.2.1.1
  by_cases h : (0 ≤ p ∧ p < n) ∧ (-1 ≤ y ∧ y ≤ 7)
  · obtain ⟨q, rfl⟩ := Int.eq_ofNat_of_zero_le h.1.1
    have hq : q < n := by omega
    by_cases h1 : y = -1
    · subst h1
      have hs : -1 ≤ ζ.1 7 q ∧ ζ.1 7 q ≤ 7 := (hN.cOk.1.2.2.2.2 q hq).2.2.2
      have e58 : ζ.1 58 q = ζ.1 7 q := (a.2.2 q hq).2.2.2
      by_cases h2 : ζ.1 7 q = -1
      · exact ⟨_, _, _, run_X6_gives_0 hN.cOk hq h2, run_X7_gives_0 hN.mOk hq (by rw [e58]; exact h2), hR⟩
      · obtain ⟨z, hz⟩ := Int.eq_ofNat_of_zero_le (show 0 ≤ ζ.1 7 q by omega)
        have hz8 : z < 8 := by omega
        exact ⟨_, _, _, run_X6_gives_now hN.cOk hq hz8 hz (own_open hN hq hz), by rw [← a.bid hN.cOk.1 hq hz8]; exact run_X7_gives_now hN.mOk hq hz8 (by rw [e58]; exact hz), hR⟩
    · obtain ⟨z, rfl⟩ := Int.eq_ofNat_of_zero_le (show 0 ≤ y by omega)
      have hz : z < 8 := by omega
      cases ho : sOpn (cV ζ) n q z with
      | true => exact ⟨_, _, _, run_X6_gives_in hN.cOk hq hz ho, by rw [← a.bid hN.cOk.1 hq hz]; exact run_X7_gives_in hN.mOk hq hz (by rw [a.opn]; exact ho), hR⟩
      | false => exact ⟨_, _, _, run_X6_gives_no hN.cOk hq hz ho, run_X7_gives_no hN.no.mOk hq hz (by rw [hN.no.agr.opn]; exact ho), rel_no hR⟩
  · exact ⟨_, _, _, run_X6_gives_bad hn hN.1.1 hp hy h, run_X7_gives_bad hn hN.bd.1.2.2.2.1 hp hy h, rel_bad hR⟩
theorem st_auction (hR : Rel ζ) {y w : Int} (hy : -2147483648 ≤ y ∧ y ≤ 2147483647) (hw : -2147483648 ≤ w ∧ w ≤ 2147483647) : eStep l B mX6_auction mX7_auction [zi y, zi w] ζ := by
  obtain ⟨n, c, s, hN⟩ := hR.1
  have a := hN.agr
  by_cases h : (0 ≤ y ∧ y ≤ 7) ∧ (0 ≤ w ∧ w ≤ 1)
  · obtain ⟨z, rfl⟩ := Int.eq_ofNat_of_zero_le h.1.1
    have hz : z < 8 := by omega
    by_cases h1 : sHol (cV ζ) z 0 n = -1
    · have h1' : sHol (mV ζ) z 0 n = -1 := by rw [a.hol z n 0 (by omega)]; exact h1
      by_cases h2 : (sTop (sOff (cV ζ) n z) n).1 = -1 ∨ w = 0
      · exact ⟨_, _, _, run_X6_auction_who hN.cOk hz h.2 h1 h2, by rw [← a.top hN.cOk.1 hz]; exact run_X7_auction_who hN.mOk hz h.2 h1' (by rw [a.top hN.cOk.1 hz]; exact h2), hR⟩
      · have h3 : (sTop (sOff (cV ζ) n z) n).1 ≠ -1 := fun q => h2 (Or.inl q)
        have h4 : w = 1 := by omega
        exact ⟨_, _, _, run_X6_auction_price hN.cOk hz h4 h1 h3, by rw [← a.top hN.cOk.1 hz, ← a.pri hN.cOk.1 hz]; exact run_X7_auction_price hN.mOk hz h4 h1' (by rw [a.top hN.cOk.1 hz]; exact h3), hR⟩
    · exact ⟨_, _, _, run_X6_auction_no hN.cOk hz h.2 h1, run_X7_auction_no hN.no.mOk hz h.2 (by rw [hN.no.agr.hol z n 0 (by omega)]; exact h1), rel_no hR⟩
  · exact ⟨_, _, _, run_X6_auction_bad hy hw h, run_X7_auction_bad hy hw h, rel_bad hR⟩
theorem st_hurt (hR : Rel ζ) {p y : Int} (hp : -2147483648 ≤ p ∧ p ≤ 2147483647) (hy : -2147483648 ≤ y ∧ y ≤ 2147483647) : eStep l B mX6_hurt mX7_hurt [zi p, zi y] ζ := by
  obtain ⟨n, c, s, hN⟩ := hR.1
  have a := hN.agr
  have hn := hN.2.1.1
  by_cases h : (0 ≤ p ∧ p < n) ∧ (0 ≤ y ∧ y ≤ 7)
  · obtain ⟨q, rfl⟩ := Int.eq_ofNat_of_zero_le h.1.1
    have hq : q < n := by omega
    obtain ⟨z, rfl⟩ := Int.eq_ofNat_of_zero_le h.2.1
    have hz : z < 8 := by omega
    cases ho : sOpn (cV ζ) n q z with
    | true => exact ⟨_, _, _, run_X6_hurt_in hN.cOk hq hz ho, by rw [← a.hurt hN.cOk.1 hq hz]; exact run_X7_hurt_in hN.mOk hq hz (by rw [a.opn]; exact ho), hR⟩
    | false => exact ⟨_, _, _, run_X6_hurt_no hN.cOk hq hz ho, run_X7_hurt_no hN.no.mOk hq hz (by rw [hN.no.agr.opn]; exact ho), rel_no hR⟩
  · exact ⟨_, _, _, run_X6_hurt_bad hn hN.1.1 hp hy h, run_X7_hurt_bad hn hN.bd.1.2.2.2.1 hp hy h, rel_bad hR⟩
theorem st_best (hR : Rel ζ) {p w : Int} (hp : -2147483648 ≤ p ∧ p ≤ 2147483647) (hw : -2147483648 ≤ w ∧ w ≤ 2147483647) : eStep l B mX6_best mX7_best [zi p, zi w] ζ := by
  obtain ⟨n, c, s, hN⟩ := hR.1
  have a := hN.agr
  have hn := hN.2.1.1
  by_cases h : (0 ≤ p ∧ p < n) ∧ (0 ≤ w ∧ w ≤ 1)
  · obtain ⟨q, rfl⟩ := Int.eq_ofNat_of_zero_le h.1.1
    have hq : q < n := by omega
    exact ⟨_, _, _, run_X6_best_ok hN.cOk hq h.2, by rw [← a.bst hN.cOk.1 hq]; exact run_X7_best_ok hN.mOk hq h.2, hR⟩
  · exact ⟨_, _, _, run_X6_best_bad hn hN.1.1 hp hw h, run_X7_best_bad hn hN.bd.1.2.2.2.1 hp hw h, rel_bad hR⟩
theorem st_move (hR : Rel ζ) {w : Int} (hw : -2147483648 ≤ w ∧ w ≤ 2147483647) : eStep l B mX6_move mX7_move [zi w] ζ := by
  obtain ⟨n, c, s, hN⟩ := hR.1
  have a := hN.agr
  by_cases h : 0 ≤ w ∧ w ≤ 1
  · exact ⟨_, _, _, run_X6_move_ok hN.cOk h, by rw [← a.mov hN.cOk.1]; exact run_X7_move_ok hN.mOk h, hR⟩
  · exact ⟨_, _, _, run_X6_move_bad hw h, run_X7_move_bad hw h, rel_bad hR⟩
theorem cnt_eq (hR : Rel ζ) {n c s : Nat} (hN : RelN ζ n c s) (k : Nat) : mCnt ζ n k = cCnt ζ n k := by
  have a := hN.agr
  obtain ⟨t, hT⟩ := hR.2.2.1
  unfold mCnt cCnt
  match k with
  | 0 => rfl
  | 1 => exact a.free n (Nat.le_refl n)
  | 2 => exact a.all hN.cOk.1
  | 3 => exact a.paid
  | 4 => exact hN.1.2.2.2.2.1.trans hN.1.2.1.symm
  | 5 => exact hN.1.2.2.2.2.2.trans hN.1.2.2.1.symm
  | k + 6 => exact hT.1.2.1.trans hT.1.1.symm
theorem st_count (hR : Rel ζ) {w : Int} (hw : -2147483648 ≤ w ∧ w ≤ 2147483647) : eStep l B mX6_count mX7_count [zi w] ζ := by
  obtain ⟨n, c, s, hN⟩ := hR.1
  by_cases h : 0 ≤ w ∧ w ≤ 6
  · obtain ⟨k, rfl⟩ := Int.eq_ofNat_of_zero_le h.1
    exact ⟨_, _, _, run_X6_count_ok hN.cOk (k := k) (by omega), by rw [← cnt_eq hR hN]; exact run_X7_count_ok hN.mOk (by omega), hR⟩
  · exact ⟨_, _, _, run_X6_count_bad hw h, run_X7_count_bad hw h, rel_bad hR⟩
theorem st_status (hR : Rel ζ) {w : Int} (hw : -2147483648 ≤ w ∧ w ≤ 2147483647) : eStep l B mX6_status mX7_status [zi w] ζ := by
  obtain ⟨s0, s1, s2⟩ := hR.2.2.2.1
  by_cases h : 0 ≤ w ∧ w ≤ 2
  · rcases (show w = 0 ∨ w = 1 ∨ w = 2 by omega) with rfl | rfl | rfl
    · exact ⟨_, _, _, run_X6_status_0, by rw [← s0]; exact run_X7_status_ok (k := 0) (by omega), hR⟩
    · exact ⟨_, _, _, run_X6_status_1, by rw [← s1]; exact run_X7_status_ok (k := 1) (by omega), hR⟩
    · exact ⟨_, _, _, run_X6_status_2, by rw [← s2]; exact run_X7_status_ok (k := 2) (by omega), hR⟩
  · exact ⟨_, _, _, run_X6_status_bad hw h, run_X7_status_bad hw h, rel_bad hR⟩
theorem run_X6_part_bad {w : Int} (hw : -2147483648 ≤ w ∧ w ≤ 2147483647) (h : ¬ (w = 0 ∨ w = 1)) : zRun l B mX6_part [.ref 0, zi w] ζ (some (zl (-2))) (bdS ζ) := by
  refine zrun_intro (M := mX6_part) (ls := [some (.ref 0), some (zi w)]) (by decide) rfl rfl rfl (Nat.le_of_ble_eq_true rfl) ?_
  intro X A C hX hA hr hk
  replace C : CX X B A mX6_part.2.2.2.2 RX6 cX6_part 2 0 0 := C
  have hr : (xMeth X).sig.returnType = (some .long) := hr
  change ZW X B A 2 0 0 _ _ 0 [some (.ref 0), some (zi w)] []
  refine zw_iload_n (i := 1) (nx := 1) C dX6_part_0 rfl rfl rfl ?_
  refine zw_lookup (nx := 40) C dX6_part_1 (by omega) rfl (off := 39) ?_ rfl ?_
  · have h0 : ¬ (0 = w) := fun q => h (Or.inl q.symm)
    have h1 : ¬ (1 = w) := fun q => h (Or.inr q.symm)
    simp [Op.lookupswitch.offset, h0, h1]
  refine zw_aload_n (i := 0) (nx := 41) C dX6_part_40 rfl rfl rfl ?_
  refine zw_bipush (v := -2) (nx := 43) C dX6_part_41 (by decide) rfl ?_
  refine zw_cV11 (nx := 46) C dX6_part_43 rfl cvX6_71 rfl rfl ⟨Nat.le_of_ble_eq_true rfl, Nat.le_of_ble_eq_true rfl⟩ rfl rfl (Nat.le_of_ble_eq_true rfl) run_X6_bad ?_
  refine zw_i2l (nx := 47) C dX6_part_46 (by omega) rfl ?_
  exact zw_lret C hA hr hk dX6_part_47 rfl rfl
theorem st_part (hR : Rel ζ) {w : Int} (hw : -2147483648 ≤ w ∧ w ≤ 2147483647) : eStepL l B mX6_part mX7_part [zi w] ζ := by
  obtain ⟨⟨f0, f1⟩, f2, f3⟩ := hR.2.2.2.2
  by_cases h : w = 0 ∨ w = 1
  · rcases h with rfl | rfl
    · exact ⟨_, _, _, run_X6_part_0 (by omega), by rw [← f0]; exact run_X7_part_0, hR⟩
    · exact ⟨_, _, _, run_X6_part_1 (by omega), by rw [← f1]; exact run_X7_part_1, hR⟩
  · exact ⟨_, _, _, run_X6_part_bad hw h, run_X7_part_bad hw h, rel_bad hR⟩
end ST1
