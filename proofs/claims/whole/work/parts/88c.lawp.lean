/-! the law: what stands at its start -/
def iH0 (j : Nat) : Int := match j with
  | 0 => 3
  | 1 => 240
  | _ => 0
def iX0 (j : Nat) : Int := match j with
  | 8 => 1
  | _ => 0
def iM0 (j : Nat) : Int := match j with
  | 2 => 3
  | 3 => 240
  | _ => 0
def iL0 (j : Nat) : Int := match j with
  | 1 => 1
  | _ => 0
def iR0 (k j : Nat) : Int := match k with
  | 0 => iX0 j
  | 1 => iH0 j
  | 10 => iH0 j
  | 52 => iM0 j
  | _ => 0
def zst0 : zSt := (iR0, iL0)
theorem rel_0 : Rel zst0 := by
  refine ⟨⟨0, 0, 0, ?_⟩, ⟨⟨rfl, Or.inl rfl⟩, ⟨rfl, Or.inl rfl⟩⟩, ⟨0, ⟨rfl, rfl, by decide⟩, fun i hi => absurd hi (Nat.not_lt_zero i)⟩, ⟨rfl, rfl, rfl⟩, ⟨⟨rfl, rfl⟩, ?_, ?_⟩⟩
  · refine ⟨⟨rfl, rfl, rfl, rfl, rfl, rfl⟩, ⟨by decide, by decide, by decide⟩, ⟨?_, ?_, rfl, rfl⟩, fun y hy => ⟨?_, rfl⟩, fun p hp => absurd hp (Nat.not_lt_zero p), ⟨⟨fun p hp => absurd hp (Nat.not_lt_zero p), fun p q hp => absurd hp (Nat.not_lt_zero p)⟩, fun p hp => absurd hp (Nat.not_lt_zero p)⟩, fun i hi => absurd hi (Nat.not_lt_zero i), fun i hi => absurd hi (Nat.not_lt_zero i)⟩
    · show (0 : Int) ≤ 3 ∧ (3 : Int) ≤ 7
      decide
    · show (0 : Int) ≤ 240 ∧ (240 : Int) ≤ 240
      decide
    · show (0 : Int) ≤ 0 ∧ (0 : Int) ≤ 9
      decide
  · show (0 : Int) ≤ 0 ∧ (0 : Int) ≤ 100000
    decide
  · show (0 : Int) ≤ 1 ∧ (1 : Int) ≤ 100000
    decide
theorem law_cls {s : State} {args : Array Value} (hts : ∀ w ∈ eTb, w.before args s = true) : ∃ (dC : Nat → ClassId) (dI : Nat → Nat → Nat), ∀ (k : Nat) (q : vw_C), vwCl[k]? = some q → u_Kn s q.1 q.2.1 q.2.2 (dC k) (dI k) := by
  obtain ⟨c0, i0, h0⟩ := u_known (C := RX0) (T := TX0) (N := 4) (n := 4) hts (iq0 _ rfl) (hts _ wn_X0)
  obtain ⟨c1, i1, h1⟩ := u_known (C := RX1) (T := TX1) (N := 1) (n := 1) hts (iq1 _ rfl) (hts _ wn_X1)
  obtain ⟨c2, i2, h2⟩ := u_known (C := RX2) (T := TX2) (N := 13) (n := 13) hts (iq2 _ rfl) (hts _ wn_X2)
  obtain ⟨c3, i3, h3⟩ := u_known (C := RX4) (T := TX4) (N := 4) (n := 4) hts (iq3 _ rfl) (hts _ wn_X4)
  obtain ⟨c4, i4, h4⟩ := u_known (C := RX5) (T := TX5) (N := 6) (n := 6) hts (iq4 _ rfl) (hts _ wn_X5)
  obtain ⟨c5, i5, h5⟩ := u_known (C := RX6) (T := TX6) (N := 12) (n := 12) hts (iq5 _ rfl) (hts _ wn_X6)
  obtain ⟨c6, i6, h6⟩ := u_known (C := RX7) (T := TX7) (N := 32) (n := 32) hts (iq6 _ rfl) (hts _ wn_X7)
  refine ⟨fun k => match k with | 0 => c0 | 1 => c1 | 2 => c2 | 3 => c3 | 4 => c4 | 5 => c5 | _ => c6, fun k => match k with | 0 => i0 | 1 => i1 | 2 => i2 | 3 => i3 | 4 => i4 | 5 => i5 | _ => i6, fun k q hq => ?_⟩
  match k, hq with
  | 0, hq => cases hq; exact h0
  | 1, hq => cases hq; exact h1
  | 2, hq => cases hq; exact h2
  | 3, hq => cases hq; exact h3
  | 4, hq => cases hq; exact h4
  | 5, hq => cases hq; exact h5
  | 6, hq => cases hq; exact h6
  | k + 7, hq => simp [vwCl] at hq
theorem law_arr {s : State} {args : Array Value} (hts : ∀ w ∈ eTb, w.before args s = true) (hAO : va_AO "EclipseSeats$Hill" s) : ∃ cy : Nat → ClassId, ∀ (k : Nat) (q : ClassId × FieldType), (eT cy)[k]? = some q → ArrOfT s q.1 q.2 ∧ va_RA s q.1 q.2 := by
  have one : ∀ ty : FieldType, (Cond.arrayClass ty).before args s = true → ∃ cA : ClassId, ArrOfT s cA ty ∧ s.vm.findClass ("[" ++ ty.toString) = some cA := by
    intro ty h
    obtain ⟨cA, kA, comp, h1, h2, h3⟩ := Cond.arrayClass_spec h
    exact ⟨cA, fun n z => ⟨fun k h => (by cases h), kA, h2, comp, h3⟩, h1⟩
  obtain ⟨b0, b1, b2⟩ := one .byte (hts _ wa_byte)
  obtain ⟨j0, j1, j2⟩ := one .int (hts _ wa_int)
  obtain ⟨comp, cq, kq, f1, f2, f3, f4, f5⟩ := Cond.arrayOver_spec hAO
  refine ⟨fun k => match k with | 0 => b0 | 1 => j0 | _ => cq, fun k q hq => ?_⟩
  match k, hq with
  | 0, hq => cases hq; exact ⟨b1, b2⟩
  | 1, hq => cases hq; exact ⟨j1, j2⟩
  | 2, hq => cases hq; exact ⟨j1, j2⟩
  | 3, hq => cases hq; exact ⟨fun N z => ⟨(fun k h => by cases h), kq, f3, comp, f4⟩, kq, comp, f3, f4, f1, f5⟩
  | k + 4, hq => simp [eT] at hq
def txI (i : Nat) : Nat := match i with
  | 0 => 44
  | 1 => 54
  | 2 => 59
  | 3 => 64
  | _ => 69
def txT (i : Nat) : Term := Term.string "EclipseSeats$Text" (txI i)
def gvF : List Cond := flatC (Jvm.Cond.and given_1 narrow_1)
theorem gv_ex : ∀ i, i < 5 → Cond.exactly (txT i) "java/lang/String" ∈ gvF := by decide +kernel
theorem gv_co : ∀ i, i < 5 → Cond.eq (.field (txT i) "java/lang/String" "coder" "B") (.int 0) ∈ gvF := by decide +kernel
theorem gv_ar : ∀ i, i < 5 → Cond.arrayOf (.field (txT i) "java/lang/String" "value" "[B") .byte ∈ gvF := by decide +kernel
theorem gv_le : ∀ i, i < 5 → Cond.eq (.length (.field (txT i) "java/lang/String" "value" "[B")) (.int (Int32.ofNat (eLen.getD i 0))) ∈ gvF := by decide +kernel
theorem gv_el : ∀ i, i < 5 → ∀ j, j < eLen.getD i 0 → Cond.eq (.elem (.field (txT i) "java/lang/String" "value" "[B") (.int (Int32.ofNat j))) (.int ((eByt.getD i []).getD j 0)) ∈ gvF := by decide +kernel
theorem gv_ne : ∀ i, i < 5 → ∀ j, j < 5 → i ≠ j → (Cond.not (Cond.eq (txT i) (txT j)) ∈ gvF ∨ Cond.not (Cond.eq (txT j) (txT i)) ∈ gvF) := by decide +kernel
theorem gv_cs : Cond.eq (.static "java/lang/String" "COMPACT_STRINGS" "Z") (.int 1) ∈ gvF := by decide +kernel
theorem gv_sf : Cond.isRef (.static "jdk/internal/util/Preconditions" "SIOOBE_FORMATTER" "Ljava/util/function/BiFunction;") ∈ gvF := by decide +kernel
theorem law_str {b : Nat} {s : State} {A : Nat → Prop} (hts0 : ∀ w ∈ lw_tbl, w.before #[Value.ref b] s = true) (hgv : (Jvm.Cond.and given_1 narrow_1).before #[Value.ref b] s = true) (hA : ∀ a : Nat, a < s.heap.size → ¬ A a) : ∃ adK adV : Nat → Nat, ∀ ad : Nat → Nat, (∀ i, i < 5 → ad (1000 + i) = adK i ∧ ad (1100 + i) = adV i) → eS ad A s s.heap := by
  have fl : ∀ c ∈ gvF, c.before #[Value.ref b] s = true := flat_of_before _ hgv
  obtain ⟨adK, adV, hS, hE⟩ := vk_Sof (N := 5) (tm := txT) (len := eLen) (byt := eByt) (A := A) (args := #[Value.ref b]) (s := s) (by decide) (fun i hi => fl _ (gv_ex i hi)) (fun i hi => fl _ (gv_co i hi)) (fun i hi => fl _ (gv_ar i hi)) (fun i hi => fl _ (gv_le i hi)) (fun i hi j hj => fl _ (gv_el i hi j hj)) (fun i j hi hj hn => (gv_ne i hi j hj hn).imp (fun q => fl _ q) (fun q => fl _ q)) hA
  refine ⟨adK, adV, fun ad had => ?_⟩
  have tx : ∀ i, i < 5 → (txT i).eval #[Value.ref b] s none [] s = some (.ref (ad (1000 + i))) := fun i hi => by rw [(had i hi).1]; exact hE i hi
  refine ⟨⟨fun i hi => ?_, fun i j hi hj e => ?_⟩, ⟨?_, ?_, ?_, ?_, ?_⟩, ?_, ?_, ?_, ?_⟩
  · have h := hS.1 i hi
    rw [← (had i hi).1, ← (had i hi).2] at h
    exact h
  · exact hS.2 i j hi hj (((had i hi).1.symm.trans e).trans (had j hj).1)
  · exact vk_R.of (A := #[Value.ref b]) (hts0 _ (List.mem_of_getElem? (i := 349) (by decide +kernel))) (tx 0 (by decide))
  · exact vk_R.of (A := #[Value.ref b]) (hts0 _ (List.mem_of_getElem? (i := 410) (by decide +kernel))) (tx 1 (by decide))
  · exact vk_R.of (A := #[Value.ref b]) (hts0 _ (List.mem_of_getElem? (i := 415) (by decide +kernel))) (tx 2 (by decide))
  · exact vk_R.of (A := #[Value.ref b]) (hts0 _ (List.mem_of_getElem? (i := 420) (by decide +kernel))) (tx 3 (by decide))
  · exact vk_R.of (A := #[Value.ref b]) (hts0 _ (List.mem_of_getElem? (i := 426) (by decide +kernel))) (tx 4 (by decide))
  · exact va_Zof (hts0 _ (List.mem_of_getElem? (i := 363) (by decide +kernel))) (hts0 _ (List.mem_of_getElem? (i := 74) (by decide +kernel))) (va_eqi (fl _ gv_cs)) hA
  · exact va_Zqof (hts0 _ (List.mem_of_getElem? (i := 379) (by decide +kernel))) (hts0 _ (List.mem_of_getElem? (i := 76) (by decide +kernel))) (fl _ gv_sf) hA
  · exact va_Nw.of rfl (hts0 (.methodLinkNest "EclipseSeats$Hill" 64 yX6_darkFrom "EclipseSeats") (List.mem_of_getElem? (i := 483) (by decide +kernel)))
  · exact va_Nw.of rfl (hts0 (.methodLinkNest "EclipseSeats" 11 yX2_init "EclipseSeats") (List.mem_of_getElem? (i := 90) (by decide +kernel)))
/-- the addresses: 71 cells, five Strings, their bytes, the script -/
def lwAd (as : List Nat) (adK adV : Nat → Nat) (b k : Nat) : Nat := if 19 ≤ k ∧ k ≤ 37 then as.getD 0 0 else if k < 71 then as.getD k 0 else if k < 1100 then adK (k - 1000) else if k < 2000 then adV (k - 1100) else b
theorem lwAd_k (as : List Nat) (adK adV : Nat → Nat) (b i : Nat) (hi : i < 5) : lwAd as adK adV b (1000 + i) = adK i ∧ lwAd as adK adV b (1100 + i) = adV i := by
  unfold lwAd
  rw [if_neg (by omega), if_neg (by omega), if_pos (by omega), if_neg (by omega), if_neg (by omega), if_neg (by omega), if_pos (by omega), Nat.add_sub_cancel_left, Nat.add_sub_cancel_left]
  exact ⟨rfl, rfl⟩
