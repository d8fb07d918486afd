/-! what one is, and the next to offer -/
def gF (a b c d : Nat → Int) (p k : Int) : Nat → Bool
  | 0 => true
  | i + 1 => gF a b c d p k i && decide (¬ a i = p ∨ sWo k (b i) (c i) = d i)
theorem gF_mono {a b c d : Nat → Int} {p k : Int} {i : Nat} (h : gF a b c d p k i = false) : ∀ m, gF a b c d p k (i + m) = false
  | 0 => h
  | m + 1 => by
    show (gF a b c d p k (i + m) && _) = false
    rw [gF_mono h m]; rfl
theorem gF_cg {a b c d a' b' c' d' : Nat → Int} {p k : Int} : ∀ m, (∀ i, i < m → a i = a' i ∧ b i = b' i ∧ c i = c' i ∧ d i = d' i) → gF a b c d p k m = gF a' b' c' d' p k m
  | 0, _ => rfl
  | m + 1, e => by
    obtain ⟨e1, e2, e3, e4⟩ := e m (by omega)
    unfold gF
    rw [gF_cg m (fun i hi => e i (by omega)), e1, e2, e3, e4]
def gK (f : Nat → Bool) : Nat → Nat
  | 0 => 0
  | k + 1 => if f k = true then gK f k ||| 2 ^ k else gK f k
theorem gK_lt (f : Nat → Bool) : ∀ k, k ≤ 8 → gK f k < 256
  | 0, _ => by show 0 < 256; decide
  | k + 1, hk => by
    unfold gK
    split
    · exact or_lt (gK_lt f k (by omega)) (by omega)
    · exact gK_lt f k (by omega)
theorem gK_cg {f g : Nat → Bool} : ∀ k, (∀ i, i < k → f i = g i) → gK f k = gK g k
  | 0, _ => rfl
  | k + 1, h => by
    unfold gK
    rw [gK_cg k (fun i hi => h i (by omega)), h k (by omega)]
def cF (ζ : zSt) (p : Int) (m k : Nat) : Bool := gF (fun i => ζ.1 8 (4 * i)) (fun i => ζ.1 8 (4 * i + 1)) (fun i => ζ.1 8 (4 * i + 2)) (fun i => ζ.1 8 (4 * i + 3)) p k m
def mF (ζ : zSt) (p : Int) (m k : Nat) : Bool := gF (ζ.1 59) (ζ.1 60) (ζ.1 61) (ζ.1 62) p k m
def cnOk (ζ : zSt) (c : Nat) : Prop := ζ.1 1 9 = c ∧ c ≤ 6 ∧ ∀ i, i < c → (0 ≤ ζ.1 8 (4 * i) ∧ ζ.1 8 (4 * i) ≤ 4) ∧ (0 ≤ ζ.1 8 (4 * i + 1) ∧ ζ.1 8 (4 * i + 1) ≤ 240) ∧ (0 ≤ ζ.1 8 (4 * i + 2) ∧ ζ.1 8 (4 * i + 2) ≤ 9) ∧ (0 ≤ ζ.1 8 (4 * i + 3) ∧ ζ.1 8 (4 * i + 3) ≤ 500)
def mnOk (ζ : zSt) (c : Nat) : Prop := ζ.1 52 4 = c ∧ c ≤ 6 ∧ ∀ i, i < c → (0 ≤ ζ.1 59 i ∧ ζ.1 59 i ≤ 4) ∧ (0 ≤ ζ.1 60 i ∧ ζ.1 60 i ≤ 240) ∧ (0 ≤ ζ.1 61 i ∧ ζ.1 61 i ≤ 9) ∧ (0 ≤ ζ.1 62 i ∧ ζ.1 62 i ≤ 500)
theorem RelN.cn {ζ : zSt} {n c s : Nat} (h : RelN ζ n c s) : cnOk ζ c := ⟨h.1.2.1, h.2.1.2.1, fun i hi => (h.2.2.2.2.2.2.1 i hi).1⟩
theorem RelN.mn {ζ : zSt} {n c s : Nat} (h : RelN ζ n c s) : mnOk ζ c := ⟨h.1.2.2.2.2.1, h.2.1.2.1, fun i hi => by
  obtain ⟨a, e1, e2, e3, e4⟩ := h.2.2.2.2.2.2.1 i hi
  rw [e1, e2, e3, e4]; exact a⟩
theorem RelN.fit {ζ : zSt} {n c s : Nat} (h : RelN ζ n c s) (p : Int) (k : Nat) : mF ζ p c k = cF ζ p c k := gF_cg c (fun i hi => (h.2.2.2.2.2.2.1 i hi).2)
theorem or_0 (a : Nat) : iI (a : Int) ||| iI 0 = iI (a : Int) := by
  show iI (a : Int) ||| (0 : Int32) = _
  exact Int32.or_zero
/-- how many are alike -/
def aC (S : Nat) (s h : Int) (a : Nat) : Nat → Int
  | 0 => 0
  | b + 1 => aC S s h a b + if S.testBit a = true ∧ S.testBit b = true ∧ sWo a s h = sWo b s h then 1 else 0
def aM (S : Nat) (s h : Int) : Nat → Int
  | 0 => 0
  | a + 1 => if aM S s h a < aC S s h a 6 then aC S s h a 6 else aM S s h a
theorem aC_bd (S : Nat) (s h : Int) (a : Nat) : ∀ b : Nat, 0 ≤ aC S s h a b ∧ aC S s h a b ≤ b
  | 0 => ⟨Int.le_refl 0, Int.le_refl 0⟩
  | b + 1 => by
    have := aC_bd S s h a b
    unfold aC
    split <;> omega
theorem aM_bd (S : Nat) (s h : Int) : ∀ a, 0 ≤ aM S s h a ∧ aM S s h a ≤ 6
  | 0 => ⟨Int.le_refl 0, (by decide : (0 : Int) ≤ 6)⟩
  | a + 1 => by
    have := aM_bd S s h a
    have := aC_bd S s h a 6
    unfold aM
    split <;> omega
def gW (S : Nat) (s h : Int) (k : Nat) : Int := if S.testBit k = true then sWo k s h else -1
def lO (g : Nat → Int) (a : Nat) : Nat → Int
  | 0 => 0
  | b + 1 => if g b = g a then lO g a b + 1 else lO g a b
def cM (g : Nat → Int) : Nat → Int
  | 0 => 0
  | a + 1 => if g a = -1 then cM g a else if cM g a < lO g a 6 then lO g a 6 else cM g a
theorem lO_bd (g : Nat → Int) (a : Nat) : ∀ b : Nat, 0 ≤ lO g a b ∧ lO g a b ≤ b
  | 0 => ⟨Int.le_refl 0, Int.le_refl 0⟩
  | b + 1 => by
    have := lO_bd g a b
    unfold lO
    split <;> omega
theorem cM_bd (g : Nat → Int) : ∀ a, 0 ≤ cM g a ∧ cM g a ≤ 6
  | 0 => ⟨Int.le_refl 0, (by decide : (0 : Int) ≤ 6)⟩
  | a + 1 => by
    have h1 := cM_bd g a
    have h2 := lO_bd g a 6
    unfold cM
    split
    · exact h1
    · split <;> omega
theorem lO_cg {g g' : Nat → Int} {a : Nat} (ha : a < 6) (h : ∀ b, b < 6 → g b = g' b) : ∀ b, b ≤ 6 → lO g a b = lO g' a b
  | 0, _ => rfl
  | b + 1, hb => by
    unfold lO
    rw [lO_cg ha h b (by omega), h b (by omega), h a ha]
theorem cM_cg {g g' : Nat → Int} (h : ∀ b, b < 6 → g b = g' b) : ∀ a, a ≤ 6 → cM g a = cM g' a
  | 0, _ => rfl
  | a + 1, ha => by
    unfold cM
    rw [cM_cg h a (by omega), h a (by omega), lO_cg (by omega) h 6 (Nat.le_refl 6)]
theorem lO_aC {S : Nat} {s h : Int} (hs : 0 ≤ s ∧ s ≤ 240) (hh : 0 ≤ h ∧ h ≤ 9) {a : Nat} (ha : S.testBit a = true) : ∀ b, lO (gW S s h) a b = aC S s h a b
  | 0 => rfl
  | b + 1 => by
    have e : gW S s h a = sWo a s h := if_pos ha
    have b1 := sWo_bd (k := (a : Int)) hs hh
    unfold lO aC
    rw [lO_aC hs hh ha b, e]
    by_cases hb : S.testBit b = true
    · have e2 : gW S s h b = sWo b s h := if_pos hb
      rw [e2]
      by_cases e3 : sWo b s h = sWo a s h
      · rw [if_pos e3, if_pos ⟨ha, hb, e3.symm⟩]
      · rw [if_neg e3, if_neg (fun q => e3 q.2.2.symm), Int.add_zero]
    · have e2 : gW S s h b = -1 := if_neg hb
      rw [e2, if_neg (by omega), if_neg (fun q => hb q.2.1), Int.add_zero]
theorem aC_0 {S : Nat} {s h : Int} {a : Nat} (ha : ¬ S.testBit a = true) : ∀ b, aC S s h a b = 0
  | 0 => rfl
  | b + 1 => by
    unfold aC
    rw [aC_0 ha b, if_neg (fun q => ha q.1)]; rfl
theorem cM_aM {S : Nat} {s h : Int} (hs : 0 ≤ s ∧ s ≤ 240) (hh : 0 ≤ h ∧ h ≤ 9) : ∀ a, cM (gW S s h) a = aM S s h a
  | 0 => rfl
  | a + 1 => by
    have b0 := aM_bd S s h a
    unfold cM aM
    rw [cM_aM hs hh a]
    by_cases ha : S.testBit a = true
    · have e : gW S s h a = sWo a s h := if_pos ha
      have b1 := sWo_bd (k := (a : Int)) hs hh
      rw [if_neg (by rw [e]; omega), lO_aC hs hh ha 6]
    · rw [if_pos (show gW S s h a = -1 from if_neg ha), aC_0 ha 6, if_neg (by omega)]
def oS (f : Nat → Int) (z : Int × Int) : Nat → Int × Int
  | 0 => z
  | j + 1 => if f j < (oS f z j).2 then ((j : Int), f j) else oS f z j
theorem oS_start {f : Nat → Int} {z z' : Int × Int} (h : f 0 < z.2) (h' : f 0 < z'.2) : ∀ j, oS f z (j + 1) = oS f z' (j + 1)
  | 0 => by
    show (if f 0 < z.2 then _ else _) = if f 0 < z'.2 then _ else _
    rw [if_pos h, if_pos h']
  | j + 1 => by
    show (if f (j + 1) < (oS f z (j + 1)).2 then (((j + 1 : Nat) : Int), f (j + 1)) else oS f z (j + 1)) = if f (j + 1) < (oS f z' (j + 1)).2 then (((j + 1 : Nat) : Int), f (j + 1)) else oS f z' (j + 1)
    rw [oS_start h h' j]
theorem oS_cg {f g : Nat → Int} (z : Int × Int) : ∀ k, (∀ i, i < k → f i = g i) → oS f z k = oS g z k
  | 0, _ => rfl
  | k + 1, h => by
    unfold oS
    rw [oS_cg z k (fun i hi => h i (by omega)), h k (by omega)]
theorem oS_bd {f : Nat → Int} {z : Int × Int} {M : Int} (hf : ∀ j, 0 ≤ f j ∧ f j ≤ M) (hz : 0 ≤ z.2 ∧ z.2 ≤ M) : ∀ j, 0 ≤ (oS f z j).2 ∧ (oS f z j).2 ≤ M
  | 0 => hz
  | j + 1 => by
    unfold oS
    split
    · exact hf j
    · exact oS_bd hf hz j
def oF (V : Nat → Nat → Int) (S : Nat) (j : Nat) : Int := aM S (sDk V ((j / 10 : Nat) : Int)) ((j % 10 : Nat) : Int) 6
theorem oF_at (V : Nat → Nat → Int) (S : Nat) {y h : Nat} (hh : h < 10) : oF V S (10 * y + h) = aM S (sDk V y) h 6 := by
  unfold oF
  rw [show (10 * y + h) / 10 = y by omega, show (10 * y + h) % 10 = h by omega]
theorem zRU (ζ : zSt) (k : Nat) (f : Nat → Int) (i : Nat) (x : Int) : zU (zR ζ k f) k i x = zR ζ k (zu f i x) := by
  refine Prod.ext (funext fun a => funext fun b => ?_) rfl
  rw [zU_at, zR_at, zR_at]
  by_cases h : a = k
  · rw [if_pos h, if_pos h, zu_at]
    by_cases h2 : b = i
    · rw [if_pos ⟨h, h2⟩, if_pos h2]
    · rw [if_neg (fun q => h2 q.2), if_neg h2]
  · rw [if_neg (fun q => h q.1), if_neg h, if_neg h]
theorem zR_self (ζ : zSt) (k : Nat) : zR ζ k (ζ.1 k) = ζ := by
  refine Prod.ext (funext fun a => funext fun b => ?_) rfl
  rw [zR_at]
  split
  · rename_i h; rw [h]
  · rfl
theorem zR_off {ζ : zSt} {k : Nat} {f : Nat → Int} {a : Nat} (h : a ≠ k) : (zR ζ k f).1 a = ζ.1 a := by rw [zR_row, if_neg h]
def hF (g f : Nat → Int) (k b : Nat) : Int := if b < k then g b else f b
theorem hF_0 (g f : Nat → Int) : hF g f 0 = f := funext fun b => if_neg (by omega)
theorem hF_s (g f : Nat → Int) (k : Nat) : zu (hF g f k) k (g k) = hF g f (k + 1) := by
  funext b
  rw [zu_at]
  unfold hF
  by_cases h : b = k
  · rw [if_pos h, if_pos (by omega), h]
  · rw [if_neg h]
    by_cases h2 : b < k
    · rw [if_pos h2, if_pos (by omega)]
    · rw [if_neg h2, if_neg (by omega)]
section Gue
variable {l : Launch} {B : eB} {ζ : zSt}
set_option maxHeartbeats 4000000 in
theorem run_X1_fits {c k : Nat} (hc : cnOk ζ c) {p : Int} (hp : -2147483648 ≤ p ∧ p ≤ 2147483647) (hk6 : k < 6) : zRun l B mX1_fits [.ref 1, zi p, zi k] ζ (some (zi (b2i (cF ζ p c k)))) ζ := by
  obtain ⟨hcc, hc6, hN⟩ := hc
  refine zrun_intro (M := mX1_fits) (ls := [some (.ref 1), some (zi p), some (zi k), none, none]) (by decide) rfl rfl rfl (Nat.le_of_ble_eq_true rfl) ?_
  intro X A C hX hA hr hk
  replace C : CX X B A mX1_fits.2.2.2.2 RX1 cX1_fits 5 0 0 := C
  have hr : (xMeth X).sig.returnType = (some .boolean) := hr
  change ZW X B A 5 0 0 _ _ 0 [some (.ref 1), some (zi p), some (zi k), none, none] []
  have loop : ∀ m i : Nat, i + m = c → cF ζ p i k = true → ∀ o4 : Option Value, ZW X B A 5 0 0 (eFin X B (some (zi (b2i (cF ζ p c k)))) (zz ζ)) ζ 2 [some (.ref 1), some (zi p), some (zi k), some (zi i), o4] [] := by
    intro m
    induction m with
    | zero =>
      intro i him hg o4
      have e : i = c := by omega
      subst e
      refine zw_iload_n (i := 3) (nx := 3) C dX1_fits_2 rfl rfl rfl ?_
      refine zw_aload_n (i := 0) (nx := 4) C dX1_fits_3 rfl rfl rfl ?_
      refine zw_geti (nx := 7) C dX1_fits_4 rfl flX1_35 iq2 rfl rfl rfl rfl ?_
      refine zw_icmp_ge (tgt := 68) (nx := 10) C dX1_fits_7 rfl rfl (by omega) (fun h7 => ?_) (fun h7 => by exfalso; omega)
      refine zw_iconst (nx := 69) C dX1_fits_68 rfl ?_
      exact zw_bret C hA hr hk dX1_fits_69 (by rw [hg]; rfl) rfl rfl
    | succ m ih =>
      intro i him hg o4
      obtain ⟨a0, a1, a2, a3⟩ := hN i (by omega)
      have hw := sWo_bd (k := (k : Int)) a1 a2
      have step : cF ζ p (i + 1) k = (cF ζ p i k && decide (¬ ζ.1 8 (4 * i) = p ∨ sWo k (ζ.1 8 (4 * i + 1)) (ζ.1 8 (4 * i + 2)) = ζ.1 8 (4 * i + 3))) := rfl
      have next : (¬ ζ.1 8 (4 * i) = p ∨ sWo k (ζ.1 8 (4 * i + 1)) (ζ.1 8 (4 * i + 2)) = ζ.1 8 (4 * i + 3)) → ∀ o4 : Option Value, ZW X B A 5 0 0 (eFin X B (some (zi (b2i (cF ζ p c k)))) (zz ζ)) ζ 62 [some (.ref 1), some (zi p), some (zi k), some (zi i), o4] [] := by
        intro h o4
        refine zw_iinc3 (nx := 65) C dX1_fits_62 rfl (Nat.le_of_ble_eq_true rfl) rfl ?_
        refine zw_goto (nx := 2) C dX1_fits_65 rfl ?_
        exact ih (i + 1) (by omega) (by rw [step, hg, decide_eq_true h]; rfl) o4
      refine zw_iload_n (i := 3) (nx := 3) C dX1_fits_2 rfl rfl rfl ?_
      refine zw_aload_n (i := 0) (nx := 4) C dX1_fits_3 rfl rfl rfl ?_
      refine zw_geti (nx := 7) C dX1_fits_4 rfl flX1_35 iq2 rfl rfl rfl rfl ?_
      refine zw_icmp_ge (tgt := 68) (nx := 10) C dX1_fits_7 rfl rfl (by omega) (fun h7 => by exfalso; omega) (fun h7 => ?_)
      refine zw_iload_n (i := 3) (nx := 11) C dX1_fits_10 rfl rfl rfl ?_
      refine zw_iconst (nx := 12) C dX1_fits_11 rfl ?_
      refine zw_imul (nx := 13) C dX1_fits_12 rfl ?_
      refine zw_ist4 (nx := 15) C (eIst_w dX1_fits_13 rfl) (Nat.le_of_ble_eq_true rfl) rfl ?_
      refine zw_aload_n (i := 0) (nx := 16) C dX1_fits_15 rfl rfl rfl ?_
      refine zw_getr (nx := 19) C dX1_fits_16 rfl flX1_39 iq2 rfl rfl rfl rfl ?_
      refine zw_iload (nx := 21) C dX1_fits_19 rfl rfl ?_
      refine zw_iald ((4 * i)) (nx := 22) C dX1_fits_21 rfl rfl rfl rfl (by omega) ?_
      refine zw_iload_n (i := 1) (nx := 23) C dX1_fits_22 rfl rfl rfl ?_
      refine zw_icmp_ne (tgt := 62) (nx := 26) C dX1_fits_23 rfl rfl (by omega) (fun h23 => ?_) (fun h23 => ?_)
      · exact next (Or.inl h23) _
      · refine zw_iload_n (i := 2) (nx := 27) C dX1_fits_26 rfl rfl rfl ?_
        refine zw_aload_n (i := 0) (nx := 28) C dX1_fits_27 rfl rfl rfl ?_
        refine zw_getr (nx := 31) C dX1_fits_28 rfl flX1_39 iq2 rfl rfl rfl rfl ?_
        refine zw_iload (nx := 33) C dX1_fits_31 rfl rfl ?_
        refine zw_iconst (nx := 34) C dX1_fits_33 rfl ?_
        refine zw_iadd (nx := 35) C dX1_fits_34 rfl ?_
        refine zw_iald ((4 * i + 1)) (nx := 36) C dX1_fits_35 rfl rfl rfl rfl (by omega) ?_
        refine zw_aload_n (i := 0) (nx := 37) C dX1_fits_36 rfl rfl rfl ?_
        refine zw_getr (nx := 40) C dX1_fits_37 rfl flX1_39 iq2 rfl rfl rfl rfl ?_
        refine zw_iload (nx := 42) C dX1_fits_40 rfl rfl ?_
        refine zw_iconst (nx := 43) C dX1_fits_42 rfl ?_
        refine zw_iadd (nx := 44) C dX1_fits_43 rfl ?_
        refine zw_iald ((4 * i + 2)) (nx := 45) C dX1_fits_44 rfl rfl rfl rfl (by omega) ?_
        refine zw_cS31 (nx := 48) C dX1_fits_45 rfl csX1_42 ⟨Nat.le_of_ble_eq_true rfl, Nat.le_of_ble_eq_true rfl⟩ (Nat.le_of_ble_eq_true rfl) (run_X3_worth (by omega) a1 a2) ?_
        refine zw_aload_n (i := 0) (nx := 49) C dX1_fits_48 rfl rfl rfl ?_
        refine zw_getr (nx := 52) C dX1_fits_49 rfl flX1_39 iq2 rfl rfl rfl rfl ?_
        refine zw_iload (nx := 54) C dX1_fits_52 rfl rfl ?_
        refine zw_iconst (nx := 55) C dX1_fits_54 rfl ?_
        refine zw_iadd (nx := 56) C dX1_fits_55 rfl ?_
        refine zw_iald ((4 * i + 3)) (nx := 57) C dX1_fits_56 rfl rfl rfl rfl (by omega) ?_
        refine zw_icmp_eq (tgt := 62) (nx := 60) C dX1_fits_57 rfl rfl (by omega) (fun h57 => ?_) (fun h57 => ?_)
        · exact next (Or.inr h57) _
        · have e0 : cF ζ p (i + 1) k = false := by
            rw [step, hg, decide_eq_false (fun q => by rcases q with q | q; exact q h23; exact h57 q)]; rfl
          have e1 : cF ζ p c k = false := by
            have := gF_mono e0 m
            rw [show i + 1 + m = c by omega] at this
            exact this
          refine zw_iconst (nx := 61) C dX1_fits_60 rfl ?_
          exact zw_bret C hA hr hk dX1_fits_61 (by rw [e1]; rfl) rfl rfl
  refine zw_iconst (nx := 1) C dX1_fits_0 rfl ?_
  refine zw_ist3 (nx := 2) C (eIst_n dX1_fits_1 rfl rfl) (Nat.le_of_ble_eq_true rfl) rfl ?_
  exact loop c 0 (by omega) rfl _
theorem run_X1_kindsOf {c : Nat} (hc : cnOk ζ c) {p : Int} (hp : -2147483648 ≤ p ∧ p ≤ 2147483647) : zRun l B mX1_kindsOf [.ref 50, .ref 1, zi p] ζ (some (zi (gK (cF ζ p c) 6))) ζ := by
  refine zrun_intro (M := mX1_kindsOf) (ls := [some (.ref 50), some (.ref 1), some (zi p), none, none]) (by decide) rfl rfl rfl (Nat.le_of_ble_eq_true rfl) ?_
  intro X A C hX hA hr hk
  replace C : CX X B A mX1_kindsOf.2.2.2.2 RX1 cX1_kindsOf 5 0 0 := C
  have hr : (xMeth X).sig.returnType = (some .int) := hr
  change ZW X B A 5 0 0 _ _ 0 [some (.ref 50), some (.ref 1), some (zi p), none, none] []
  have loop : ∀ m k : Nat, k + m = 6 → ZW X B A 5 0 0 (eFin X B (some (zi (gK (cF ζ p c) 6))) (zz ζ)) ζ 5 [some (.ref 50), some (.ref 1), some (zi p), some (zi (gK (cF ζ p c) k)), some (zi k)] [] := by
    intro m
    induction m with
    | zero =>
      intro k hkm
      have e : k = 6 := by omega
      subst e
      refine zw_iload (nx := 7) C dX1_kindsOf_5 rfl rfl ?_
      refine zw_bipush (v := 6) (nx := 9) C dX1_kindsOf_7 (by decide) rfl ?_
      refine zw_icmp_ge (tgt := 35) (nx := 12) C dX1_kindsOf_9 rfl rfl (by omega) (fun h9 => ?_) (fun h9 => by exfalso; omega)
      refine zw_iload_n (i := 3) (nx := 36) C dX1_kindsOf_35 rfl rfl rfl ?_
      exact zw_iret C hA hr hk dX1_kindsOf_36 rfl rfl
    | succ m ih =>
      intro k hkm
      refine zw_iload (nx := 7) C dX1_kindsOf_5 rfl rfl ?_
      refine zw_bipush (v := 6) (nx := 9) C dX1_kindsOf_7 (by decide) rfl ?_
      refine zw_icmp_ge (tgt := 35) (nx := 12) C dX1_kindsOf_9 rfl rfl (by omega) (fun h9 => by exfalso; omega) (fun h9 => ?_)
      refine zw_aload_n (i := 1) (nx := 13) C dX1_kindsOf_12 rfl rfl rfl ?_
      refine zw_iload_n (i := 2) (nx := 14) C dX1_kindsOf_13 rfl rfl rfl ?_
      refine zw_iload (nx := 16) C dX1_kindsOf_14 rfl rfl ?_
      refine zw_cS31 (nx := 19) C dX1_kindsOf_16 rfl csX1_17 ⟨Nat.le_of_ble_eq_true rfl, Nat.le_of_ble_eq_true rfl⟩ (Nat.le_of_ble_eq_true rfl) (run_X1_fits hc hp (by omega)) ?_
      refine zw_ifb_eq (tgt := 29) (nx := 22) C dX1_kindsOf_19 rfl rfl (fun h19 => ?_) (fun h19 => ?_)
      · have e : gK (cF ζ p c) (k + 1) = gK (cF ζ p c) k := if_neg (by rw [h19]; decide)
        rw [← e]
        refine zw_iinc4 (nx := 32) C dX1_kindsOf_29 rfl (Nat.le_of_ble_eq_true rfl) rfl ?_
        refine zw_goto (nx := 5) C dX1_kindsOf_32 rfl ?_
        exact ih (k + 1) (by omega)
      · have e : gK (cF ζ p c) (k + 1) = gK (cF ζ p c) k ||| 2 ^ k := if_pos h19
        refine zw_iload_n (i := 3) (nx := 23) C dX1_kindsOf_22 rfl rfl rfl ?_
        refine zw_iconst (nx := 24) C dX1_kindsOf_23 rfl ?_
        refine zw_iload (nx := 26) C dX1_kindsOf_24 rfl rfl ?_
        refine zw_ishl (c := ((2 ^ k : Nat) : Int)) (nx := 27) C dX1_kindsOf_26 (by exact shl_ok (by omega)) rfl ?_
        refine zw_ior (c := ((gK (cF ζ p c) k ||| 2 ^ k : Nat) : Int)) (nx := 28) C dX1_kindsOf_27 (by exact or_ok (gK_lt _ k (by omega)) (by omega)) rfl ?_
        refine zw_ist3 (nx := 29) C (eIst_n dX1_kindsOf_28 rfl rfl) (Nat.le_of_ble_eq_true rfl) rfl ?_
        rw [← e]
        refine zw_iinc4 (nx := 32) C dX1_kindsOf_29 rfl (Nat.le_of_ble_eq_true rfl) rfl ?_
        refine zw_goto (nx := 5) C dX1_kindsOf_32 rfl ?_
        exact ih (k + 1) (by omega)
  refine zw_iconst (nx := 1) C dX1_kindsOf_0 rfl ?_
  refine zw_ist3 (nx := 2) C (eIst_n dX1_kindsOf_1 rfl rfl) (Nat.le_of_ble_eq_true rfl) rfl ?_
  refine zw_iconst (nx := 3) C dX1_kindsOf_2 rfl ?_
  refine zw_ist4 (nx := 5) C (eIst_w dX1_kindsOf_3 rfl) (Nat.le_of_ble_eq_true rfl) rfl ?_
  exact loop 6 0 (by omega)
theorem run_X1_likeOnes {a : Nat} (ha : a < 6) (hb : ∀ b, b < 6 → -1 ≤ ζ.1 51 b ∧ ζ.1 51 b ≤ 420) : zRun l B mX1_likeOnes [.ref 50, zi a] ζ (some (zi (lO (ζ.1 51) a 6))) ζ := by
  refine zrun_intro (M := mX1_likeOnes) (ls := [some (.ref 50), some (zi a), none, none]) (by decide) rfl rfl rfl (Nat.le_of_ble_eq_true rfl) ?_
  intro X A C hX hA hr hk
  replace C : CX X B A mX1_likeOnes.2.2.2.2 RX1 cX1_likeOnes 4 0 0 := C
  have hr : (xMeth X).sig.returnType = (some .int) := hr
  change ZW X B A 4 0 0 _ _ 0 [some (.ref 50), some (zi a), none, none] []
  have h1 := hb a ha
  have loop : ∀ m b : Nat, b + m = 6 → ZW X B A 4 0 0 (eFin X B (some (zi (lO (ζ.1 51) a 6))) (zz ζ)) ζ 4 [some (.ref 50), some (zi a), some (zi (lO (ζ.1 51) a b)), some (zi b)] [] := by
    intro m
    induction m with
    | zero =>
      intro b hbm
      have e : b = 6 := by omega
      subst e
      refine zw_iload_n (i := 3) (nx := 5) C dX1_likeOnes_4 rfl rfl rfl ?_
      refine zw_bipush (v := 6) (nx := 7) C dX1_likeOnes_5 (by decide) rfl ?_
      refine zw_icmp_ge (tgt := 34) (nx := 10) C dX1_likeOnes_7 rfl rfl (by omega) (fun h7 => ?_) (fun h7 => by exfalso; omega)
      refine zw_iload_n (i := 2) (nx := 35) C dX1_likeOnes_34 rfl rfl rfl ?_
      exact zw_iret C hA hr hk dX1_likeOnes_35 rfl rfl
    | succ m ih =>
      intro b hbm
      have h2 := hb b (by omega)
      refine zw_iload_n (i := 3) (nx := 5) C dX1_likeOnes_4 rfl rfl rfl ?_
      refine zw_bipush (v := 6) (nx := 7) C dX1_likeOnes_5 (by decide) rfl ?_
      refine zw_icmp_ge (tgt := 34) (nx := 10) C dX1_likeOnes_7 rfl rfl (by omega) (fun h7 => by exfalso; omega) (fun h7 => ?_)
      refine zw_aload_n (i := 0) (nx := 11) C dX1_likeOnes_10 rfl rfl rfl ?_
      refine zw_getr (nx := 14) C dX1_likeOnes_11 rfl flX1_11 iq1 rfl rfl rfl rfl ?_
      refine zw_iload_n (i := 3) (nx := 15) C dX1_likeOnes_14 rfl rfl rfl ?_
      refine zw_iald (b) (nx := 16) C dX1_likeOnes_15 rfl rfl rfl rfl (by omega) ?_
      refine zw_aload_n (i := 0) (nx := 17) C dX1_likeOnes_16 rfl rfl rfl ?_
      refine zw_getr (nx := 20) C dX1_likeOnes_17 rfl flX1_11 iq1 rfl rfl rfl rfl ?_
      refine zw_iload_n (i := 1) (nx := 21) C dX1_likeOnes_20 rfl rfl rfl ?_
      refine zw_iald (a) (nx := 22) C dX1_likeOnes_21 rfl rfl rfl rfl (by omega) ?_
      refine zw_icmp_ne (tgt := 28) (nx := 25) C dX1_likeOnes_22 rfl rfl (by omega) (fun h22 => ?_) (fun h22 => ?_)
      · have e : lO (ζ.1 51) a (b + 1) = lO (ζ.1 51) a b := if_neg h22
        rw [← e]
        refine zw_iinc3 (nx := 31) C dX1_likeOnes_28 rfl (Nat.le_of_ble_eq_true rfl) rfl ?_
        refine zw_goto (nx := 4) C dX1_likeOnes_31 rfl ?_
        exact ih (b + 1) (by omega)
      · have e : lO (ζ.1 51) a (b + 1) = lO (ζ.1 51) a b + 1 := if_pos h22
        refine zw_iinc2 (nx := 28) C dX1_likeOnes_25 rfl (Nat.le_of_ble_eq_true rfl) rfl ?_
        rw [← e]
        refine zw_iinc3 (nx := 31) C dX1_likeOnes_28 rfl (Nat.le_of_ble_eq_true rfl) rfl ?_
        refine zw_goto (nx := 4) C dX1_likeOnes_31 rfl ?_
        exact ih (b + 1) (by omega)
  refine zw_iconst (nx := 1) C dX1_likeOnes_0 rfl ?_
  refine zw_ist2 (nx := 2) C (eIst_n dX1_likeOnes_1 rfl rfl) (Nat.le_of_ble_eq_true rfl) rfl ?_
  refine zw_iconst (nx := 3) C dX1_likeOnes_2 rfl ?_
  refine zw_ist3 (nx := 4) C (eIst_n dX1_likeOnes_3 rfl rfl) (Nat.le_of_ble_eq_true rfl) rfl ?_
  exact loop 6 0 (by omega)
set_option maxHeartbeats 4000000 in
theorem run_X1_mostAlike {S : Nat} {s h : Int} {f : Nat → Int} (hS : S < 256) (hs : 0 ≤ s ∧ s ≤ 240) (hh : 0 ≤ h ∧ h ≤ 9) : zRun l B mX1_mostAlike [.ref 50, zi S, zi s, zi h] (zR ζ 51 f) (some (zi (aM S s h 6))) (zR ζ 51 (hF (gW S s h) f 6)) := by
  have hgb : ∀ b : Nat, -1 ≤ gW S s h b ∧ gW S s h b ≤ 420 := fun b => by
    have := sWo_bd (k := (b : Int)) hs hh
    unfold gW; split <;> omega
  have e51 : ∀ b, b < 6 → (zR ζ 51 (hF (gW S s h) f 6)).1 51 b = gW S s h b := fun b hb => by
    rw [zR_at, if_pos rfl]; exact if_pos hb
  have ecm : cM ((zR ζ 51 (hF (gW S s h) f 6)).1 51) 6 = aM S s h 6 := by
    rw [cM_cg e51 6 (Nat.le_refl 6), cM_aM hs hh]
  refine zrun_intro (M := mX1_mostAlike) (ls := [some (.ref 50), some (zi S), some (zi s), some (zi h), none, none]) (by decide) rfl rfl rfl (Nat.le_of_ble_eq_true rfl) ?_
  intro X A C hX hA hr hk
  replace C : CX X B A mX1_mostAlike.2.2.2.2 RX1 cX1_mostAlike 6 0 0 := C
  have hr : (xMeth X).sig.returnType = (some .int) := hr
  change ZW X B A 6 0 0 _ _ 0 [some (.ref 50), some (zi S), some (zi s), some (zi h), none, none] []
  have l2 : ∀ m a : Nat, a + m = 6 → ZW X B A 6 0 0 (eFin X B (some (zi (aM S s h 6))) (zz (zR ζ 51 (hF (gW S s h) f 6)))) (zR ζ 51 (hF (gW S s h) f 6)) 50 [some (.ref 50), some (zi S), some (zi s), some (zi h), some (zi (cM ((zR ζ 51 (hF (gW S s h) f 6)).1 51) a)), some (zi a)] [] := by
    intro m
    induction m with
    | zero =>
      intro a ham
      have e : a = 6 := by omega
      subst e
      refine zw_iload (nx := 52) C dX1_mostAlike_50 rfl rfl ?_
      refine zw_bipush (v := 6) (nx := 54) C dX1_mostAlike_52 (by decide) rfl ?_
      refine zw_icmp_ge (tgt := 87) (nx := 57) C dX1_mostAlike_54 rfl rfl (by omega) (fun h54 => ?_) (fun h54 => by exfalso; omega)
      refine zw_iload (nx := 89) C dX1_mostAlike_87 rfl rfl ?_
      exact zw_iret C hA hr hk dX1_mostAlike_89 (zr ecm.symm) rfl
    | succ m ih =>
      intro a ham
      have h1 := e51 a (by omega)
      have h2 := hgb a
      have h3 := cM_bd ((zR ζ 51 (hF (gW S s h) f 6)).1 51) a
      have h4 := lO_bd ((zR ζ 51 (hF (gW S s h) f 6)).1 51) a 6
      refine zw_iload (nx := 52) C dX1_mostAlike_50 rfl rfl ?_
      refine zw_bipush (v := 6) (nx := 54) C dX1_mostAlike_52 (by decide) rfl ?_
      refine zw_icmp_ge (tgt := 87) (nx := 57) C dX1_mostAlike_54 rfl rfl (by omega) (fun h54 => by exfalso; omega) (fun h54 => ?_)
      refine zw_aload_n (i := 0) (nx := 58) C dX1_mostAlike_57 rfl rfl rfl ?_
      refine zw_getr (nx := 61) C dX1_mostAlike_58 rfl flX1_11 iq1 rfl rfl rfl rfl ?_
      refine zw_iload (nx := 63) C dX1_mostAlike_61 rfl rfl ?_
      refine zw_iald (a) (nx := 64) C dX1_mostAlike_63 rfl rfl rfl rfl (by omega) ?_
      refine zw_iconst (nx := 65) C dX1_mostAlike_64 rfl ?_
      refine zw_icmp_eq (tgt := 81) (nx := 68) C dX1_mostAlike_65 rfl rfl (by omega) (fun h65 => ?_) (fun h65 => ?_)
      · have e : cM ((zR ζ 51 (hF (gW S s h) f 6)).1 51) (a + 1) = cM ((zR ζ 51 (hF (gW S s h) f 6)).1 51) a := if_pos h65
        rw [← e]
        refine zw_iinc5 (nx := 84) C dX1_mostAlike_81 rfl (Nat.le_of_ble_eq_true rfl) rfl ?_
        refine zw_goto (nx := 50) C dX1_mostAlike_84 rfl ?_
        exact ih (a + 1) (by omega)
      · have e : cM ((zR ζ 51 (hF (gW S s h) f 6)).1 51) (a + 1) = if cM ((zR ζ 51 (hF (gW S s h) f 6)).1 51) a < lO ((zR ζ 51 (hF (gW S s h) f 6)).1 51) a 6 then lO ((zR ζ 51 (hF (gW S s h) f 6)).1 51) a 6 else cM ((zR ζ 51 (hF (gW S s h) f 6)).1 51) a := if_neg h65
        refine zw_iload (nx := 70) C dX1_mostAlike_68 rfl rfl ?_
        refine zw_aload_n (i := 0) (nx := 71) C dX1_mostAlike_70 rfl rfl rfl ?_
        refine zw_iload (nx := 73) C dX1_mostAlike_71 rfl rfl ?_
        refine zw_cV11 (nx := 76) C dX1_mostAlike_73 rfl cvX1_45 rfl rfl ⟨Nat.le_of_ble_eq_true rfl, Nat.le_of_ble_eq_true rfl⟩ rfl rfl (Nat.le_of_ble_eq_true rfl) (run_X1_likeOnes (by omega) (fun b hb => by rw [e51 b hb]; exact hgb b)) ?_
        refine zw_max (nx := 79) C dX1_mostAlike_76 rfl wlX1_48 ws_max wi_math wc_max (Nat.le_of_ble_eq_true rfl) (Nat.le_of_ble_eq_true rfl) (Nat.le_of_ble_eq_true rfl) (by omega) ?_
        refine zw_ist4 (nx := 81) C (eIst_w dX1_mostAlike_79 rfl) (Nat.le_of_ble_eq_true rfl) rfl ?_
        rw [← e]
        refine zw_iinc5 (nx := 84) C dX1_mostAlike_81 rfl (Nat.le_of_ble_eq_true rfl) rfl ?_
        refine zw_goto (nx := 50) C dX1_mostAlike_84 rfl ?_
        exact ih (a + 1) (by omega)
  have l1 : ∀ m k : Nat, k + m = 6 → ∀ o5 : Option Value, ZW X B A 6 0 0 (eFin X B (some (zi (aM S s h 6))) (zz (zR ζ 51 (hF (gW S s h) f 6)))) (zR ζ 51 (hF (gW S s h) f k)) 3 [some (.ref 50), some (zi S), some (zi s), some (zi h), some (zi k), o5] [] := by
    intro m
    induction m with
    | zero =>
      intro k hkm o5
      have e : k = 6 := by omega
      subst e
      refine zw_iload (nx := 5) C dX1_mostAlike_3 rfl rfl ?_
      refine zw_bipush (v := 6) (nx := 7) C dX1_mostAlike_5 (by decide) rfl ?_
      refine zw_icmp_ge (tgt := 44) (nx := 10) C dX1_mostAlike_7 rfl rfl (by omega) (fun h7 => ?_) (fun h7 => by exfalso; omega)
      refine zw_iconst (nx := 45) C dX1_mostAlike_44 rfl ?_
      refine zw_ist4 (nx := 47) C (eIst_w dX1_mostAlike_45 rfl) (Nat.le_of_ble_eq_true rfl) rfl ?_
      refine zw_iconst (nx := 48) C dX1_mostAlike_47 rfl ?_
      refine zw_ist5 (nx := 50) C (eIst_w dX1_mostAlike_48 rfl) (Nat.le_of_ble_eq_true rfl) rfl ?_
      exact l2 6 0 (by omega)
    | succ m ih =>
      intro k hkm o5
      have hm : (S >>> k) % 2 < 2 := Nat.mod_lt _ (by decide)
      refine zw_iload (nx := 5) C dX1_mostAlike_3 rfl rfl ?_
      refine zw_bipush (v := 6) (nx := 7) C dX1_mostAlike_5 (by decide) rfl ?_
      refine zw_icmp_ge (tgt := 44) (nx := 10) C dX1_mostAlike_7 rfl rfl (by omega) (fun h7 => by exfalso; omega) (fun h7 => ?_)
      refine zw_aload_n (i := 0) (nx := 11) C dX1_mostAlike_10 rfl rfl rfl ?_
      refine zw_getr (nx := 14) C dX1_mostAlike_11 rfl flX1_11 iq1 rfl rfl rfl rfl ?_
      refine zw_iload (nx := 16) C dX1_mostAlike_14 rfl rfl ?_
      refine zw_iload_n (i := 1) (nx := 17) C dX1_mostAlike_16 rfl rfl rfl ?_
      refine zw_iload (nx := 19) C dX1_mostAlike_17 rfl rfl ?_
      refine zw_ishr (c := ((S >>> k : Nat) : Int)) (nx := 20) C dX1_mostAlike_19 (by exact shr_ok hS (by omega)) rfl ?_
      refine zw_iconst (nx := 21) C dX1_mostAlike_20 rfl ?_
      refine zw_iand (c := ((S >>> k % 2 : Nat) : Int)) (nx := 22) C dX1_mostAlike_21 (by exact and_ok (shr_lt hS)) rfl ?_
      refine zw_iconst (nx := 23) C dX1_mostAlike_22 rfl ?_
      refine zw_icmp_ne (tgt := 36) (nx := 26) C dX1_mostAlike_23 rfl rfl (by omega) (fun h23 => ?_) (fun h23 => ?_)
      · have e : gW S s h k = -1 := if_neg (fun q => by rw [bit_iff] at q; omega)
        refine zw_iconst (nx := 37) C dX1_mostAlike_36 rfl ?_
        refine zw_iast (k) (nx := 38) C dX1_mostAlike_37 rfl rfl rfl rfl (by omega) ?_
        rw [← e, zRU, hF_s]
        refine zw_iinc4 (nx := 41) C dX1_mostAlike_38 rfl (Nat.le_of_ble_eq_true rfl) rfl ?_
        refine zw_goto (nx := 3) C dX1_mostAlike_41 rfl ?_
        exact ih (k + 1) (by omega) _
      · have e : gW S s h k = sWo k s h := if_pos (by rw [bit_iff]; omega)
        refine zw_iload (nx := 28) C dX1_mostAlike_26 rfl rfl ?_
        refine zw_iload_n (i := 2) (nx := 29) C dX1_mostAlike_28 rfl rfl rfl ?_
        refine zw_iload_n (i := 3) (nx := 30) C dX1_mostAlike_29 rfl rfl rfl ?_
        refine zw_cS31 (nx := 33) C dX1_mostAlike_30 rfl csX1_42 ⟨Nat.le_of_ble_eq_true rfl, Nat.le_of_ble_eq_true rfl⟩ (Nat.le_of_ble_eq_true rfl) (run_X3_worth (by omega) hs hh) ?_
        refine zw_goto (nx := 37) C dX1_mostAlike_33 rfl ?_
        refine zw_iast (k) (nx := 38) C dX1_mostAlike_37 rfl rfl rfl rfl (by omega) ?_
        rw [← e, zRU, hF_s]
        refine zw_iinc4 (nx := 41) C dX1_mostAlike_38 rfl (Nat.le_of_ble_eq_true rfl) rfl ?_
        refine zw_goto (nx := 3) C dX1_mostAlike_41 rfl ?_
        exact ih (k + 1) (by omega) _
  refine zw_iconst (nx := 1) C dX1_mostAlike_0 rfl ?_
  refine zw_ist4 (nx := 3) C (eIst_w dX1_mostAlike_1 rfl) (Nat.le_of_ble_eq_true rfl) rfl ?_
  have := l1 6 0 (by omega) none
  rw [hF_0] at this
  exact this
theorem cOk_R51 {n : Nat} (h : cOk ζ n) (f : Nat → Int) : cOk (zR ζ 51 f) n := h
theorem cnOk_R51 {n : Nat} (h : cnOk ζ n) (f : Nat → Int) : cnOk (zR ζ 51 f) n := h
set_option maxHeartbeats 4000000 in
theorem run_X1_nextFor_0 {c : Nat} (hn : cnOk ζ c) {p : Int} (hp : -2147483648 ≤ p ∧ p ≤ 2147483647) (h0 : gK (cF ζ p c) 6 = 0) : zRun l B mX1_nextFor [.ref 50, .ref 1, zi p] ζ (some (zi (-1))) ζ := by
  refine zrun_intro (M := mX1_nextFor) (ls := [some (.ref 50), some (.ref 1), some (zi p), none, none, none, none, none, none, none]) (by decide) rfl rfl rfl (Nat.le_of_ble_eq_true rfl) ?_
  intro X A C hX hA hr hk
  replace C : CX X B A mX1_nextFor.2.2.2.2 RX1 cX1_nextFor 10 0 0 := C
  have hr : (xMeth X).sig.returnType = (some .int) := hr
  change ZW X B A 10 0 0 _ _ 0 [some (.ref 50), some (.ref 1), some (zi p), none, none, none, none, none, none, none] []
  refine zw_aload_n (i := 0) (nx := 1) C dX1_nextFor_0 rfl rfl rfl ?_
  refine zw_aload_n (i := 1) (nx := 2) C dX1_nextFor_1 rfl rfl rfl ?_
  refine zw_iload_n (i := 2) (nx := 3) C dX1_nextFor_2 rfl rfl rfl ?_
  refine zw_cV21 (nx := 6) C dX1_nextFor_3 rfl cvX1_21 rfl rfl ⟨Nat.le_of_ble_eq_true rfl, Nat.le_of_ble_eq_true rfl⟩ rfl rfl (Nat.le_of_ble_eq_true rfl) (run_X1_kindsOf hn hp) ?_
  refine zw_ist3 (nx := 7) C (eIst_n dX1_nextFor_6 rfl rfl) (Nat.le_of_ble_eq_true rfl) rfl ?_
  rw [h0]
  refine zw_iload_n (i := 3) (nx := 8) C dX1_nextFor_7 rfl rfl rfl ?_
  refine zw_if_ne (tgt := 13) (nx := 11) C dX1_nextFor_8 rfl rfl (by omega) (fun h8 => by exfalso; omega) (fun h8 => ?_)
  refine zw_iconst (nx := 12) C dX1_nextFor_11 rfl ?_
  exact zw_iret C hA hr hk dX1_nextFor_12 rfl rfl
set_option maxHeartbeats 4000000 in
theorem run_X1_nextFor {n c : Nat} (hc : cOk ζ n) (hn : cnOk ζ c) {p : Int} (hp : -2147483648 ≤ p ∧ p ≤ 2147483647) (h0 : gK (cF ζ p c) 6 ≠ 0) : ∃ f, zRun l B mX1_nextFor [.ref 50, .ref 1, zi p] ζ (some (zi (oS (oF (cV ζ) (gK (cF ζ p c) 6)) (-1, 7) 80).1)) (zR ζ 51 f) := by
  have hS := gK_lt (cF ζ p c) 6 (by decide)
  have rk := fun X : eX => run_X1_kindsOf (l := xLa X) (B := B) hn hp
  generalize gK (cF ζ p c) 6 = S at h0 hS rk
  let ff : Nat → (Nat → Int) := fun j => Nat.rec (ζ.1 51) (fun j f => hF (gW S (sDk (cV ζ) ((j / 10 : Nat) : Int)) ((j % 10 : Nat) : Int)) f 6) j
  have ff0 : ff 0 = ζ.1 51 := rfl
  have ffs : ∀ y h : Nat, h < 10 → ff (10 * y + h + 1) = hF (gW S (sDk (cV ζ) y) h) (ff (10 * y + h)) 6 := fun y h hh => by
    show hF (gW S (sDk (cV ζ) (((10 * y + h) / 10 : Nat) : Int)) (((10 * y + h) % 10 : Nat) : Int)) (ff (10 * y + h)) 6 = _
    rw [show (10 * y + h) / 10 = y by omega, show (10 * y + h) % 10 = h by omega]
  generalize ff = ff at ff0 ffs
  refine ⟨ff 80, ?_⟩
  have hob := oS_bd (f := oF (cV ζ) S) (z := (-1, 7)) (M := 7) (fun j => by
    have := aM_bd S (sDk (cV ζ) ((j / 10 : Nat) : Int)) ((j % 10 : Nat) : Int) 6
    unfold oF; omega) ⟨by decide, by decide⟩
  generalize hg : oF (cV ζ) S = g at hob
  have hga : ∀ y h : Nat, h < 10 → g (10 * y + h) = aM S (sDk (cV ζ) y) h 6 := fun y h hh => by rw [← hg]; exact oF_at _ S hh
  refine zrun_intro (M := mX1_nextFor) (ls := [some (.ref 50), some (.ref 1), some (zi p), none, none, none, none, none, none, none]) (by decide) rfl rfl rfl (Nat.le_of_ble_eq_true rfl) ?_
  intro X A C hX hA hr hk
  replace C : CX X B A mX1_nextFor.2.2.2.2 RX1 cX1_nextFor 10 0 0 := C
  have hr : (xMeth X).sig.returnType = (some .int) := hr
  change ZW X B A 10 0 0 _ _ 0 [some (.ref 50), some (.ref 1), some (zi p), none, none, none, none, none, none, none] []
  have l1 : ∀ m y : Nat, y + m = 8 → ∀ o7 o8 o9 : Option Value, ZW X B A 10 0 0 (eFin X B (some (zi (oS g (-1, 7) 80).1)) (zz (zR ζ 51 (ff 80)))) (zR ζ 51 (ff (10 * y))) 23 [some (.ref 50), some (.ref 1), some (zi p), some (zi S), some (zi (oS g (-1, 7) (10 * y)).1), some (zi (oS g (-1, 7) (10 * y)).2), some (zi y), o7, o8, o9] [] := by
    intro m
    induction m with
    | zero =>
      intro y hym o7 o8 o9
      have e : y = 8 := by omega
      subst e
      refine zw_iload (nx := 25) C dX1_nextFor_23 rfl rfl ?_
      refine zw_bipush (v := 8) (nx := 27) C dX1_nextFor_25 (by decide) rfl ?_
      refine zw_icmp_ge (tgt := 92) (nx := 30) C dX1_nextFor_27 rfl rfl (by omega) (fun h27 => ?_) (fun h27 => by exfalso; omega)
      refine zw_iload (nx := 94) C dX1_nextFor_92 rfl rfl ?_
      exact zw_iret C hA hr hk dX1_nextFor_94 rfl rfl
    | succ m ih =>
      intro y hym o7 o8 o9
      have l2 : ∀ m h : Nat, h + m = 10 → ∀ o9 : Option Value, ZW X B A 10 0 0 (eFin X B (some (zi (oS g (-1, 7) 80).1)) (zz (zR ζ 51 (ff 80)))) (zR ζ 51 (ff (10 * y + h))) 41 [some (.ref 50), some (.ref 1), some (zi p), some (zi S), some (zi (oS g (-1, 7) (10 * y + h)).1), some (zi (oS g (-1, 7) (10 * y + h)).2), some (zi y), some (zi (sDk (cV ζ) y)), some (zi h), o9] [] := by
        intro m
        induction m with
        | zero =>
          intro h hhm o9
          have e : h = 10 := by omega
          subst e
          refine zw_iload (nx := 43) C dX1_nextFor_41 rfl rfl ?_
          refine zw_bipush (v := 9) (nx := 45) C dX1_nextFor_43 (by decide) rfl ?_
          refine zw_icmp_gt (tgt := 86) (nx := 48) C dX1_nextFor_45 rfl rfl (by omega) (fun h45 => ?_) (fun h45 => by exfalso; omega)
          refine zw_iinc6 (nx := 89) C dX1_nextFor_86 rfl (Nat.le_of_ble_eq_true rfl) rfl ?_
          refine zw_goto (nx := 23) C dX1_nextFor_89 rfl ?_
          have := ih (y + 1) (by omega) (some (zi (sDk (cV ζ) y))) (some (zi (10 : Nat))) o9
          rw [show 10 * (y + 1) = 10 * y + 10 by omega] at this
          exact this
        | succ m ih2 =>
          intro h hhm o9
          have b1 := hob (10 * y + h)
          have b2 := aM_bd S (sDk (cV ζ) y) h 6
          refine zw_iload (nx := 43) C dX1_nextFor_41 rfl rfl ?_
          refine zw_bipush (v := 9) (nx := 45) C dX1_nextFor_43 (by decide) rfl ?_
          refine zw_icmp_gt (tgt := 86) (nx := 48) C dX1_nextFor_45 rfl rfl (by omega) (fun h45 => by exfalso; omega) (fun h45 => ?_)
          refine zw_aload_n (i := 0) (nx := 49) C dX1_nextFor_48 rfl rfl rfl ?_
          refine zw_iload_n (i := 3) (nx := 50) C dX1_nextFor_49 rfl rfl rfl ?_
          refine zw_iload (nx := 52) C dX1_nextFor_50 rfl rfl ?_
          refine zw_iload (nx := 54) C dX1_nextFor_52 rfl rfl ?_
          refine zw_cV31 (nx := 57) C dX1_nextFor_54 rfl cvX1_31 rfl rfl ⟨Nat.le_of_ble_eq_true rfl, Nat.le_of_ble_eq_true rfl⟩ rfl rfl (Nat.le_of_ble_eq_true rfl) (run_X1_mostAlike hS (hc.1.dk y) (by omega)) ?_
          rw [← ffs y h (by omega), ← hga y h (by omega)]
          rw [← hga y h (by omega)] at b2
          refine zw_ist9 (nx := 59) C (eIst_w dX1_nextFor_57 rfl) (Nat.le_of_ble_eq_true rfl) rfl ?_
          refine zw_iload (nx := 61) C dX1_nextFor_59 rfl rfl ?_
          refine zw_iload (nx := 63) C dX1_nextFor_61 rfl rfl ?_
          refine zw_icmp_ge (tgt := 80) (nx := 66) C dX1_nextFor_63 rfl rfl (by omega) (fun h63 => ?_) (fun h63 => ?_)
          · have e : oS g (-1, 7) (10 * y + h + 1) = oS g (-1, 7) (10 * y + h) := if_neg (by omega)
            rw [← e]
            refine zw_iinc8 (nx := 83) C dX1_nextFor_80 rfl (Nat.le_of_ble_eq_true rfl) rfl ?_
            refine zw_goto (nx := 41) C dX1_nextFor_83 rfl ?_
            exact ih2 (h + 1) (by omega) _
          · have e : oS g (-1, 7) (10 * y + h + 1) = (((10 * y + h : Nat) : Int), g (10 * y + h)) := if_pos (by omega)
            refine zw_iload (nx := 68) C dX1_nextFor_66 rfl rfl ?_
            refine zw_ist5 (nx := 70) C (eIst_w dX1_nextFor_68 rfl) (Nat.le_of_ble_eq_true rfl) rfl ?_
            refine zw_bipush (v := 10) (nx := 72) C dX1_nextFor_70 (by decide) rfl ?_
            refine zw_iload (nx := 74) C dX1_nextFor_72 rfl rfl ?_
            refine zw_imul (nx := 75) C dX1_nextFor_74 rfl ?_
            refine zw_iload (nx := 77) C dX1_nextFor_75 rfl rfl ?_
            refine zw_iadd (nx := 78) C dX1_nextFor_77 rfl ?_
            refine zw_ist4 (nx := 80) C (eIst_w dX1_nextFor_78 rfl) (Nat.le_of_ble_eq_true rfl) rfl ?_
            refine zw_iinc8 (nx := 83) C dX1_nextFor_80 rfl (Nat.le_of_ble_eq_true rfl) rfl ?_
            refine zw_goto (nx := 41) C dX1_nextFor_83 rfl ?_
            have := ih2 (h + 1) (by omega) (some (zi (g (10 * y + h))))
            rw [show 10 * y + (h + 1) = 10 * y + h + 1 from rfl, e, show (((10 * y + h : Nat) : Int), g (10 * y + h)).1 = 10 * (y : Int) + (h : Int) from by omega] at this
            exact this
      refine zw_iload (nx := 25) C dX1_nextFor_23 rfl rfl ?_
      refine zw_bipush (v := 8) (nx := 27) C dX1_nextFor_25 (by decide) rfl ?_
      refine zw_icmp_ge (tgt := 92) (nx := 30) C dX1_nextFor_27 rfl rfl (by omega) (fun h27 => by exfalso; omega) (fun h27 => ?_)
      refine zw_aload_n (i := 1) (nx := 31) C dX1_nextFor_30 rfl rfl rfl ?_
      refine zw_iload (nx := 33) C dX1_nextFor_31 rfl rfl ?_
      refine zw_cV11 (nx := 36) C dX1_nextFor_33 rfl cvX1_25 rfl rfl ⟨Nat.le_of_ble_eq_true rfl, Nat.le_of_ble_eq_true rfl⟩ rfl rfl (Nat.le_of_ble_eq_true rfl) (run_X2_darkIn (cOk_R51 hc _) (by omega)) ?_
      refine zw_ist7 (nx := 38) C (eIst_w dX1_nextFor_36 rfl) (Nat.le_of_ble_eq_true rfl) rfl ?_
      refine zw_iconst (nx := 39) C dX1_nextFor_38 rfl ?_
      refine zw_ist8 (nx := 41) C (eIst_w dX1_nextFor_39 rfl) (Nat.le_of_ble_eq_true rfl) rfl ?_
      exact l2 10 0 (by omega) _
  refine zw_aload_n (i := 0) (nx := 1) C dX1_nextFor_0 rfl rfl rfl ?_
  refine zw_aload_n (i := 1) (nx := 2) C dX1_nextFor_1 rfl rfl rfl ?_
  refine zw_iload_n (i := 2) (nx := 3) C dX1_nextFor_2 rfl rfl rfl ?_
  refine zw_cV21 (nx := 6) C dX1_nextFor_3 rfl cvX1_21 rfl rfl ⟨Nat.le_of_ble_eq_true rfl, Nat.le_of_ble_eq_true rfl⟩ rfl rfl (Nat.le_of_ble_eq_true rfl) (rk X) ?_
  refine zw_ist3 (nx := 7) C (eIst_n dX1_nextFor_6 rfl rfl) (Nat.le_of_ble_eq_true rfl) rfl ?_
  refine zw_iload_n (i := 3) (nx := 8) C dX1_nextFor_7 rfl rfl rfl ?_
  refine zw_if_ne (tgt := 13) (nx := 11) C dX1_nextFor_8 rfl rfl (by omega) (fun h8 => ?_) (fun h8 => by exfalso; omega)
  refine zw_iconst (nx := 14) C dX1_nextFor_13 rfl ?_
  refine zw_ist4 (nx := 16) C (eIst_w dX1_nextFor_14 rfl) (Nat.le_of_ble_eq_true rfl) rfl ?_
  refine zw_bipush (v := 7) (nx := 18) C dX1_nextFor_16 (by decide) rfl ?_
  refine zw_ist5 (nx := 20) C (eIst_w dX1_nextFor_18 rfl) (Nat.le_of_ble_eq_true rfl) rfl ?_
  refine zw_iconst (nx := 21) C dX1_nextFor_20 rfl ?_
  refine zw_ist6 (nx := 23) C (eIst_w dX1_nextFor_21 rfl) (Nat.le_of_ble_eq_true rfl) rfl ?_
  have := l1 8 0 (by omega) none none none
  rw [show 10 * 0 = 0 from rfl, ff0, zR_self] at this
  exact this
theorem run_X6_is_bad {n : Nat} (hn : n ≤ 5) (hn3 : ζ.1 1 3 = n) {p : Int} (hp : -2147483648 ≤ p ∧ p ≤ 2147483647) (h : ¬ (0 ≤ p ∧ p < n)) : zRun l B mX6_is [.ref 0, zi p] ζ (some (zi (-2))) (bdS ζ) := by
  refine zrun_intro (M := mX6_is) (ls := [some (.ref 0), some (zi p)]) (by decide) rfl rfl rfl (Nat.le_of_ble_eq_true rfl) ?_
  intro X A C hX hA hr hk
  replace C : CX X B A mX6_is.2.2.2.2 RX6 cX6_is 2 0 0 := C
  have hr : (xMeth X).sig.returnType = (some .int) := hr
  change ZW X B A 2 0 0 _ _ 0 [some (.ref 0), some (zi p)] []
  refine zw_aload_n (i := 0) (nx := 1) C dX6_is_0 rfl rfl rfl ?_
  refine zw_iload_n (i := 1) (nx := 2) C dX6_is_1 rfl rfl rfl ?_
  refine zw_cV11 (nx := 5) C dX6_is_2 rfl cvX6_151 rfl rfl ⟨Nat.le_of_ble_eq_true rfl, Nat.le_of_ble_eq_true rfl⟩ rfl rfl (Nat.le_of_ble_eq_true rfl) (run_X6_isBidder_f hn hn3 hp h) ?_
  refine zw_if_eq (tgt := 23) (nx := 8) C dX6_is_5 rfl rfl (by omega) (fun h5 => ?_) (fun h5 => by exfalso; omega)
  refine zw_aload_n (i := 0) (nx := 24) C dX6_is_23 rfl rfl rfl ?_
  refine zw_bipush (v := -2) (nx := 26) C dX6_is_24 (by decide) rfl ?_
  refine zw_cV11 (nx := 29) C dX6_is_26 rfl cvX6_71 rfl rfl ⟨Nat.le_of_ble_eq_true rfl, Nat.le_of_ble_eq_true rfl⟩ rfl rfl (Nat.le_of_ble_eq_true rfl) run_X6_bad ?_
  exact zw_iret C hA hr hk dX6_is_29 rfl rfl
theorem run_X6_is_ok {n c : Nat} (hn : n ≤ 5) (hn3 : ζ.1 1 3 = n) (hc : cnOk ζ c) {p : Int} (h : 0 ≤ p ∧ p < n) : zRun l B mX6_is [.ref 0, zi p] ζ (some (zi (gK (cF ζ p c) 6))) ζ := by
  refine zrun_intro (M := mX6_is) (ls := [some (.ref 0), some (zi p)]) (by decide) rfl rfl rfl (Nat.le_of_ble_eq_true rfl) ?_
  intro X A C hX hA hr hk
  replace C : CX X B A mX6_is.2.2.2.2 RX6 cX6_is 2 0 0 := C
  have hr : (xMeth X).sig.returnType = (some .int) := hr
  change ZW X B A 2 0 0 _ _ 0 [some (.ref 0), some (zi p)] []
  refine zw_aload_n (i := 0) (nx := 1) C dX6_is_0 rfl rfl rfl ?_
  refine zw_iload_n (i := 1) (nx := 2) C dX6_is_1 rfl rfl rfl ?_
  refine zw_cV11 (nx := 5) C dX6_is_2 rfl cvX6_151 rfl rfl ⟨Nat.le_of_ble_eq_true rfl, Nat.le_of_ble_eq_true rfl⟩ rfl rfl (Nat.le_of_ble_eq_true rfl) (run_X6_isBidder_t hn hn3 h) ?_
  refine zw_if_eq (tgt := 23) (nx := 8) C dX6_is_5 rfl rfl (by omega) (fun h5 => by exfalso; omega) (fun h5 => ?_)
  refine zw_aload_n (i := 0) (nx := 9) C dX6_is_8 rfl rfl rfl ?_
  refine zw_getr (nx := 12) C dX6_is_9 rfl flX6_47 iq5 rfl rfl rfl rfl ?_
  refine zw_aload_n (i := 0) (nx := 13) C dX6_is_12 rfl rfl rfl ?_
  refine zw_getr (nx := 16) C dX6_is_13 rfl flX6_12 iq5 rfl rfl rfl rfl ?_
  refine zw_iload_n (i := 1) (nx := 17) C dX6_is_16 rfl rfl rfl ?_
  refine zw_cV21 (nx := 20) C dX6_is_17 rfl cvX6_202 rfl rfl ⟨Nat.le_of_ble_eq_true rfl, Nat.le_of_ble_eq_true rfl⟩ rfl rfl (Nat.le_of_ble_eq_true rfl) (run_X1_kindsOf hc (by omega)) ?_
  refine zw_goto (nx := 29) C dX6_is_20 rfl ?_
  exact zw_iret C hA hr hk dX6_is_29 rfl rfl
theorem run_X6_offer_bad {n : Nat} (hn : n ≤ 5) (hn3 : ζ.1 1 3 = n) {p : Int} (hp : -2147483648 ≤ p ∧ p ≤ 2147483647) (h : ¬ (0 ≤ p ∧ p < n)) : zRun l B mX6_offer [.ref 0, zi p] ζ (some (zi (-2))) (bdS ζ) := by
  refine zrun_intro (M := mX6_offer) (ls := [some (.ref 0), some (zi p)]) (by decide) rfl rfl rfl (Nat.le_of_ble_eq_true rfl) ?_
  intro X A C hX hA hr hk
  replace C : CX X B A mX6_offer.2.2.2.2 RX6 cX6_offer 2 0 0 := C
  have hr : (xMeth X).sig.returnType = (some .int) := hr
  change ZW X B A 2 0 0 _ _ 0 [some (.ref 0), some (zi p)] []
  refine zw_aload_n (i := 0) (nx := 1) C dX6_offer_0 rfl rfl rfl ?_
  refine zw_iload_n (i := 1) (nx := 2) C dX6_offer_1 rfl rfl rfl ?_
  refine zw_cV11 (nx := 5) C dX6_offer_2 rfl cvX6_151 rfl rfl ⟨Nat.le_of_ble_eq_true rfl, Nat.le_of_ble_eq_true rfl⟩ rfl rfl (Nat.le_of_ble_eq_true rfl) (run_X6_isBidder_f hn hn3 hp h) ?_
  refine zw_if_eq (tgt := 23) (nx := 8) C dX6_offer_5 rfl rfl (by omega) (fun h5 => ?_) (fun h5 => by exfalso; omega)
  refine zw_aload_n (i := 0) (nx := 24) C dX6_offer_23 rfl rfl rfl ?_
  refine zw_bipush (v := -2) (nx := 26) C dX6_offer_24 (by decide) rfl ?_
  refine zw_cV11 (nx := 29) C dX6_offer_26 rfl cvX6_71 rfl rfl ⟨Nat.le_of_ble_eq_true rfl, Nat.le_of_ble_eq_true rfl⟩ rfl rfl (Nat.le_of_ble_eq_true rfl) run_X6_bad ?_
  exact zw_iret C hA hr hk dX6_offer_29 rfl rfl
theorem run_X6_offer_0 {n c : Nat} (hn : n ≤ 5) (hn3 : ζ.1 1 3 = n) (hc : cnOk ζ c) {p : Int} (h : 0 ≤ p ∧ p < n) (h0 : gK (cF ζ p c) 6 = 0) : zRun l B mX6_offer [.ref 0, zi p] ζ (some (zi (-1))) ζ := by
  refine zrun_intro (M := mX6_offer) (ls := [some (.ref 0), some (zi p)]) (by decide) rfl rfl rfl (Nat.le_of_ble_eq_true rfl) ?_
  intro X A C hX hA hr hk
  replace C : CX X B A mX6_offer.2.2.2.2 RX6 cX6_offer 2 0 0 := C
  have hr : (xMeth X).sig.returnType = (some .int) := hr
  change ZW X B A 2 0 0 _ _ 0 [some (.ref 0), some (zi p)] []
  refine zw_aload_n (i := 0) (nx := 1) C dX6_offer_0 rfl rfl rfl ?_
  refine zw_iload_n (i := 1) (nx := 2) C dX6_offer_1 rfl rfl rfl ?_
  refine zw_cV11 (nx := 5) C dX6_offer_2 rfl cvX6_151 rfl rfl ⟨Nat.le_of_ble_eq_true rfl, Nat.le_of_ble_eq_true rfl⟩ rfl rfl (Nat.le_of_ble_eq_true rfl) (run_X6_isBidder_t hn hn3 h) ?_
  refine zw_if_eq (tgt := 23) (nx := 8) C dX6_offer_5 rfl rfl (by omega) (fun h5 => by exfalso; omega) (fun h5 => ?_)
  refine zw_aload_n (i := 0) (nx := 9) C dX6_offer_8 rfl rfl rfl ?_
  refine zw_getr (nx := 12) C dX6_offer_9 rfl flX6_47 iq5 rfl rfl rfl rfl ?_
  refine zw_aload_n (i := 0) (nx := 13) C dX6_offer_12 rfl rfl rfl ?_
  refine zw_getr (nx := 16) C dX6_offer_13 rfl flX6_12 iq5 rfl rfl rfl rfl ?_
  refine zw_iload_n (i := 1) (nx := 17) C dX6_offer_16 rfl rfl rfl ?_
  refine zw_cV21 (nx := 20) C dX6_offer_17 rfl cvX6_206 rfl rfl ⟨Nat.le_of_ble_eq_true rfl, Nat.le_of_ble_eq_true rfl⟩ rfl rfl (Nat.le_of_ble_eq_true rfl) (run_X1_nextFor_0 hc (by omega) h0) ?_
  refine zw_goto (nx := 29) C dX6_offer_20 rfl ?_
  exact zw_iret C hA hr hk dX6_offer_29 rfl rfl
theorem run_X6_offer_ok {n c : Nat} (hn : cOk ζ n) (hc : cnOk ζ c) {p : Int} (h : 0 ≤ p ∧ p < n) (h0 : gK (cF ζ p c) 6 ≠ 0) : ∃ f, zRun l B mX6_offer [.ref 0, zi p] ζ (some (zi (oS (oF (cV ζ) (gK (cF ζ p c) 6)) (-1, 7) 80).1)) (zR ζ 51 f) := by
  have hn5 := hn.1.1
  obtain ⟨f, hf⟩ := run_X1_nextFor (l := l) (B := B) hn hc (p := p) (by omega) h0
  refine ⟨f, ?_⟩
  refine zrun_intro (M := mX6_offer) (ls := [some (.ref 0), some (zi p)]) (by decide) rfl rfl rfl (Nat.le_of_ble_eq_true rfl) ?_
  intro X A C hX hA hr hk
  replace C : CX X B A mX6_offer.2.2.2.2 RX6 cX6_offer 2 0 0 := C
  have hr : (xMeth X).sig.returnType = (some .int) := hr
  change ZW X B A 2 0 0 _ _ 0 [some (.ref 0), some (zi p)] []
  refine zw_aload_n (i := 0) (nx := 1) C dX6_offer_0 rfl rfl rfl ?_
  refine zw_iload_n (i := 1) (nx := 2) C dX6_offer_1 rfl rfl rfl ?_
  refine zw_cV11 (nx := 5) C dX6_offer_2 rfl cvX6_151 rfl rfl ⟨Nat.le_of_ble_eq_true rfl, Nat.le_of_ble_eq_true rfl⟩ rfl rfl (Nat.le_of_ble_eq_true rfl) (run_X6_isBidder_t hn5 hn.2.1 h) ?_
  refine zw_if_eq (tgt := 23) (nx := 8) C dX6_offer_5 rfl rfl (by omega) (fun h5 => by exfalso; omega) (fun h5 => ?_)
  refine zw_aload_n (i := 0) (nx := 9) C dX6_offer_8 rfl rfl rfl ?_
  refine zw_getr (nx := 12) C dX6_offer_9 rfl flX6_47 iq5 rfl rfl rfl rfl ?_
  refine zw_aload_n (i := 0) (nx := 13) C dX6_offer_12 rfl rfl rfl ?_
  refine zw_getr (nx := 16) C dX6_offer_13 rfl flX6_12 iq5 rfl rfl rfl rfl ?_
  refine zw_iload_n (i := 1) (nx := 17) C dX6_offer_16 rfl rfl rfl ?_
  refine zw_cV21 (nx := 20) C dX6_offer_17 rfl cvX6_206 rfl rfl ⟨Nat.le_of_ble_eq_true rfl, Nat.le_of_ble_eq_true rfl⟩ rfl rfl (Nat.le_of_ble_eq_true rfl) (by rw [hX]; exact hf) ?_
  refine zw_goto (nx := 29) C dX6_offer_20 rfl ?_
  exact zw_iret C hA hr hk dX6_offer_29 rfl rfl
end Gue
