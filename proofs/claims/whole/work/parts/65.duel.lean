/-! two who choose -/
def dG (V : Nat → Nat → Int) (p y q o : Nat) : Int := if y = o then 0 else if sBl V q o y = true then 0 else sWo (V 2 p) (sDk V y) (V 1 y)
theorem dG_bd {V : Nat → Nat → Int} {n : Nat} (h : vOk V n) (p q o : Nat) {y : Nat} (hy : y < 8) : 0 ≤ dG V p y q o ∧ dG V p y q o ≤ 420 := by
  have := sWo_bd (k := V 2 p) (h.dk y) (h.2.2.2.1 y hy)
  unfold dG
  split
  · omega
  · split <;> omega
theorem sWo_0 (k h : Int) : sWo k 0 h = 0 := by unfold sWo; omega
def rA (V : Nat → Nat → Int) (a b i j : Nat) : Nat → Bool
  | 0 => true
  | y + 1 => rA V a b i j y && decide (dG V a y b j ≤ dG V a i b j ∧ dG V b y a i ≤ dG V b j a i)
theorem rA_iff (V : Nat → Nat → Int) (a b i j : Nat) : ∀ k, rA V a b i j k = true ↔ ∀ y, y < k → dG V a y b j ≤ dG V a i b j ∧ dG V b y a i ≤ dG V b j a i
  | 0 => ⟨fun _ y hy => absurd hy (by omega), fun _ => rfl⟩
  | k + 1 => by
    unfold rA
    rw [Bool.and_eq_true, rA_iff V a b i j k, decide_eq_true_iff]
    constructor
    · rintro ⟨h1, h2⟩ y hy
      by_cases e : y = k
      · rw [e]; exact h2
      · exact h1 y (by omega)
    · intro h
      exact ⟨fun y hy => h y (by omega), h k (by omega)⟩
def rT (V : Nat → Nat → Int) (a b t : Nat) : Bool := rA V a b (t / 8) (t % 8) 8
theorem rT_at (V : Nat → Nat → Int) (a b : Nat) {i j : Nat} (hj : j < 8) : rT V a b (8 * i + j) = rA V a b i j 8 := by
  unfold rT
  rw [show (8 * i + j) / 8 = i by omega, show (8 * i + j) % 8 = j by omega]
def cN (r : Nat → Bool) : Nat → Nat
  | 0 => 0
  | t + 1 => if r t = true then cN r t + 1 else cN r t
def tW (r : Nat → Bool) (k : Int) : Nat → Int
  | 0 => -5
  | t + 1 => if r t = true ∧ (cN r t : Int) = k then (t : Int) else tW r k t
theorem cN_le (r : Nat → Bool) : ∀ t, cN r t ≤ t
  | 0 => Nat.le_refl 0
  | t + 1 => by
    have := cN_le r t
    unfold cN; split <;> omega
theorem cN_mono (r : Nat → Bool) (t : Nat) : ∀ m, cN r t ≤ cN r (t + m)
  | 0 => Nat.le_refl _
  | m + 1 => by
    have := cN_mono r t m
    show cN r t ≤ if r (t + m) = true then cN r (t + m) + 1 else cN r (t + m)
    split <;> omega
theorem tW_at {r : Nat → Bool} {k : Int} {t : Nat} (h : r t = true) (hk : (cN r t : Int) = k) : ∀ m, tW r k (t + 1 + m) = t
  | 0 => if_pos ⟨h, hk⟩
  | m + 1 => by
    have e : cN r (t + 1) = cN r t + 1 := if_pos h
    have := cN_mono r (t + 1) m
    show (if r (t + 1 + m) = true ∧ (cN r (t + 1 + m) : Int) = k then ((t + 1 + m : Nat) : Int) else tW r k (t + 1 + m)) = t
    rw [if_neg (fun q => by have := q.2; omega), tW_at h hk m]
theorem tW_none (r : Nat → Bool) : ∀ t, tW r (-1) t = -5
  | 0 => rfl
  | t + 1 => by
    unfold tW
    rw [if_neg (fun q => by have := q.2; omega), tW_none r t]
theorem cN_cg {r r' : Nat → Bool} : ∀ t, (∀ u, u < t → r u = r' u) → cN r t = cN r' t
  | 0, _ => rfl
  | t + 1, h => by
    unfold cN; rw [cN_cg t (fun u hu => h u (by omega)), h t (by omega)]
theorem tW_cg {r r' : Nat → Bool} {k : Int} : ∀ t, (∀ u, u < t → r u = r' u) → tW r k t = tW r' k t
  | 0, _ => rfl
  | t + 1, h => by
    unfold tW; rw [tW_cg t (fun u hu => h u (by omega)), h t (by omega), cN_cg t (fun u hu => h u (by omega))]
def tTwo (r : Nat → Bool) (k : Int) : Int := if k = -1 then (cN r 64 : Int) else tW r k 64
/-- rows that hold the most so far -/
def mT (k : Nat → Nat) (v : Nat → Int) (f : Nat → Int) : Nat → Nat → Int
  | 0 => f
  | t + 1 => zu (mT k v f t) (k t) (if mT k v f t (k t) < v t then v t else mT k v f t (k t))
theorem mT_ok {k : Nat → Nat} {v f : Nat → Int} (hf : ∀ j, j < 8 → f j = 0) (hv : ∀ t, t < 64 → 0 ≤ v t ∧ v t ≤ 420) : ∀ t, t ≤ 64 → ∀ j, j < 8 → (∀ u, u < t → k u = j → v u ≤ mT k v f t j) ∧ (0 ≤ mT k v f t j ∧ mT k v f t j ≤ 420) ∧ (mT k v f t j = 0 ∨ ∃ u, u < t ∧ k u = j ∧ mT k v f t j = v u)
  | 0, _, j, hj => by
    show (∀ u, u < 0 → k u = j → v u ≤ f j) ∧ (0 ≤ f j ∧ f j ≤ 420) ∧ (f j = 0 ∨ _)
    rw [hf j hj]
    exact ⟨fun u hu => absurd hu (by omega), by omega, Or.inl rfl⟩
  | t + 1, ht, j, hj => by
    obtain ⟨h1, h2, h3⟩ := mT_ok hf hv t (by omega) j hj
    have hvt := hv t (by omega)
    show (∀ u, u < t + 1 → k u = j → v u ≤ zu (mT k v f t) (k t) (if mT k v f t (k t) < v t then v t else mT k v f t (k t)) j) ∧ (0 ≤ zu (mT k v f t) (k t) (if mT k v f t (k t) < v t then v t else mT k v f t (k t)) j ∧ zu (mT k v f t) (k t) (if mT k v f t (k t) < v t then v t else mT k v f t (k t)) j ≤ 420) ∧ (zu (mT k v f t) (k t) (if mT k v f t (k t) < v t then v t else mT k v f t (k t)) j = 0 ∨ ∃ u, u < t + 1 ∧ k u = j ∧ zu (mT k v f t) (k t) (if mT k v f t (k t) < v t then v t else mT k v f t (k t)) j = v u)
    rw [zu_at]
    by_cases e : j = k t
    · rw [if_pos e, ← e]
      by_cases hlt : mT k v f t j < v t
      · rw [if_pos hlt]
        refine ⟨fun u hu hku => ?_, hvt, Or.inr ⟨t, by omega, e.symm, rfl⟩⟩
        by_cases eu : u = t
        · rw [eu]; exact Int.le_refl _
        · have := h1 u (by omega) hku; omega
      · rw [if_neg hlt]
        refine ⟨fun u hu hku => ?_, h2, ?_⟩
        · by_cases eu : u = t
          · rw [eu]; omega
          · exact h1 u (by omega) hku
        · rcases h3 with h3 | ⟨u, hu, h4⟩
          · exact Or.inl h3
          · exact Or.inr ⟨u, by omega, h4⟩
    · rw [if_neg e]
      refine ⟨fun u hu hku => ?_, h2, ?_⟩
      · by_cases eu : u = t
        · rw [eu] at hku; exact absurd hku.symm e
        · exact h1 u (by omega) hku
      · rcases h3 with h3 | ⟨u, hu, h4⟩
        · exact Or.inl h3
        · exact Or.inr ⟨u, by omega, h4⟩
def dS (ζ : zSt) (f1 f2 f3 f4 : Nat → Int) : zSt := zR (zR (zR (zR ζ 46 f1) 47 f2) 48 f3) 49 f4
theorem dS_at (ζ : zSt) (f1 f2 f3 f4 : Nat → Int) (a b : Nat) : (dS ζ f1 f2 f3 f4).1 a b = if a = 49 then f4 b else if a = 48 then f3 b else if a = 47 then f2 b else if a = 46 then f1 b else ζ.1 a b := rfl
theorem dS_self (ζ : zSt) : dS ζ (ζ.1 46) (ζ.1 47) (ζ.1 48) (ζ.1 49) = ζ := by
  unfold dS
  have h1 : zR ζ 46 (ζ.1 46) = ζ := zR_self ζ 46
  rw [h1, zR_self ζ 47, zR_self ζ 48, zR_self ζ 49]
theorem dS_49 (ζ : zSt) (f1 f2 f3 f4 : Nat → Int) (i : Nat) (x : Int) : zU (dS ζ f1 f2 f3 f4) 49 i x = dS ζ f1 f2 f3 (zu f4 i x) := zRU _ 49 f4 i x
theorem zRR (ζ : zSt) {k k' : Nat} (h : k ≠ k') (f : Nat → Int) (i : Nat) (x : Int) : zU (zR ζ k' f) k i x = zR (zU ζ k i x) k' f := by
  refine Prod.ext (funext fun a => funext fun b => ?_) rfl
  rw [zU_at, zR_at, zR_at, zU_at]
  by_cases e : a = k
  · rw [if_neg (show ¬ a = k' from fun q => h (e.symm.trans q)), if_neg (show ¬ a = k' from fun q => h (e.symm.trans q))]
  · rw [if_neg (fun q => e q.1), if_neg (c := a = k ∧ b = i) (fun q => e q.1)]
theorem dS_48 (ζ : zSt) (f1 f2 f3 f4 : Nat → Int) (i : Nat) (x : Int) : zU (dS ζ f1 f2 f3 f4) 48 i x = dS ζ f1 f2 (zu f3 i x) f4 := by
  unfold dS; rw [zRR _ (by decide), zRU]
theorem dS_47 (ζ : zSt) (f1 f2 f3 f4 : Nat → Int) (i : Nat) (x : Int) : zU (dS ζ f1 f2 f3 f4) 47 i x = dS ζ f1 (zu f2 i x) f3 f4 := by
  unfold dS; rw [zRR _ (by decide), zRR _ (by decide), zRU]
theorem dS_46 (ζ : zSt) (f1 f2 f3 f4 : Nat → Int) (i : Nat) (x : Int) : zU (dS ζ f1 f2 f3 f4) 46 i x = dS ζ (zu f1 i x) f2 f3 f4 := by
  unfold dS; rw [zRR _ (by decide), zRR _ (by decide), zRR _ (by decide), zRU]
theorem cV_dS (ζ : zSt) (f1 f2 f3 f4 : Nat → Int) : cV (dS ζ f1 f2 f3 f4) = cV ζ := rfl
theorem cOk_dS {ζ : zSt} {n : Nat} (h : cOk ζ n) (f1 f2 f3 f4 : Nat → Int) : cOk (dS ζ f1 f2 f3 f4) n := h
section Due
variable {l : Launch} {B : eB} {ζ : zSt}
theorem run_X0_gets {n p y q o : Nat} (hc : cOk ζ n) (hp : p < n) (hy : y < 8) (hq : q < n) (ho : o < 8) : zRun l B mX0_gets [.ref 1, zi p, zi y, zi q, zi o] ζ (some (zi (dG (cV ζ) p y q o))) ζ := by
  have hn := hc.1.1
  refine zrun_intro (M := mX0_gets) (ls := [some (.ref 1), some (zi p), some (zi y), some (zi q), some (zi o)]) (by decide) rfl rfl rfl (Nat.le_of_ble_eq_true rfl) ?_
  intro X A C hX hA hr hk
  replace C : CX X B A mX0_gets.2.2.2.2 RX0 cX0_gets 5 0 0 := C
  have hr : (xMeth X).sig.returnType = (some .int) := hr
  change ZW X B A 5 0 0 _ _ 0 [some (.ref 1), some (zi p), some (zi y), some (zi q), some (zi o)] []
  refine zw_iload_n (i := 2) (nx := 1) C dX0_gets_0 rfl rfl rfl ?_
  refine zw_iload (nx := 3) C dX0_gets_1 rfl rfl ?_
  refine zw_icmp_eq (tgt := 17) (nx := 6) C dX0_gets_3 rfl rfl (by omega) (fun h3 => ?_) (fun h3 => ?_)
  · refine zw_iconst (nx := 18) C dX0_gets_17 rfl ?_
    exact zw_iret C hA hr hk dX0_gets_18 (zr (if_pos (by omega))) rfl
  · refine zw_aload_n (i := 0) (nx := 7) C dX0_gets_6 rfl rfl rfl ?_
    refine zw_iload_n (i := 3) (nx := 8) C dX0_gets_7 rfl rfl rfl ?_
    refine zw_iload (nx := 10) C dX0_gets_8 rfl rfl ?_
    refine zw_iload_n (i := 2) (nx := 11) C dX0_gets_10 rfl rfl rfl ?_
    refine zw_cV31 (nx := 14) C dX0_gets_11 rfl cvX0_34 rfl rfl ⟨Nat.le_of_ble_eq_true rfl, Nat.le_of_ble_eq_true rfl⟩ rfl rfl (Nat.le_of_ble_eq_true rfl) (run_X2_hides hc hq ho hy) ?_
    refine zw_ifb_eq (tgt := 19) (nx := 17) C dX0_gets_14 rfl rfl (fun h14 => ?_) (fun h14 => ?_)
    · refine zw_aload_n (i := 0) (nx := 20) C dX0_gets_19 rfl rfl rfl ?_
      refine zw_getr (nx := 23) C dX0_gets_20 rfl flX0_40 iq2 rfl rfl rfl rfl ?_
      refine zw_iload_n (i := 1) (nx := 24) C dX0_gets_23 rfl rfl rfl ?_
      refine zw_iald (p) (nx := 25) C dX0_gets_24 rfl rfl rfl rfl (by omega) ?_
      refine zw_aload_n (i := 0) (nx := 26) C dX0_gets_25 rfl rfl rfl ?_
      refine zw_iload_n (i := 2) (nx := 27) C dX0_gets_26 rfl rfl rfl ?_
      refine zw_cV11 (nx := 30) C dX0_gets_27 rfl cvX0_43 rfl rfl ⟨Nat.le_of_ble_eq_true rfl, Nat.le_of_ble_eq_true rfl⟩ rfl rfl (Nat.le_of_ble_eq_true rfl) (run_X2_darkIn hc (by omega)) ?_
      refine zw_aload_n (i := 0) (nx := 31) C dX0_gets_30 rfl rfl rfl ?_
      refine zw_getr (nx := 34) C dX0_gets_31 rfl flX0_47 iq2 rfl rfl rfl rfl ?_
      refine zw_iload_n (i := 2) (nx := 35) C dX0_gets_34 rfl rfl rfl ?_
      refine zw_iald (y) (nx := 36) C dX0_gets_35 rfl rfl rfl rfl (by omega) ?_
      refine zw_cS31 (nx := 39) C dX0_gets_36 rfl csX0_50 ⟨Nat.le_of_ble_eq_true rfl, Nat.le_of_ble_eq_true rfl⟩ (Nat.le_of_ble_eq_true rfl) (run_X3_worth (hc.1.2.2.2.2 p hp).1 (hc.1.dk y) (hc.1.2.2.2.1 y hy)) ?_
      exact zw_iret C hA hr hk dX0_gets_39 (zr (by unfold dG; rw [if_neg (by omega), h14, if_neg (by decide)]; rfl)) rfl
    · refine zw_iconst (nx := 18) C dX0_gets_17 rfl ?_
      exact zw_iret C hA hr hk dX0_gets_18 (zr (by unfold dG; rw [if_neg (by omega), if_pos h14])) rfl
set_option maxHeartbeats 8000000 in
theorem run_X0_work {n a b : Nat} (hc : cOk ζ n) (ha : a < n) (hb : b < n) : ∃ f1 f2 f3 f4 : Nat → Int, zRun l B mX0_work [.ref 45, .ref 1, zi a, zi b] ζ none (dS ζ f1 f2 f3 f4) ∧ (∀ i j, i < 8 → j < 8 → f1 (8 * i + j) = dG (cV ζ) a i b j ∧ f2 (8 * i + j) = dG (cV ζ) b j a i) ∧ (∀ j, j < 8 → (∀ y, y < 8 → dG (cV ζ) a y b j ≤ f3 j) ∧ (0 ≤ f3 j ∧ f3 j ≤ 420) ∧ (f3 j = 0 ∨ ∃ y, y < 8 ∧ f3 j = dG (cV ζ) a y b j)) ∧ (∀ i, i < 8 → (∀ y, y < 8 → dG (cV ζ) b y a i ≤ f4 i) ∧ (0 ≤ f4 i ∧ f4 i ≤ 420) ∧ (f4 i = 0 ∨ ∃ y, y < 8 ∧ f4 i = dG (cV ζ) b y a i)) := by
  have hn := hc.1.1
  let v1 : Nat → Int := fun t => dG (cV ζ) a (t / 8) b (t % 8)
  let v2 : Nat → Int := fun t => dG (cV ζ) b (t % 8) a (t / 8)
  let k1 : Nat → Nat := fun t => t % 8
  let k2 : Nat → Nat := fun t => t / 8
  have d1 : ∀ i j : Nat, j < 8 → v1 (8 * i + j) = dG (cV ζ) a i b j := fun i j hj => by
    show dG (cV ζ) a ((8 * i + j) / 8) b ((8 * i + j) % 8) = _
    rw [show (8 * i + j) / 8 = i by omega, show (8 * i + j) % 8 = j by omega]
  have d2 : ∀ i j : Nat, j < 8 → v2 (8 * i + j) = dG (cV ζ) b j a i := fun i j hj => by
    show dG (cV ζ) b ((8 * i + j) % 8) a ((8 * i + j) / 8) = _
    rw [show (8 * i + j) / 8 = i by omega, show (8 * i + j) % 8 = j by omega]
  have e1 : ∀ i j : Nat, j < 8 → k1 (8 * i + j) = j := fun i j hj => by show (8 * i + j) % 8 = j; omega
  have e2 : ∀ i j : Nat, j < 8 → k2 (8 * i + j) = i := fun i j hj => by show (8 * i + j) / 8 = i; omega
  have w1 : ∀ t, t < 64 → 0 ≤ v1 t ∧ v1 t ≤ 420 := fun t ht => dG_bd hc.1 a b (t % 8) (by omega)
  have w2 : ∀ t, t < 64 → 0 ≤ v2 t ∧ v2 t ≤ 420 := fun t ht => dG_bd hc.1 b a (t / 8) (by omega)
  generalize v1 = v1 at d1 w1
  generalize v2 = v2 at d2 w2
  generalize k1 = k1 at e1
  generalize k2 = k2 at e2
  have z3 : ∀ j, j < 8 → hF (fun _ => 0) (ζ.1 48) 8 j = 0 := fun j hj => if_pos hj
  have z4 : ∀ j, j < 8 → hF (fun _ => 0) (ζ.1 49) 8 j = 0 := fun j hj => if_pos hj
  generalize hf3 : hF (fun _ => 0) (ζ.1 48) 8 = f3 at z3
  generalize hf4 : hF (fun _ => 0) (ζ.1 49) 8 = f4 at z4
  have o3 := mT_ok (k := k1) z3 w1
  have o4 := mT_ok (k := k2) z4 w2
  refine ⟨hF v1 (ζ.1 46) 64, hF v2 (ζ.1 47) 64, mT k1 v1 f3 64, mT k2 v2 f4 64, ?_, fun i j hi hj => ⟨?_, ?_⟩, fun j hj => ?_, fun i hi => ?_⟩
  · refine zrun_intro (M := mX0_work) (ls := [some (.ref 45), some (.ref 1), some (zi a), some (zi b), none, none, none, none]) (by decide) rfl rfl rfl (Nat.le_of_ble_eq_true rfl) ?_
    intro X A C hX hA hr hk
    replace C : CX X B A mX0_work.2.2.2.2 RX0 cX0_work 8 0 0 := C
    have hr : (xMeth X).sig.returnType = none := hr
    change ZW X B A 8 0 0 _ _ 0 [some (.ref 45), some (.ref 1), some (zi a), some (zi b), none, none, none, none] []
    have l1 : ∀ m i : Nat, i + m = 8 → ∀ o5 o6 o7 : Option Value, ZW X B A 8 0 0 (eFin X B none (zz (dS ζ (hF v1 (ζ.1 46) 64) (hF v2 (ζ.1 47) 64) (mT k1 v1 f3 64) (mT k2 v2 f4 64)))) (dS ζ (hF v1 (ζ.1 46) (8 * i)) (hF v2 (ζ.1 47) (8 * i)) (mT k1 v1 f3 (8 * i)) (mT k2 v2 f4 (8 * i))) 35 [some (.ref 45), some (.ref 1), some (zi a), some (zi b), some (zi i), o5, o6, o7] [] := by
      intro m
      induction m with
      | zero =>
        intro i him o5 o6 o7
        have e : i = 8 := by omega
        subst e
        refine zw_iload (nx := 37) C dX0_work_35 rfl rfl ?_
        refine zw_bipush (v := 8) (nx := 39) C dX0_work_37 (by decide) rfl ?_
        refine zw_icmp_ge (tgt := 156) (nx := 42) C dX0_work_39 rfl rfl (by omega) (fun h39 => ?_) (fun h39 => by exfalso; omega)
        exact zw_vret C hA hr hk dX0_work_156 rfl rfl
      | succ m ih =>
        intro i him o5 o6 o7
        have l2 : ∀ m j : Nat, j + m = 8 → ∀ o6 o7 : Option Value, ZW X B A 8 0 0 (eFin X B none (zz (dS ζ (hF v1 (ζ.1 46) 64) (hF v2 (ζ.1 47) 64) (mT k1 v1 f3 64) (mT k2 v2 f4 64)))) (dS ζ (hF v1 (ζ.1 46) (8 * i + j)) (hF v2 (ζ.1 47) (8 * i + j)) (mT k1 v1 f3 (8 * i + j)) (mT k2 v2 f4 (8 * i + j))) 45 [some (.ref 45), some (.ref 1), some (zi a), some (zi b), some (zi i), some (zi j), o6, o7] [] := by
          intro m
          induction m with
          | zero =>
            intro j hjm o6 o7
            have e : j = 8 := by omega
            subst e
            refine zw_iload (nx := 47) C dX0_work_45 rfl rfl ?_
            refine zw_bipush (v := 8) (nx := 49) C dX0_work_47 (by decide) rfl ?_
            refine zw_icmp_ge (tgt := 150) (nx := 52) C dX0_work_49 rfl rfl (by omega) (fun h49 => ?_) (fun h49 => by exfalso; omega)
            refine zw_iinc4 (nx := 153) C dX0_work_150 rfl (Nat.le_of_ble_eq_true rfl) rfl ?_
            refine zw_goto (nx := 35) C dX0_work_153 rfl ?_
            exact ih (i + 1) (by omega) _ _ _
          | succ m ih2 =>
            intro j hjm o6 o7
            have q3 := (o3 (8 * i + j) (by omega) j (by omega)).2.1
            have q4 := (o4 (8 * i + j) (by omega) i (by omega)).2.1
            have b1 := w1 (8 * i + j) (by omega)
            have b2 := w2 (8 * i + j) (by omega)
            refine zw_iload (nx := 47) C dX0_work_45 rfl rfl ?_
            refine zw_bipush (v := 8) (nx := 49) C dX0_work_47 (by decide) rfl ?_
            refine zw_icmp_ge (tgt := 150) (nx := 52) C dX0_work_49 rfl rfl (by omega) (fun h49 => by exfalso; omega) (fun h49 => ?_)
            refine zw_aload_n (i := 1) (nx := 53) C dX0_work_52 rfl rfl rfl ?_
            refine zw_iload_n (i := 2) (nx := 54) C dX0_work_53 rfl rfl rfl ?_
            refine zw_iload (nx := 56) C dX0_work_54 rfl rfl ?_
            refine zw_iload_n (i := 3) (nx := 57) C dX0_work_56 rfl rfl rfl ?_
            refine zw_iload (nx := 59) C dX0_work_57 rfl rfl ?_
            refine zw_cS51 (nx := 62) C dX0_work_59 rfl csX0_24 ⟨Nat.le_of_ble_eq_true rfl, Nat.le_of_ble_eq_true rfl⟩ (Nat.le_of_ble_eq_true rfl) (run_X0_gets (cOk_dS hc _ _ _ _) ha (by omega) hb (by omega)) ?_
            refine zw_ist6 (nx := 64) C (eIst_w dX0_work_62 rfl) (Nat.le_of_ble_eq_true rfl) rfl ?_
            refine zw_aload_n (i := 1) (nx := 65) C dX0_work_64 rfl rfl rfl ?_
            refine zw_iload_n (i := 3) (nx := 66) C dX0_work_65 rfl rfl rfl ?_
            refine zw_iload (nx := 68) C dX0_work_66 rfl rfl ?_
            refine zw_iload_n (i := 2) (nx := 69) C dX0_work_68 rfl rfl rfl ?_
            refine zw_iload (nx := 71) C dX0_work_69 rfl rfl ?_
            refine zw_cS51 (nx := 74) C dX0_work_71 rfl csX0_24 ⟨Nat.le_of_ble_eq_true rfl, Nat.le_of_ble_eq_true rfl⟩ (Nat.le_of_ble_eq_true rfl) (run_X0_gets (cOk_dS hc _ _ _ _) hb (by omega) ha (by omega)) ?_
            refine zw_ist7 (nx := 76) C (eIst_w dX0_work_74 rfl) (Nat.le_of_ble_eq_true rfl) rfl ?_
            rw [cV_dS, ← d1 i j (by omega), ← d2 i j (by omega)]
            refine zw_aload_n (i := 0) (nx := 77) C dX0_work_76 rfl rfl rfl ?_
            refine zw_getr (nx := 80) C dX0_work_77 rfl flX0_9 iq0 rfl rfl rfl rfl ?_
            refine zw_bipush (v := 8) (nx := 82) C dX0_work_80 (by decide) rfl ?_
            refine zw_iload (nx := 84) C dX0_work_82 rfl rfl ?_
            refine zw_imul (nx := 85) C dX0_work_84 rfl ?_
            refine zw_iload (nx := 87) C dX0_work_85 rfl rfl ?_
            refine zw_iadd (nx := 88) C dX0_work_87 rfl ?_
            refine zw_iload (nx := 90) C dX0_work_88 rfl rfl ?_
            refine zw_iast ((8 * i + j)) (nx := 91) C dX0_work_90 rfl rfl rfl rfl (by omega) ?_
            refine zw_aload_n (i := 0) (nx := 92) C dX0_work_91 rfl rfl rfl ?_
            refine zw_getr (nx := 95) C dX0_work_92 rfl flX0_15 iq0 rfl rfl rfl rfl ?_
            refine zw_bipush (v := 8) (nx := 97) C dX0_work_95 (by decide) rfl ?_
            refine zw_iload (nx := 99) C dX0_work_97 rfl rfl ?_
            refine zw_imul (nx := 100) C dX0_work_99 rfl ?_
            refine zw_iload (nx := 102) C dX0_work_100 rfl rfl ?_
            refine zw_iadd (nx := 103) C dX0_work_102 rfl ?_
            refine zw_iload (nx := 105) C dX0_work_103 rfl rfl ?_
            refine zw_iast ((8 * i + j)) (nx := 106) C dX0_work_105 rfl rfl rfl rfl (by omega) ?_
            rw [dS_46, hF_s, dS_47, hF_s]
            refine zw_aload_n (i := 0) (nx := 107) C dX0_work_106 rfl rfl rfl ?_
            refine zw_getr (nx := 110) C dX0_work_107 rfl flX0_18 iq0 rfl rfl rfl rfl ?_
            refine zw_iload (nx := 112) C dX0_work_110 rfl rfl ?_
            refine zw_aload_n (i := 0) (nx := 113) C dX0_work_112 rfl rfl rfl ?_
            refine zw_getr (nx := 116) C dX0_work_113 rfl flX0_18 iq0 rfl rfl rfl rfl ?_
            refine zw_iload (nx := 118) C dX0_work_116 rfl rfl ?_
            refine zw_iald (j) (nx := 119) C dX0_work_118 rfl rfl rfl rfl (by omega) ?_
            rw [show (dS ζ (hF v1 (ζ.1 46) (8 * i + j + 1)) (hF v2 (ζ.1 47) (8 * i + j + 1)) (mT k1 v1 f3 (8 * i + j)) (mT k2 v2 f4 (8 * i + j))).1 48 j = mT k1 v1 f3 (8 * i + j) j from rfl]
            refine zw_iload (nx := 121) C dX0_work_119 rfl rfl ?_
            refine zw_max (nx := 124) C dX0_work_121 rfl wlX0_28 ws_max wi_math wc_max (Nat.le_of_ble_eq_true rfl) (Nat.le_of_ble_eq_true rfl) (Nat.le_of_ble_eq_true rfl) (by omega) ?_
            refine zw_iast (j) (nx := 125) C dX0_work_124 rfl rfl rfl rfl (by omega) ?_
            rw [dS_48, show zu (mT k1 v1 f3 (8 * i + j)) j (if mT k1 v1 f3 (8 * i + j) j < v1 (8 * i + j) then v1 (8 * i + j) else mT k1 v1 f3 (8 * i + j) j) = mT k1 v1 f3 (8 * i + j + 1) from by
              show _ = zu _ (k1 (8 * i + j)) (if mT k1 v1 f3 (8 * i + j) (k1 (8 * i + j)) < _ then _ else _)
              rw [e1 i j (by omega)]]
            refine zw_aload_n (i := 0) (nx := 126) C dX0_work_125 rfl rfl rfl ?_
            refine zw_getr (nx := 129) C dX0_work_126 rfl flX0_21 iq0 rfl rfl rfl rfl ?_
            refine zw_iload (nx := 131) C dX0_work_129 rfl rfl ?_
            refine zw_aload_n (i := 0) (nx := 132) C dX0_work_131 rfl rfl rfl ?_
            refine zw_getr (nx := 135) C dX0_work_132 rfl flX0_21 iq0 rfl rfl rfl rfl ?_
            refine zw_iload (nx := 137) C dX0_work_135 rfl rfl ?_
            refine zw_iald (i) (nx := 138) C dX0_work_137 rfl rfl rfl rfl (by omega) ?_
            rw [show (dS ζ (hF v1 (ζ.1 46) (8 * i + j + 1)) (hF v2 (ζ.1 47) (8 * i + j + 1)) (mT k1 v1 f3 (8 * i + j + 1)) (mT k2 v2 f4 (8 * i + j))).1 49 i = mT k2 v2 f4 (8 * i + j) i from rfl]
            refine zw_iload (nx := 140) C dX0_work_138 rfl rfl ?_
            refine zw_max (nx := 143) C dX0_work_140 rfl wlX0_28 ws_max wi_math wc_max (Nat.le_of_ble_eq_true rfl) (Nat.le_of_ble_eq_true rfl) (Nat.le_of_ble_eq_true rfl) (by omega) ?_
            refine zw_iast (i) (nx := 144) C dX0_work_143 rfl rfl rfl rfl (by omega) ?_
            rw [dS_49, show zu (mT k2 v2 f4 (8 * i + j)) i (if mT k2 v2 f4 (8 * i + j) i < v2 (8 * i + j) then v2 (8 * i + j) else mT k2 v2 f4 (8 * i + j) i) = mT k2 v2 f4 (8 * i + j + 1) from by
              show _ = zu _ (k2 (8 * i + j)) (if mT k2 v2 f4 (8 * i + j) (k2 (8 * i + j)) < _ then _ else _)
              rw [e2 i j (by omega)]]
            refine zw_iinc5 (nx := 147) C dX0_work_144 rfl (Nat.le_of_ble_eq_true rfl) rfl ?_
            refine zw_goto (nx := 45) C dX0_work_147 rfl ?_
            exact ih2 (j + 1) (by omega) _ _
        refine zw_iload (nx := 37) C dX0_work_35 rfl rfl ?_
        refine zw_bipush (v := 8) (nx := 39) C dX0_work_37 (by decide) rfl ?_
        refine zw_icmp_ge (tgt := 156) (nx := 42) C dX0_work_39 rfl rfl (by omega) (fun h39 => by exfalso; omega) (fun h39 => ?_)
        refine zw_iconst (nx := 43) C dX0_work_42 rfl ?_
        refine zw_ist5 (nx := 45) C (eIst_w dX0_work_43 rfl) (Nat.le_of_ble_eq_true rfl) rfl ?_
        exact l2 8 0 (by omega) _ _
    have l0 : ∀ m y : Nat, y + m = 8 → ZW X B A 8 0 0 (eFin X B none (zz (dS ζ (hF v1 (ζ.1 46) 64) (hF v2 (ζ.1 47) 64) (mT k1 v1 f3 64) (mT k2 v2 f4 64)))) (dS ζ (ζ.1 46) (ζ.1 47) (hF (fun _ => 0) (ζ.1 48) y) (hF (fun _ => 0) (ζ.1 49) y)) 3 [some (.ref 45), some (.ref 1), some (zi a), some (zi b), some (zi y), none, none, none] [] := by
      intro m
      induction m with
      | zero =>
        intro y hym
        have e : y = 8 := by omega
        subst e
        refine zw_iload (nx := 5) C dX0_work_3 rfl rfl ?_
        refine zw_bipush (v := 8) (nx := 7) C dX0_work_5 (by decide) rfl ?_
        refine zw_icmp_ge (tgt := 32) (nx := 10) C dX0_work_7 rfl rfl (by omega) (fun h7 => ?_) (fun h7 => by exfalso; omega)
        refine zw_iconst (nx := 33) C dX0_work_32 rfl ?_
        refine zw_ist4 (nx := 35) C (eIst_w dX0_work_33 rfl) (Nat.le_of_ble_eq_true rfl) rfl ?_
        have := l1 8 0 (by omega) none none none
        rw [show 8 * 0 = 0 from rfl, hF_0, hF_0] at this
        rw [hf3, hf4]
        exact this
      | succ m ih =>
        intro y hym
        refine zw_iload (nx := 5) C dX0_work_3 rfl rfl ?_
        refine zw_bipush (v := 8) (nx := 7) C dX0_work_5 (by decide) rfl ?_
        refine zw_icmp_ge (tgt := 32) (nx := 10) C dX0_work_7 rfl rfl (by omega) (fun h7 => by exfalso; omega) (fun h7 => ?_)
        refine zw_aload_n (i := 0) (nx := 11) C dX0_work_10 rfl rfl rfl ?_
        refine zw_getr (nx := 14) C dX0_work_11 rfl flX0_18 iq0 rfl rfl rfl rfl ?_
        refine zw_iload (nx := 16) C dX0_work_14 rfl rfl ?_
        refine zw_iconst (nx := 17) C dX0_work_16 rfl ?_
        refine zw_iast (y) (nx := 18) C dX0_work_17 rfl rfl rfl rfl (by omega) ?_
        refine zw_aload_n (i := 0) (nx := 19) C dX0_work_18 rfl rfl rfl ?_
        refine zw_getr (nx := 22) C dX0_work_19 rfl flX0_21 iq0 rfl rfl rfl rfl ?_
        refine zw_iload (nx := 24) C dX0_work_22 rfl rfl ?_
        refine zw_iconst (nx := 25) C dX0_work_24 rfl ?_
        refine zw_iast (y) (nx := 26) C dX0_work_25 rfl rfl rfl rfl (by omega) ?_
        rw [dS_48, dS_49, hF_s (fun _ => 0), hF_s (fun _ => 0)]
        refine zw_iinc4 (nx := 29) C dX0_work_26 rfl (Nat.le_of_ble_eq_true rfl) rfl ?_
        refine zw_goto (nx := 3) C dX0_work_29 rfl ?_
        exact ih (y + 1) (by omega)
    refine zw_iconst (nx := 1) C dX0_work_0 rfl ?_
    refine zw_ist4 (nx := 3) C (eIst_w dX0_work_1 rfl) (Nat.le_of_ble_eq_true rfl) rfl ?_
    have := l0 8 0 (by omega)
    rw [hF_0, hF_0, dS_self] at this
    exact this
  · rw [← d1 i j hj]; exact if_pos (by omega)
  · rw [← d2 i j hj]; exact if_pos (by omega)
  · obtain ⟨p1, p2, p3⟩ := o3 64 (by omega) j hj
    refine ⟨fun y hy => ?_, p2, ?_⟩
    · rw [← d1 y j hj]; exact p1 (8 * y + j) (by omega) (e1 y j hj)
    · rcases p3 with p3 | ⟨u, hu, hku, hv⟩
      · exact Or.inl p3
      · refine Or.inr ⟨u / 8, by omega, ?_⟩
        have hj2 := e1 (u / 8) (u % 8) (by omega)
        rw [show 8 * (u / 8) + u % 8 = u by omega] at hj2
        have := d1 (u / 8) (u % 8) (by omega)
        rw [show 8 * (u / 8) + u % 8 = u by omega] at this
        rw [hv, this, show u % 8 = j by omega]
  · obtain ⟨p1, p2, p3⟩ := o4 64 (by omega) i hi
    refine ⟨fun y hy => ?_, p2, ?_⟩
    · rw [← d2 i y hy]; exact p1 (8 * i + y) (by omega) (e2 i y hy)
    · rcases p3 with p3 | ⟨u, hu, hku, hv⟩
      · exact Or.inl p3
      · refine Or.inr ⟨u % 8, by omega, ?_⟩
        have hj2 := e2 (u / 8) (u % 8) (by omega)
        rw [show 8 * (u / 8) + u % 8 = u by omega] at hj2
        have := d2 (u / 8) (u % 8) (by omega)
        rw [show 8 * (u / 8) + u % 8 = u by omega] at this
        rw [hv, this, show u / 8 = i by omega]
theorem run_X0_rests {i j : Nat} (hi : i < 8) (hj : j < 8) (h1 : 0 ≤ ζ.1 46 (8 * i + j) ∧ ζ.1 46 (8 * i + j) ≤ 420) (h2 : 0 ≤ ζ.1 47 (8 * i + j) ∧ ζ.1 47 (8 * i + j) ≤ 420) (h3 : 0 ≤ ζ.1 48 j ∧ ζ.1 48 j ≤ 420) (h4 : 0 ≤ ζ.1 49 i ∧ ζ.1 49 i ≤ 420) : zRun l B mX0_rests [.ref 45, zi i, zi j] ζ (some (zi (b2i (decide (ζ.1 46 (8 * i + j) = ζ.1 48 j ∧ ζ.1 47 (8 * i + j) = ζ.1 49 i))))) ζ := by
  refine zrun_intro (M := mX0_rests) (ls := [some (.ref 45), some (zi i), some (zi j)]) (by decide) rfl rfl rfl (Nat.le_of_ble_eq_true rfl) ?_
  intro X A C hX hA hr hk
  replace C : CX X B A mX0_rests.2.2.2.2 RX0 cX0_rests 3 0 0 := C
  have hr : (xMeth X).sig.returnType = (some .boolean) := hr
  change ZW X B A 3 0 0 _ _ 0 [some (.ref 45), some (zi i), some (zi j)] []
  refine zw_aload_n (i := 0) (nx := 1) C dX0_rests_0 rfl rfl rfl ?_
  refine zw_getr (nx := 4) C dX0_rests_1 rfl flX0_9 iq0 rfl rfl rfl rfl ?_
  refine zw_bipush (v := 8) (nx := 6) C dX0_rests_4 (by decide) rfl ?_
  refine zw_iload_n (i := 1) (nx := 7) C dX0_rests_6 rfl rfl rfl ?_
  refine zw_imul (nx := 8) C dX0_rests_7 rfl ?_
  refine zw_iload_n (i := 2) (nx := 9) C dX0_rests_8 rfl rfl rfl ?_
  refine zw_iadd (nx := 10) C dX0_rests_9 rfl ?_
  refine zw_iald ((8 * i + j)) (nx := 11) C dX0_rests_10 rfl rfl rfl rfl (by omega) ?_
  refine zw_aload_n (i := 0) (nx := 12) C dX0_rests_11 rfl rfl rfl ?_
  refine zw_getr (nx := 15) C dX0_rests_12 rfl flX0_18 iq0 rfl rfl rfl rfl ?_
  refine zw_iload_n (i := 2) (nx := 16) C dX0_rests_15 rfl rfl rfl ?_
  refine zw_iald (j) (nx := 17) C dX0_rests_16 rfl rfl rfl rfl (by omega) ?_
  refine zw_icmp_ne (tgt := 44) (nx := 20) C dX0_rests_17 rfl rfl (by omega) (fun h17 => ?_) (fun h17 => ?_)
  · refine zw_iconst (nx := 45) C dX0_rests_44 rfl ?_
    exact zw_bret C hA hr hk dX0_rests_45 (by rw [decide_eq_false (fun q => h17 q.1)]; rfl) rfl rfl
  · refine zw_aload_n (i := 0) (nx := 21) C dX0_rests_20 rfl rfl rfl ?_
    refine zw_getr (nx := 24) C dX0_rests_21 rfl flX0_15 iq0 rfl rfl rfl rfl ?_
    refine zw_bipush (v := 8) (nx := 26) C dX0_rests_24 (by decide) rfl ?_
    refine zw_iload_n (i := 1) (nx := 27) C dX0_rests_26 rfl rfl rfl ?_
    refine zw_imul (nx := 28) C dX0_rests_27 rfl ?_
    refine zw_iload_n (i := 2) (nx := 29) C dX0_rests_28 rfl rfl rfl ?_
    refine zw_iadd (nx := 30) C dX0_rests_29 rfl ?_
    refine zw_iald ((8 * i + j)) (nx := 31) C dX0_rests_30 rfl rfl rfl rfl (by omega) ?_
    refine zw_aload_n (i := 0) (nx := 32) C dX0_rests_31 rfl rfl rfl ?_
    refine zw_getr (nx := 35) C dX0_rests_32 rfl flX0_21 iq0 rfl rfl rfl rfl ?_
    refine zw_iload_n (i := 1) (nx := 36) C dX0_rests_35 rfl rfl rfl ?_
    refine zw_iald (i) (nx := 37) C dX0_rests_36 rfl rfl rfl rfl (by omega) ?_
    refine zw_icmp_ne (tgt := 44) (nx := 40) C dX0_rests_37 rfl rfl (by omega) (fun h37 => ?_) (fun h37 => ?_)
    · refine zw_iconst (nx := 45) C dX0_rests_44 rfl ?_
      exact zw_bret C hA hr hk dX0_rests_45 (by rw [decide_eq_false (fun q => h37 q.2)]; rfl) rfl rfl
    · refine zw_iconst (nx := 41) C dX0_rests_40 rfl ?_
      refine zw_goto (nx := 45) C dX0_rests_41 rfl ?_
      exact zw_bret C hA hr hk dX0_rests_45 (by rw [decide_eq_true ⟨h17, h37⟩]; rfl) rfl rfl
theorem run_X6_two_bad {n : Nat} (hn : n ≤ 5) (hn3 : ζ.1 1 3 = n) {a b k : Int} (ha : -2147483648 ≤ a ∧ a ≤ 2147483647) (hb : -2147483648 ≤ b ∧ b ≤ 2147483647) (hk9 : -2147483648 ≤ k ∧ k ≤ 2147483647) (h : ¬ ((0 ≤ a ∧ a < n) ∧ (0 ≤ b ∧ b < n) ∧ a ≠ b ∧ -1 ≤ k)) : zRun l B mX6_two [.ref 0, zi a, zi b, zi k] ζ (some (zi (-10))) (bdS ζ) := by
  refine zrun_intro (M := mX6_two) (ls := [some (.ref 0), some (zi a), some (zi b), some (zi k), none, none, none]) (by decide) rfl rfl rfl (Nat.le_of_ble_eq_true rfl) ?_
  intro X A C hX hA hr hk
  replace C : CX X B A mX6_two.2.2.2.2 RX6 cX6_two 7 0 0 := C
  have hr : (xMeth X).sig.returnType = (some .int) := hr
  change ZW X B A 7 0 0 _ _ 0 [some (.ref 0), some (zi a), some (zi b), some (zi k), none, none, none] []
  by_cases h1 : 0 ≤ a ∧ a < n
  · by_cases h2 : 0 ≤ b ∧ b < n
    · by_cases h3 : a = b
      · refine zw_aload_n (i := 0) (nx := 1) C dX6_two_0 rfl rfl rfl ?_
        refine zw_iload_n (i := 1) (nx := 2) C dX6_two_1 rfl rfl rfl ?_
        refine zw_cV11 (nx := 5) C dX6_two_2 rfl cvX6_151 rfl rfl ⟨Nat.le_of_ble_eq_true rfl, Nat.le_of_ble_eq_true rfl⟩ rfl rfl (Nat.le_of_ble_eq_true rfl) (run_X6_isBidder_t hn hn3 h1) ?_
        refine zw_if_eq (tgt := 26) (nx := 8) C dX6_two_5 rfl rfl (by omega) (fun h5 => by exfalso; omega) (fun h5 => ?_)
        refine zw_aload_n (i := 0) (nx := 9) C dX6_two_8 rfl rfl rfl ?_
        refine zw_iload_n (i := 2) (nx := 10) C dX6_two_9 rfl rfl rfl ?_
        refine zw_cV11 (nx := 13) C dX6_two_10 rfl cvX6_151 rfl rfl ⟨Nat.le_of_ble_eq_true rfl, Nat.le_of_ble_eq_true rfl⟩ rfl rfl (Nat.le_of_ble_eq_true rfl) (run_X6_isBidder_t hn hn3 h2) ?_
        refine zw_if_eq (tgt := 26) (nx := 16) C dX6_two_13 rfl rfl (by omega) (fun h13 => by exfalso; omega) (fun h13 => ?_)
        refine zw_iload_n (i := 1) (nx := 17) C dX6_two_16 rfl rfl rfl ?_
        refine zw_iload_n (i := 2) (nx := 18) C dX6_two_17 rfl rfl rfl ?_
        refine zw_icmp_eq (tgt := 26) (nx := 21) C dX6_two_18 rfl rfl (by omega) (fun h18 => ?_) (fun h18 => by exfalso; omega)
        refine zw_aload_n (i := 0) (nx := 27) C dX6_two_26 rfl rfl rfl ?_
        refine zw_bipush (v := -10) (nx := 29) C dX6_two_27 (by decide) rfl ?_
        refine zw_cV11 (nx := 32) C dX6_two_29 rfl cvX6_71 rfl rfl ⟨Nat.le_of_ble_eq_true rfl, Nat.le_of_ble_eq_true rfl⟩ rfl rfl (Nat.le_of_ble_eq_true rfl) run_X6_bad ?_
        exact zw_iret C hA hr hk dX6_two_32 rfl rfl
      · refine zw_aload_n (i := 0) (nx := 1) C dX6_two_0 rfl rfl rfl ?_
        refine zw_iload_n (i := 1) (nx := 2) C dX6_two_1 rfl rfl rfl ?_
        refine zw_cV11 (nx := 5) C dX6_two_2 rfl cvX6_151 rfl rfl ⟨Nat.le_of_ble_eq_true rfl, Nat.le_of_ble_eq_true rfl⟩ rfl rfl (Nat.le_of_ble_eq_true rfl) (run_X6_isBidder_t hn hn3 h1) ?_
        refine zw_if_eq (tgt := 26) (nx := 8) C dX6_two_5 rfl rfl (by omega) (fun h5 => by exfalso; omega) (fun h5 => ?_)
        refine zw_aload_n (i := 0) (nx := 9) C dX6_two_8 rfl rfl rfl ?_
        refine zw_iload_n (i := 2) (nx := 10) C dX6_two_9 rfl rfl rfl ?_
        refine zw_cV11 (nx := 13) C dX6_two_10 rfl cvX6_151 rfl rfl ⟨Nat.le_of_ble_eq_true rfl, Nat.le_of_ble_eq_true rfl⟩ rfl rfl (Nat.le_of_ble_eq_true rfl) (run_X6_isBidder_t hn hn3 h2) ?_
        refine zw_if_eq (tgt := 26) (nx := 16) C dX6_two_13 rfl rfl (by omega) (fun h13 => by exfalso; omega) (fun h13 => ?_)
        refine zw_iload_n (i := 1) (nx := 17) C dX6_two_16 rfl rfl rfl ?_
        refine zw_iload_n (i := 2) (nx := 18) C dX6_two_17 rfl rfl rfl ?_
        refine zw_icmp_eq (tgt := 26) (nx := 21) C dX6_two_18 rfl rfl (by omega) (fun h18 => by exfalso; omega) (fun h18 => ?_)
        refine zw_iload_n (i := 3) (nx := 22) C dX6_two_21 rfl rfl rfl ?_
        refine zw_iconst (nx := 23) C dX6_two_22 rfl ?_
        refine zw_icmp_ge (tgt := 33) (nx := 26) C dX6_two_23 rfl rfl (by omega) (fun h23 => by exfalso; omega) (fun h23 => ?_)
        refine zw_aload_n (i := 0) (nx := 27) C dX6_two_26 rfl rfl rfl ?_
        refine zw_bipush (v := -10) (nx := 29) C dX6_two_27 (by decide) rfl ?_
        refine zw_cV11 (nx := 32) C dX6_two_29 rfl cvX6_71 rfl rfl ⟨Nat.le_of_ble_eq_true rfl, Nat.le_of_ble_eq_true rfl⟩ rfl rfl (Nat.le_of_ble_eq_true rfl) run_X6_bad ?_
        exact zw_iret C hA hr hk dX6_two_32 rfl rfl
    · refine zw_aload_n (i := 0) (nx := 1) C dX6_two_0 rfl rfl rfl ?_
      refine zw_iload_n (i := 1) (nx := 2) C dX6_two_1 rfl rfl rfl ?_
      refine zw_cV11 (nx := 5) C dX6_two_2 rfl cvX6_151 rfl rfl ⟨Nat.le_of_ble_eq_true rfl, Nat.le_of_ble_eq_true rfl⟩ rfl rfl (Nat.le_of_ble_eq_true rfl) (run_X6_isBidder_t hn hn3 h1) ?_
      refine zw_if_eq (tgt := 26) (nx := 8) C dX6_two_5 rfl rfl (by omega) (fun h5 => by exfalso; omega) (fun h5 => ?_)
      refine zw_aload_n (i := 0) (nx := 9) C dX6_two_8 rfl rfl rfl ?_
      refine zw_iload_n (i := 2) (nx := 10) C dX6_two_9 rfl rfl rfl ?_
      refine zw_cV11 (nx := 13) C dX6_two_10 rfl cvX6_151 rfl rfl ⟨Nat.le_of_ble_eq_true rfl, Nat.le_of_ble_eq_true rfl⟩ rfl rfl (Nat.le_of_ble_eq_true rfl) (run_X6_isBidder_f hn hn3 hb h2) ?_
      refine zw_if_eq (tgt := 26) (nx := 16) C dX6_two_13 rfl rfl (by omega) (fun h13 => ?_) (fun h13 => by exfalso; omega)
      refine zw_aload_n (i := 0) (nx := 27) C dX6_two_26 rfl rfl rfl ?_
      refine zw_bipush (v := -10) (nx := 29) C dX6_two_27 (by decide) rfl ?_
      refine zw_cV11 (nx := 32) C dX6_two_29 rfl cvX6_71 rfl rfl ⟨Nat.le_of_ble_eq_true rfl, Nat.le_of_ble_eq_true rfl⟩ rfl rfl (Nat.le_of_ble_eq_true rfl) run_X6_bad ?_
      exact zw_iret C hA hr hk dX6_two_32 rfl rfl
  · refine zw_aload_n (i := 0) (nx := 1) C dX6_two_0 rfl rfl rfl ?_
    refine zw_iload_n (i := 1) (nx := 2) C dX6_two_1 rfl rfl rfl ?_
    refine zw_cV11 (nx := 5) C dX6_two_2 rfl cvX6_151 rfl rfl ⟨Nat.le_of_ble_eq_true rfl, Nat.le_of_ble_eq_true rfl⟩ rfl rfl (Nat.le_of_ble_eq_true rfl) (run_X6_isBidder_f hn hn3 ha h1) ?_
    refine zw_if_eq (tgt := 26) (nx := 8) C dX6_two_5 rfl rfl (by omega) (fun h5 => ?_) (fun h5 => by exfalso; omega)
    refine zw_aload_n (i := 0) (nx := 27) C dX6_two_26 rfl rfl rfl ?_
    refine zw_bipush (v := -10) (nx := 29) C dX6_two_27 (by decide) rfl ?_
    refine zw_cV11 (nx := 32) C dX6_two_29 rfl cvX6_71 rfl rfl ⟨Nat.le_of_ble_eq_true rfl, Nat.le_of_ble_eq_true rfl⟩ rfl rfl (Nat.le_of_ble_eq_true rfl) run_X6_bad ?_
    exact zw_iret C hA hr hk dX6_two_32 rfl rfl
set_option maxHeartbeats 8000000 in
theorem run_X6_two_ok {n a b : Nat} {k : Int} (hc : cOk ζ n) (ha : a < n) (hb : b < n) (hab : a ≠ b) (hk1 : -1 ≤ k ∧ k ≤ 2147483647) : ∃ f1 f2 f3 f4 : Nat → Int, zRun l B mX6_two [.ref 0, zi a, zi b, zi k] ζ (some (zi (tTwo (rT (cV ζ) a b) k))) (dS ζ f1 f2 f3 f4) := by
  have hn := hc.1.1
  obtain ⟨f1, f2, f3, f4, hw, hd, h3, h4⟩ := run_X0_work (l := l) (B := B) hc ha hb
  refine ⟨f1, f2, f3, f4, ?_⟩
  have rr : ∀ i j : Nat, i < 8 → j < 8 → zRun l B mX0_rests [.ref 45, zi i, zi j] (dS ζ f1 f2 f3 f4) (some (zi (b2i (rT (cV ζ) a b (8 * i + j))))) (dS ζ f1 f2 f3 f4) := by
    intro i j hi hj
    obtain ⟨q1, q2⟩ := hd i j hi hj
    obtain ⟨m1, m2, m3⟩ := h3 j hj
    obtain ⟨m4, m5, m6⟩ := h4 i hi
    have g1 := dG_bd hc.1 a b j hi
    have g2 := dG_bd hc.1 b a i hj
    have x1 : (dS ζ f1 f2 f3 f4).1 46 (8 * i + j) = dG (cV ζ) a i b j := q1
    have x2 : (dS ζ f1 f2 f3 f4).1 47 (8 * i + j) = dG (cV ζ) b j a i := q2
    have x3 : (dS ζ f1 f2 f3 f4).1 48 j = f3 j := rfl
    have x4 : (dS ζ f1 f2 f3 f4).1 49 i = f4 i := rfl
    have := run_X0_rests (l := l) (B := B) (ζ := dS ζ f1 f2 f3 f4) hi hj (by rw [x1]; exact g1) (by rw [x2]; exact g2) (by rw [x3]; exact m2) (by rw [x4]; exact m5)
    rw [x1, x2, x3, x4] at this
    have e : rT (cV ζ) a b (8 * i + j) = decide (dG (cV ζ) a i b j = f3 j ∧ dG (cV ζ) b j a i = f4 i) := by
      rw [rT_at _ a b hj]
      apply bool_eq
      rw [rA_iff, decide_eq_true_iff]
      constructor
      · intro h
        constructor
        · have := m1 i hi
          rcases m3 with m3 | ⟨y, hy, m3⟩
          · omega
          · have := (h y hy).1; omega
        · have := m4 j hj
          rcases m6 with m6 | ⟨y, hy, m6⟩
          · omega
          · have := (h y hy).2; omega
      · rintro ⟨h1, h2⟩ y hy
        rw [h1, h2]
        exact ⟨m1 y hy, m4 y hy⟩
    rw [e]
    exact this
  generalize rT (cV ζ) a b = r at rr
  refine zrun_intro (M := mX6_two) (ls := [some (.ref 0), some (zi a), some (zi b), some (zi k), none, none, none]) (by decide) rfl rfl rfl (Nat.le_of_ble_eq_true rfl) ?_
  intro X A C hX hA hr hk
  replace C : CX X B A mX6_two.2.2.2.2 RX6 cX6_two 7 0 0 := C
  have hr : (xMeth X).sig.returnType = (some .int) := hr
  change ZW X B A 7 0 0 _ _ 0 [some (.ref 0), some (zi a), some (zi b), some (zi k), none, none, none] []
  have l1 : ∀ m i : Nat, i + m = 8 → tW r k (8 * i) = -5 → ∀ o6 : Option Value, ZW X B A 7 0 0 (eFin X B (some (zi (tTwo r k))) (zz (dS ζ f1 f2 f3 f4))) (dS ζ f1 f2 f3 f4) 52 [some (.ref 0), some (zi a), some (zi b), some (zi k), some (zi (cN r (8 * i))), some (zi i), o6] [] := by
    intro m
    induction m with
    | zero =>
      intro i him ht o6
      have e : i = 8 := by omega
      subst e
      refine zw_iload (nx := 54) C dX6_two_52 rfl rfl ?_
      refine zw_bipush (v := 8) (nx := 56) C dX6_two_54 (by decide) rfl ?_
      refine zw_icmp_ge (tgt := 113) (nx := 59) C dX6_two_56 rfl rfl (by omega) (fun h56 => ?_) (fun h56 => by exfalso; omega)
      refine zw_iload_n (i := 3) (nx := 114) C dX6_two_113 rfl rfl rfl ?_
      refine zw_iconst (nx := 115) C dX6_two_114 rfl ?_
      refine zw_icmp_ne (tgt := 123) (nx := 118) C dX6_two_115 rfl rfl (by omega) (fun h115 => ?_) (fun h115 => ?_)
      · refine zw_bipush (v := -5) (nx := 125) C dX6_two_123 (by decide) rfl ?_
        exact zw_iret C hA hr hk dX6_two_125 (zr (by unfold tTwo; rw [if_neg h115]; exact ht)) rfl
      · refine zw_iload (nx := 120) C dX6_two_118 rfl rfl ?_
        refine zw_goto (nx := 125) C dX6_two_120 rfl ?_
        exact zw_iret C hA hr hk dX6_two_125 (zr (if_pos h115)) rfl
    | succ m ih =>
      intro i him ht o6
      have l2 : ∀ m j : Nat, j + m = 8 → tW r k (8 * i + j) = -5 → ZW X B A 7 0 0 (eFin X B (some (zi (tTwo r k))) (zz (dS ζ f1 f2 f3 f4))) (dS ζ f1 f2 f3 f4) 62 [some (.ref 0), some (zi a), some (zi b), some (zi k), some (zi (cN r (8 * i + j))), some (zi i), some (zi j)] [] := by
        intro m
        induction m with
        | zero =>
          intro j hjm ht
          have e : j = 8 := by omega
          subst e
          refine zw_iload (nx := 64) C dX6_two_62 rfl rfl ?_
          refine zw_bipush (v := 8) (nx := 66) C dX6_two_64 (by decide) rfl ?_
          refine zw_icmp_ge (tgt := 107) (nx := 69) C dX6_two_66 rfl rfl (by omega) (fun h66 => ?_) (fun h66 => by exfalso; omega)
          refine zw_iinc5 (nx := 110) C dX6_two_107 rfl (Nat.le_of_ble_eq_true rfl) rfl ?_
          refine zw_goto (nx := 52) C dX6_two_110 rfl ?_
          exact ih (i + 1) (by omega) ht _
        | succ m ih2 =>
          intro j hjm ht
          have hcn := cN_le r (8 * i + j)
          refine zw_iload (nx := 64) C dX6_two_62 rfl rfl ?_
          refine zw_bipush (v := 8) (nx := 66) C dX6_two_64 (by decide) rfl ?_
          refine zw_icmp_ge (tgt := 107) (nx := 69) C dX6_two_66 rfl rfl (by omega) (fun h66 => by exfalso; omega) (fun h66 => ?_)
          refine zw_aload_n (i := 0) (nx := 70) C dX6_two_69 rfl rfl rfl ?_
          refine zw_getr (nx := 73) C dX6_two_70 rfl flX6_40 iq5 rfl rfl rfl rfl ?_
          refine zw_iload (nx := 75) C dX6_two_73 rfl rfl ?_
          refine zw_iload (nx := 77) C dX6_two_75 rfl rfl ?_
          refine zw_cV21 (nx := 80) C dX6_two_77 rfl cvX6_212 rfl rfl ⟨Nat.le_of_ble_eq_true rfl, Nat.le_of_ble_eq_true rfl⟩ rfl rfl (Nat.le_of_ble_eq_true rfl) (by rw [hX]; exact rr i j (by omega) (by omega)) ?_
          refine zw_ifb_eq (tgt := 101) (nx := 83) C dX6_two_80 rfl rfl (fun h80 => ?_) (fun h80 => ?_)
          · have e : cN r (8 * i + j + 1) = cN r (8 * i + j) := if_neg (by rw [h80]; decide)
            rw [← e]
            refine zw_iinc6 (nx := 104) C dX6_two_101 rfl (Nat.le_of_ble_eq_true rfl) rfl ?_
            refine zw_goto (nx := 62) C dX6_two_104 rfl ?_
            exact ih2 (j + 1) (by omega) ((if_neg (fun q => Bool.noConfusion (h80.symm.trans q.1))).trans ht)
          · have e : cN r (8 * i + j + 1) = cN r (8 * i + j) + 1 := if_pos h80
            refine zw_iload (nx := 85) C dX6_two_83 rfl rfl ?_
            refine zw_iload_n (i := 3) (nx := 86) C dX6_two_85 rfl rfl rfl ?_
            refine zw_icmp_ne (tgt := 98) (nx := 89) C dX6_two_86 rfl rfl (by omega) (fun h86 => ?_) (fun h86 => ?_)
            · refine zw_iinc4 (nx := 101) C dX6_two_98 rfl (Nat.le_of_ble_eq_true rfl) rfl ?_
              refine zw_iinc6 (nx := 104) C dX6_two_101 rfl (Nat.le_of_ble_eq_true rfl) rfl ?_
              refine zw_goto (nx := 62) C dX6_two_104 rfl ?_
              have := ih2 (j + 1) (by omega) ((if_neg (fun q => h86 q.2)).trans ht)
              rw [show 8 * i + (j + 1) = 8 * i + j + 1 from rfl, e] at this
              exact this
            · have et : tTwo r k = 8 * (i : Int) + (j : Int) := by
                unfold tTwo
                rw [if_neg (by omega)]
                have := tW_at h80 h86 (63 - (8 * i + j))
                rw [show 8 * i + j + 1 + (63 - (8 * i + j)) = 64 by omega] at this
                omega
              refine zw_bipush (v := 8) (nx := 91) C dX6_two_89 (by decide) rfl ?_
              refine zw_iload (nx := 93) C dX6_two_91 rfl rfl ?_
              refine zw_imul (nx := 94) C dX6_two_93 rfl ?_
              refine zw_iload (nx := 96) C dX6_two_94 rfl rfl ?_
              refine zw_iadd (nx := 97) C dX6_two_96 rfl ?_
              exact zw_iret C hA hr hk dX6_two_97 (zr et) rfl
      refine zw_iload (nx := 54) C dX6_two_52 rfl rfl ?_
      refine zw_bipush (v := 8) (nx := 56) C dX6_two_54 (by decide) rfl ?_
      refine zw_icmp_ge (tgt := 113) (nx := 59) C dX6_two_56 rfl rfl (by omega) (fun h56 => by exfalso; omega) (fun h56 => ?_)
      refine zw_iconst (nx := 60) C dX6_two_59 rfl ?_
      refine zw_ist6 (nx := 62) C (eIst_w dX6_two_60 rfl) (Nat.le_of_ble_eq_true rfl) rfl ?_
      exact l2 8 0 (by omega) ht
  refine zw_aload_n (i := 0) (nx := 1) C dX6_two_0 rfl rfl rfl ?_
  refine zw_iload_n (i := 1) (nx := 2) C dX6_two_1 rfl rfl rfl ?_
  refine zw_cV11 (nx := 5) C dX6_two_2 rfl cvX6_151 rfl rfl ⟨Nat.le_of_ble_eq_true rfl, Nat.le_of_ble_eq_true rfl⟩ rfl rfl (Nat.le_of_ble_eq_true rfl) (run_X6_isBidder_t hn hc.2.1 (by omega)) ?_
  refine zw_if_eq (tgt := 26) (nx := 8) C dX6_two_5 rfl rfl (by omega) (fun h5 => by exfalso; omega) (fun h5 => ?_)
  refine zw_aload_n (i := 0) (nx := 9) C dX6_two_8 rfl rfl rfl ?_
  refine zw_iload_n (i := 2) (nx := 10) C dX6_two_9 rfl rfl rfl ?_
  refine zw_cV11 (nx := 13) C dX6_two_10 rfl cvX6_151 rfl rfl ⟨Nat.le_of_ble_eq_true rfl, Nat.le_of_ble_eq_true rfl⟩ rfl rfl (Nat.le_of_ble_eq_true rfl) (run_X6_isBidder_t hn hc.2.1 (by omega)) ?_
  refine zw_if_eq (tgt := 26) (nx := 16) C dX6_two_13 rfl rfl (by omega) (fun h13 => by exfalso; omega) (fun h13 => ?_)
  refine zw_iload_n (i := 1) (nx := 17) C dX6_two_16 rfl rfl rfl ?_
  refine zw_iload_n (i := 2) (nx := 18) C dX6_two_17 rfl rfl rfl ?_
  refine zw_icmp_eq (tgt := 26) (nx := 21) C dX6_two_18 rfl rfl (by omega) (fun h18 => by exfalso; omega) (fun h18 => ?_)
  refine zw_iload_n (i := 3) (nx := 22) C dX6_two_21 rfl rfl rfl ?_
  refine zw_iconst (nx := 23) C dX6_two_22 rfl ?_
  refine zw_icmp_ge (tgt := 33) (nx := 26) C dX6_two_23 rfl rfl (by omega) (fun h23 => ?_) (fun h23 => by exfalso; omega)
  refine zw_aload_n (i := 0) (nx := 34) C dX6_two_33 rfl rfl rfl ?_
  refine zw_getr (nx := 37) C dX6_two_34 rfl flX6_40 iq5 rfl rfl rfl rfl ?_
  refine zw_aload_n (i := 0) (nx := 38) C dX6_two_37 rfl rfl rfl ?_
  refine zw_getr (nx := 41) C dX6_two_38 rfl flX6_12 iq5 rfl rfl rfl rfl ?_
  refine zw_iload_n (i := 1) (nx := 42) C dX6_two_41 rfl rfl rfl ?_
  refine zw_iload_n (i := 2) (nx := 43) C dX6_two_42 rfl rfl rfl ?_
  refine zw_cV30 (nx := 46) C dX6_two_43 rfl cvX6_209 rfl rfl ⟨Nat.le_of_ble_eq_true rfl, Nat.le_of_ble_eq_true rfl⟩ rfl rfl (Nat.le_of_ble_eq_true rfl) (by rw [hX]; exact hw) ?_
  refine zw_iconst (nx := 47) C dX6_two_46 rfl ?_
  refine zw_ist4 (nx := 49) C (eIst_w dX6_two_47 rfl) (Nat.le_of_ble_eq_true rfl) rfl ?_
  refine zw_iconst (nx := 50) C dX6_two_49 rfl ?_
  refine zw_ist5 (nx := 52) C (eIst_w dX6_two_50 rfl) (Nat.le_of_ble_eq_true rfl) rfl ?_
  exact l1 8 0 (by omega) rfl _
end Due
