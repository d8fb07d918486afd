/-! all seated anew: the reference -/
def aForV (V : Nat → Nat → Int) (n : Nat) (h : aH) : Prop := h.1 = n ∧ (∀ y, y < 8 → V 1 y = h.2.1 y) ∧ (∀ p y : Nat, p < n → y < 8 → sWo (V 2 p) (sDk V y) (V 1 y) = h.2.2.2 p y) ∧ (∀ p y : Nat, p < n → y < 8 → (if V 1 y + sHd (V 2 p) < 10 then V 1 y + sHd (V 2 p) else 10) = (h.2.2.1 p y : Int))
def vA (V : Nat → Nat → Int) (n : Nat) : aH := (n, V 1, fun p y => (if V 1 y + sHd (V 2 p) < 10 then V 1 y + sHd (V 2 p) else 10).toNat, fun p y => sWo (V 2 p) (sDk V y) (V 1 y))
theorem vA_ok {V : Nat → Nat → Int} {n : Nat} (h : vOk V n) : aOk (vA V n) := ⟨h.1, h.2.2.2.1, fun p y => by
  show (if V 1 y + sHd (V 2 p) < 10 then V 1 y + sHd (V 2 p) else 10).toNat ≤ 10
  split <;> omega, fun p y _ hy => sWo_bd (h.dk y) (h.2.2.2.1 y hy)⟩
theorem vA_for {V : Nat → Nat → Int} {n : Nat} (h : vOk V n) : aForV V n (vA V n) := ⟨rfl, fun _ _ => rfl, fun _ _ _ _ => rfl, fun p y _ hy => by
  have h1 := h.2.2.2.1 y hy
  have h2 := sHd_bd (V 2 p)
  show (if V 1 y + sHd (V 2 p) < 10 then V 1 y + sHd (V 2 p) else 10) = (((if V 1 y + sHd (V 2 p) < 10 then V 1 y + sHd (V 2 p) else 10).toNat : Nat) : Int)
  split <;> omega⟩
theorem Agr.aFor {V W : Nat → Nat → Int} {n : Nat} {h : aH} (a : Agr V W n) (hf : aForV V n h) : aForV W n h := ⟨hf.1, fun y hy => by rw [a.2.1 y hy]; exact hf.2.1 y hy, fun p y hp hy => by rw [(a.2.2 p hp).1, a.dk, a.2.1 y hy]; exact hf.2.2.1 p y hp hy, fun p y hp hy => by rw [(a.2.2 p hp).1, a.2.1 y hy]; exact hf.2.2.2 p y hp hy⟩
theorem aFor_c {ζ : zSt} {n : Nat} {h : aH} (hc : cOk ζ n) (hf : aForV (cV ζ) n h) : aFor ζ n h := ⟨hf.1, hf.2.1, hf.2.2.1, fun p y hp hy => by
  rw [hc.2.2 p hp]; exact hf.2.2.2 p y hp hy⟩
theorem tM_le {h : aH} {f : Nat → Nat} {y : Nat} {x : Int} (hx : 0 ≤ x) : ∀ k, (tM h f y k : Int) ≤ x ↔ ∀ r, r < k → f r < y → (h.2.2.1 r (f r) : Int) ≤ x
  | 0 => ⟨fun _ r hr => absurd hr (by omega), fun _ => hx⟩
  | k + 1 => by
    have ih := tM_le (h := h) (f := f) (y := y) hx k
    unfold tM
    constructor
    · intro q r hr hlt
      by_cases e : r = k
      · subst e
        rw [if_pos hlt] at q
        unfold nm at q
        split at q <;> omega
      · refine ih.mp ?_ r (by omega) hlt
        by_cases e2 : f k < y
        · rw [if_pos e2] at q
          unfold nm at q
          split at q <;> omega
        · rw [if_neg e2] at q; exact q
    · intro q
      have q1 := ih.mpr (fun r hr hlt => q r (by omega) hlt)
      by_cases e2 : f k < y
      · have := q k (by omega) e2
        rw [if_pos e2]
        unfold nm
        split <;> omega
      · rw [if_neg e2]; exact q1
theorem worth_eq {V : Nat → Nat → Int} {n : Nat} {h : aH} (hv : vOk V n) (hf : aForV V n h) (ok : aOk h) {f : Nat → Nat} (e : ∀ p, p < n → V 5 p = (f p : Int)) (h8 : ∀ p, p < n → f p < 8) {q : Nat} (hq : q < n) : sWo (V 2 q) (sNow V n q) (V 1 (f q)) = wW h f q := by
  have hq8 := h8 q hq
  have hH := ok.2.1 (f q) hq8
  have eH := hf.2.1 (f q) hq8
  have key : (tM h f (f q) h.1 : Int) ≤ h.2.1 (f q) ↔ ¬ sHid V (f q) q q 0 n = true := by
    rw [tM_le hH.1, sHid_iff, hf.1]
    constructor
    · rintro a ⟨r, -, hr, ⟨hrq, -, -⟩, hb⟩
      have hr' : r < n := by omega
      rw [e r hr', Int.toNat_natCast] at hb
      have hb' := of_decide_eq_true hb
      have h1 := a r hr' hb'.1
      rw [← hf.2.2.2 r (f r) hr' (h8 r hr')] at h1
      have h2 := hb'.2
      split at h1 <;> omega
    · intro a r hr hlt
      rw [← hf.2.2.2 r (f r) hr (h8 r hr)]
      by_cases c : V 1 (f q) < V 1 (f r) + sHd (V 2 r)
      · refine absurd ⟨r, by omega, by omega, ⟨fun z => ?_, fun z => ?_, ?_⟩, ?_⟩ a
        · subst z; omega
        · subst z; omega
        · rw [e r hr]; omega
        · rw [e r hr, Int.toNat_natCast]; exact decide_eq_true ⟨hlt, c⟩
      · split <;> omega
  unfold sNow sSeen wW
  rw [if_neg (by rw [e q hq]; omega), e q hq, Int.toNat_natCast]
  by_cases c : sHid V (f q) q q 0 n = true
  · rw [if_pos c, sWo_0, if_neg (fun z => key.mp z c)]
  · rw [if_neg c, if_pos (key.mpr c)]
    exact hf.2.2.1 q (f q) hq hq8
def mt (c : Nat) : Nat → Nat
  | 0 => 0
  | j + 1 => mt c j ||| 2 ^ dj c j
theorem dj_lt (c j : Nat) : dj c j < 8 := Nat.mod_lt _ (by decide)
theorem mt_lt (c : Nat) : ∀ j, mt c j < 256
  | 0 => by show 0 < 256; decide
  | j + 1 => or_lt (mt_lt c j) (dj_lt c j)
theorem mt_bit (c x : Nat) : ∀ j, (mt c j).testBit x = true ↔ ∃ i, i < j ∧ dj c i = x
  | 0 => by simp [mt]
  | j + 1 => by
    unfold mt
    rw [Nat.testBit_or, Nat.testBit_two_pow, Bool.or_eq_true, mt_bit c x j]
    constructor
    · rintro (⟨i, h1, h2⟩ | h)
      · exact ⟨i, by omega, h2⟩
      · exact ⟨j, by omega, of_decide_eq_true h⟩
    · rintro ⟨i, h1, h2⟩
      by_cases e : i = j
      · rw [e] at h2; exact Or.inr (decide_eq_true h2)
      · exact Or.inl ⟨i, by omega, h2⟩
def sbF (n c : Nat) : Nat → Nat → (Nat → Int) → Nat → Int
  | 0, _, r => r
  | m + 1, j, r => if (mt c j).testBit (dj c j) = true then zu r (n - 1 - j) (dj c j) else sbF n c m (j + 1) (zu r (n - 1 - j) (dj c j))
def sbO (c : Nat) : Nat → Nat → Bool
  | 0, _ => true
  | m + 1, j => if (mt c j).testBit (dj c j) = true then false else sbO c m (j + 1)
theorem sbF_ok {n c : Nat} : ∀ m j r, j + m = n → sbO c m j = true → ∀ p, p < n → sbF n c m j r p = if p < m then (dj c (n - 1 - p) : Int) else r p
  | 0, j, r, _, _, p, _ => by rw [if_neg (by omega)]; rfl
  | m + 1, j, r, hj, ho, p, hp => by
    unfold sbO at ho
    unfold sbF
    by_cases e : (mt c j).testBit (dj c j) = true
    · rw [if_pos e] at ho; cases ho
    · rw [if_neg e] at ho
      rw [if_neg e, sbF_ok m (j + 1) _ (by omega) ho p hp]
      by_cases h1 : p < m
      · rw [if_pos h1, if_pos (by omega)]
      · rw [if_neg h1, zu_at]
        by_cases h2 : p = n - 1 - j
        · rw [if_pos h2, if_pos (by omega), show n - 1 - p = j by omega]
        · rw [if_neg h2, if_neg (by omega)]
theorem sbF_far {n c : Nat} : ∀ m j r, j + m = n → ∀ p, n ≤ p → sbF n c m j r p = r p
  | 0, j, r, _, p, _ => rfl
  | m + 1, j, r, hj, p, hp => by
    unfold sbF
    split
    · rw [zu_at, if_neg (by omega)]
    · rw [sbF_far m (j + 1) _ (by omega) p hp, zu_at, if_neg (by omega)]
theorem sbO_iff {c : Nat} : ∀ m j, sbO c m j = true ↔ ∀ i, j ≤ i → i < j + m → ¬ ∃ k, k < i ∧ dj c k = dj c i
  | 0, j => ⟨fun _ i h1 h2 => absurd h2 (by omega), fun _ => rfl⟩
  | m + 1, j => by
    unfold sbO
    by_cases e : (mt c j).testBit (dj c j) = true
    · rw [if_pos e]
      constructor
      · intro h; cases h
      · intro h
        exact absurd ((mt_bit c _ j).mp e) (h j (by omega) (by omega))
    · rw [if_neg e, sbO_iff m (j + 1)]
      constructor
      · intro h i h1 h2
        by_cases ei : i = j
        · rw [ei]; exact fun q => e ((mt_bit c _ j).mpr q)
        · exact h i (by omega) (by omega)
      · exact fun h i h1 h2 => h i (by omega) (by omega)
theorem sbO_way {n c : Nat} : sbO c n 0 = true ↔ wyOk n (fc n c) := by
  rw [sbO_iff]
  constructor
  · intro h
    refine ⟨fun p _ => dj_lt c _, fun p q hp hq e => ?_⟩
    have e : dj c (n - 1 - p) = dj c (n - 1 - q) := e
    by_cases hpq : p = q
    · exact hpq
    · rcases Nat.lt_or_ge p q with hl | hl
      · exact absurd ⟨n - 1 - q, by omega, e.symm⟩ (h (n - 1 - p) (by omega) (by omega))
      · exact absurd ⟨n - 1 - p, by omega, e⟩ (h (n - 1 - q) (by omega) (by omega))
  · rintro ⟨-, h⟩ i h1 h2 ⟨k, hk, e⟩
    have := h (n - 1 - k) (n - 1 - i) (by omega) (by omega) (by
      show dj c (n - 1 - (n - 1 - k)) = dj c (n - 1 - (n - 1 - i))
      rw [show n - 1 - (n - 1 - k) = k by omega, show n - 1 - (n - 1 - i) = i by omega]; exact e)
    omega
section SeaM
variable {l : Launch} {B : eB} {ζ : zSt}
set_option maxHeartbeats 8000000 in
theorem run_X7_seatBy {n c : Nat} (hn : n ≤ 5) (hn3 : ζ.1 52 1 = n) (hc : c ≤ 100000) {g : Nat → Int} : zRun l B mX7_seatBy [.ref 52, zi c] (zR ζ 58 g) (some (zi (b2i (sbO c n 0)))) (zR ζ 58 (sbF n c n 0 g)) := by
  refine zrun_intro (M := mX7_seatBy) (ls := [some (.ref 52), some (zi c), none, none, none]) (by decide) rfl rfl rfl (Nat.le_of_ble_eq_true rfl) ?_
  intro X A C hX hA hr hk
  replace C : CX X B A mX7_seatBy.2.2.2.2 RX7 cX7_seatBy 5 0 0 := C
  have hr : (xMeth X).sig.returnType = (some .boolean) := hr
  change ZW X B A 5 0 0 _ _ 0 [some (.ref 52), some (zi c), none, none, none] []
  have loop : ∀ m j : Nat, j + m = n → ∀ r : Nat → Int, sbF n c n 0 g = sbF n c m j r → sbO c n 0 = sbO c m j → ZW X B A 5 0 0 (eFin X B (some (zi (b2i (sbO c n 0)))) (zz (zR ζ 58 (sbF n c n 0 g)))) (zR ζ 58 r) 12 [some (.ref 52), some (zi c), some (zi ((c / 8 ^ j : Nat) : Int)), some (zi (mt c j)), some (zi ((n : Int) - 1 - j))] [] := by
    intro m
    induction m with
    | zero =>
      intro j hjm r e1 e2
      refine zw_iload (nx := 14) C dX7_seatBy_12 rfl rfl ?_
      refine zw_if_lt (tgt := 67) (nx := 17) C dX7_seatBy_14 rfl rfl (by omega) (fun h14 => ?_) (fun h14 => by exfalso; omega)
      refine zw_iconst (nx := 68) C dX7_seatBy_67 rfl ?_
      exact zw_bret C hA hr hk dX7_seatBy_68 (by rw [e2]; rfl) rfl (by rw [e1]; rfl)
    | succ m ih =>
      intro j hjm r e1 e2
      have hdiv : c / 8 ^ j ≤ c := Nat.div_le_self _ _
      have hd8 := dj_lt c j
      have r58 : (zR ζ 58 (zu r (n - 1 - j) (dj c j))).1 58 (n - 1 - j) = (dj c j : Int) := by rw [zR_at, if_pos rfl, zu_at, if_pos rfl]
      have e8 : c / 8 ^ (j + 1) = c / 8 ^ j / 8 := by rw [Nat.pow_succ, Nat.div_div_eq_div_mul]
      have hdj : dj c j = c / 8 ^ j % 8 := rfl
      generalize c / 8 ^ j = dd at hdiv e8 hdj ⊢
      refine zw_iload (nx := 14) C dX7_seatBy_12 rfl rfl ?_
      refine zw_if_lt (tgt := 67) (nx := 17) C dX7_seatBy_14 rfl rfl (by omega) (fun h14 => by exfalso; omega) (fun h14 => ?_)
      refine zw_aload_n (i := 0) (nx := 18) C dX7_seatBy_17 rfl rfl rfl ?_
      refine zw_getr (nx := 21) C dX7_seatBy_18 rfl flX7_32 iq6 rfl rfl rfl rfl ?_
      refine zw_iload (nx := 23) C dX7_seatBy_21 rfl rfl ?_
      refine zw_iload_n (i := 2) (nx := 24) C dX7_seatBy_23 rfl rfl rfl ?_
      refine zw_bipush (v := 8) (nx := 26) C dX7_seatBy_24 (by decide) rfl ?_
      refine zw_irem (nx := 27) C dX7_seatBy_26 (by omega) rfl ?_
      refine zw_iast ((n - 1 - j)) (nx := 28) C dX7_seatBy_27 rfl rfl rfl rfl (by omega) ?_
      rw [show (dd : Int) % 8 = (dj c j : Int) from by rw [hdj]; rfl, zRU]
      refine zw_iload_n (i := 2) (nx := 29) C dX7_seatBy_28 rfl rfl rfl ?_
      refine zw_bipush (v := 8) (nx := 31) C dX7_seatBy_29 (by decide) rfl ?_
      refine zw_idiv (nx := 32) C dX7_seatBy_31 (by omega) rfl ?_
      refine zw_ist2 (nx := 33) C (eIst_n dX7_seatBy_32 rfl rfl) (Nat.le_of_ble_eq_true rfl) rfl ?_
      refine zw_iload_n (i := 3) (nx := 34) C dX7_seatBy_33 rfl rfl rfl ?_
      refine zw_aload_n (i := 0) (nx := 35) C dX7_seatBy_34 rfl rfl rfl ?_
      refine zw_getr (nx := 38) C dX7_seatBy_35 rfl flX7_32 iq6 rfl rfl rfl rfl ?_
      refine zw_iload (nx := 40) C dX7_seatBy_38 rfl rfl ?_
      refine zw_iald ((n - 1 - j)) (nx := 41) C dX7_seatBy_40 rfl rfl rfl rfl (by omega) ?_
      rw [r58, show (dd : Int) / 8 = ((c / 8 ^ (j + 1) : Nat) : Int) from by rw [e8]; rfl]
      refine zw_cS21 (nx := 44) C dX7_seatBy_41 rfl csX7_248 ⟨Nat.le_of_ble_eq_true rfl, Nat.le_of_ble_eq_true rfl⟩ (Nat.le_of_ble_eq_true rfl) (run_X7_has (mt_lt c j) hd8) ?_
      refine zw_ifb_eq (tgt := 49) (nx := 47) C dX7_seatBy_44 rfl rfl (fun h44 => ?_) (fun h44 => ?_)
      · have hno : ¬ (mt c j).testBit (dj c j) = true := by rw [h44]; decide
        refine zw_iload_n (i := 3) (nx := 50) C dX7_seatBy_49 rfl rfl rfl ?_
        refine zw_iconst (nx := 51) C dX7_seatBy_50 rfl ?_
        refine zw_aload_n (i := 0) (nx := 52) C dX7_seatBy_51 rfl rfl rfl ?_
        refine zw_getr (nx := 55) C dX7_seatBy_52 rfl flX7_32 iq6 rfl rfl rfl rfl ?_
        refine zw_iload (nx := 57) C dX7_seatBy_55 rfl rfl ?_
        refine zw_iald ((n - 1 - j)) (nx := 58) C dX7_seatBy_57 rfl rfl rfl rfl (by omega) ?_
        rw [r58]
        refine zw_ishl (c := ((2 ^ dj c j : Nat) : Int)) (nx := 59) C dX7_seatBy_58 (by exact shl_ok hd8) rfl ?_
        refine zw_ior (c := ((mt c j ||| 2 ^ dj c j : Nat) : Int)) (nx := 60) C dX7_seatBy_59 (by exact or_ok (mt_lt c j) hd8) rfl ?_
        refine zw_ist3 (nx := 61) C (eIst_n dX7_seatBy_60 rfl rfl) (Nat.le_of_ble_eq_true rfl) rfl ?_
        rw [show mt c j ||| 2 ^ dj c j = mt c (j + 1) from rfl]
        refine zw_iinc4 (nx := 64) C dX7_seatBy_61 rfl (Nat.le_of_ble_eq_true rfl) rfl ?_
        refine zw_goto (nx := 12) C dX7_seatBy_64 rfl ?_
        rw [show (n : Int) - 1 - (j : Int) + -1 = (n : Int) - 1 - ((j + 1 : Nat) : Int) from by omega]
        refine ih (j + 1) (by omega) _ ?_ ?_
        · rw [e1]; exact if_neg hno
        · rw [e2]; exact if_neg hno
      · have e3 : sbO c n 0 = false := by rw [e2]; exact if_pos h44
        refine zw_iconst (nx := 48) C dX7_seatBy_47 rfl ?_
        exact zw_bret C hA hr hk dX7_seatBy_48 (by rw [e3]; rfl) rfl (by rw [e1]; exact congrArg (zR ζ 58) (if_pos h44))
  refine zw_iload_n (i := 1) (nx := 1) C dX7_seatBy_0 rfl rfl rfl ?_
  refine zw_ist2 (nx := 2) C (eIst_n dX7_seatBy_1 rfl rfl) (Nat.le_of_ble_eq_true rfl) rfl ?_
  refine zw_iconst (nx := 3) C dX7_seatBy_2 rfl ?_
  refine zw_ist3 (nx := 4) C (eIst_n dX7_seatBy_3 rfl rfl) (Nat.le_of_ble_eq_true rfl) rfl ?_
  refine zw_aload_n (i := 0) (nx := 5) C dX7_seatBy_4 rfl rfl rfl ?_
  refine zw_geti (nx := 8) C dX7_seatBy_5 rfl flX7_79 iq6 rfl rfl rfl rfl ?_
  refine zw_iconst (nx := 9) C dX7_seatBy_8 rfl ?_
  refine zw_isub (nx := 10) C dX7_seatBy_9 rfl ?_
  rw [show (zR ζ 58 g).1 52 1 = (n : Int) from hn3]
  refine zw_ist4 (nx := 12) C (eIst_w dX7_seatBy_10 rfl) (Nat.le_of_ble_eq_true rfl) rfl ?_
  have := loop n 0 (by omega) g rfl rfl
  rw [Nat.pow_zero, Nat.div_one, show (n : Int) - 1 - ((0 : Nat) : Int) = (n : Int) - 1 from by omega] at this
  exact this
def mS (ζ : zSt) (g a b : Nat → Int) : zSt := zR (zR (zR ζ 67 a) 68 b) 58 g
theorem mS_58 (ζ : zSt) (g a b : Nat → Int) (i : Nat) (x : Int) : zU (mS ζ g a b) 58 i x = mS ζ (zu g i x) a b := zRU _ 58 g i x
theorem mS_68 (ζ : zSt) (g a b : Nat → Int) (i : Nat) (x : Int) : zU (mS ζ g a b) 68 i x = mS ζ g a (zu b i x) := by
  unfold mS; rw [zRR _ (by decide), zRU]
theorem mS_67 (ζ : zSt) (g a b : Nat → Int) (i : Nat) (x : Int) : zU (mS ζ g a b) 67 i x = mS ζ g (zu a i x) b := by
  unfold mS; rw [zRR _ (by decide), zRR _ (by decide), zRU]
theorem mS_self (ζ : zSt) : mS ζ (ζ.1 58) (ζ.1 67) (ζ.1 68) = ζ := by
  unfold mS
  have h1 : zR ζ 67 (ζ.1 67) = ζ := zR_self ζ 67
  rw [h1, zR_self ζ 68, zR_self ζ 58]
theorem mS_at (ζ : zSt) (g a b : Nat → Int) (k i : Nat) : (mS ζ g a b).1 k i = if k = 58 then g i else if k = 68 then b i else if k = 67 then a i else ζ.1 k i := rfl
def gR (n : Nat) (g : Nat → Int) : Nat → Nat → Int
  | 0 => g
  | c + 1 => sbF n c n 0 (gR n g c)
theorem gR_far {n : Nat} {g : Nat → Int} {p : Nat} (hp : n ≤ p) : ∀ c, gR n g c p = g p
  | 0 => rfl
  | c + 1 => (sbF_far n 0 _ (by omega) p hp).trans (gR_far hp c)
def bR (n : Nat) (h : aH) (g b : Nat → Int) : Nat → Nat → Int
  | 0 => b
  | c + 1 => if sbO c n 0 = true ∧ (bW (fun c => sbO c n 0) (fun c => wS h (fc h.1 c)) c).1 < wS h (fc h.1 c) then hF (gR n g (c + 1)) (bR n h g b c) n else bR n h g b c
theorem bR_ok {n : Nat} {h : aH} (h1 : h.1 = n) {g b : Nat → Int} : ∀ c, (bW (fun c => sbO c n 0) (fun c => wS h (fc h.1 c)) c).1 = -1 ∨ ∀ p, p < n → bR n h g b c p = (fc n (bW (fun c => sbO c n 0) (fun c => wS h (fc h.1 c)) c).2 p : Int)
  | 0 => Or.inl rfl
  | c + 1 => by
    have ih := bR_ok h1 (g := g) (b := b) c
    have stp : bW (fun c => sbO c n 0) (fun c => wS h (fc h.1 c)) (c + 1) = if sbO c n 0 = true ∧ (bW (fun c => sbO c n 0) (fun c => wS h (fc h.1 c)) c).1 < wS h (fc h.1 c) then (wS h (fc h.1 c), c) else bW (fun c => sbO c n 0) (fun c => wS h (fc h.1 c)) c := rfl
    have stb : bR n h g b (c + 1) = if sbO c n 0 = true ∧ (bW (fun c => sbO c n 0) (fun c => wS h (fc h.1 c)) c).1 < wS h (fc h.1 c) then hF (gR n g (c + 1)) (bR n h g b c) n else bR n h g b c := rfl
    generalize bW (fun c => sbO c n 0) (fun c => wS h (fc h.1 c)) c = z0 at ih stp stb
    by_cases e : sbO c n 0 = true ∧ z0.1 < wS h (fc h.1 c)
    · rw [if_pos e] at stp stb
      rw [stp, stb]
      right
      intro p hp
      rw [show hF (gR n g (c + 1)) (bR n h g b c) n p = gR n g (c + 1) p from if_pos hp]
      show sbF n c n 0 (gR n g c) p = _
      rw [sbF_ok n 0 _ (by omega) e.1 p hp, if_pos hp]
      rfl
    · rw [if_neg e] at stp stb
      rw [stp, stb]
      exact ih
theorem bW_rng {o : Nat → Bool} {W : Nat → Int} (hW : ∀ c, o c = true → 0 ≤ W c ∧ W c ≤ 2100) : ∀ k, -1 ≤ (bW o W k).1 ∧ (bW o W k).1 ≤ 2100
  | 0 => ⟨Int.le_refl _, by show (-1 : Int) ≤ 2100; decide⟩
  | k + 1 => by
    unfold bW
    by_cases e : o k = true ∧ (bW o W k).1 < W k
    · rw [if_pos e]
      have := hW k e.1
      exact ⟨by show -1 ≤ W k; omega, this.2⟩
    · rw [if_neg e]; exact bW_rng hW k
theorem run_X7_all_bad {n : Nat} (hn : n ≤ 5) (hn3 : ζ.1 52 1 = n) {p : Int} (hp : -2147483648 ≤ p ∧ p ≤ 2147483647) (h : ¬ (p = -1 ∨ (0 ≤ p ∧ p < n))) : zRun l B mX7_all [.ref 52, zi p] ζ (some (zi (-10))) (mBd ζ) := by
  refine zrun_intro (M := mX7_all) (ls := [some (.ref 52), some (zi p), none, none, none, none, none]) (by decide) rfl rfl rfl (Nat.le_of_ble_eq_true rfl) ?_
  intro X A C hX hA hr hk
  replace C : CX X B A mX7_all.2.2.2.2 RX7 cX7_all 7 0 0 := C
  have hr : (xMeth X).sig.returnType = (some .int) := hr
  change ZW X B A 7 0 0 _ _ 0 [some (.ref 52), some (zi p), none, none, none, none, none] []
  refine zw_iload_n (i := 1) (nx := 1) C dX7_all_0 rfl rfl rfl ?_
  refine zw_iconst (nx := 2) C dX7_all_1 rfl ?_
  refine zw_icmp_eq (tgt := 18) (nx := 5) C dX7_all_2 rfl rfl (by omega) (fun h2 => by exfalso; omega) (fun h2 => ?_)
  refine zw_aload_n (i := 0) (nx := 6) C dX7_all_5 rfl rfl rfl ?_
  refine zw_iload_n (i := 1) (nx := 7) C dX7_all_6 rfl rfl rfl ?_
  refine zw_cV11 (nx := 10) C dX7_all_7 rfl cvX7_212 rfl rfl ⟨Nat.le_of_ble_eq_true rfl, Nat.le_of_ble_eq_true rfl⟩ rfl rfl (Nat.le_of_ble_eq_true rfl) (run_X7_isOne_f hn hn3 hp (fun q => h (Or.inr q))) ?_
  refine zw_if_ne (tgt := 18) (nx := 13) C dX7_all_10 rfl rfl (by omega) (fun h10 => by exfalso; omega) (fun h10 => ?_)
  refine zw_aload_n (i := 0) (nx := 14) C dX7_all_13 rfl rfl rfl ?_
  refine zw_cV01 (nx := 17) C dX7_all_14 rfl cvX7_221 rfl rfl ⟨Nat.le_of_ble_eq_true rfl, Nat.le_of_ble_eq_true rfl⟩ rfl rfl (Nat.le_of_ble_eq_true rfl) run_X7_ten ?_
  exact zw_iret C hA hr hk dX7_all_17 rfl rfl
def aAns (n : Nat) (h : aH) (g b : Nat → Int) (p : Int) : Int := if p = -1 then (bW (fun c => sbO c n 0) (fun c => wS h (fc h.1 c)) (8 ^ n)).1 else bR n h g b (8 ^ n) p.toNat
set_option maxHeartbeats 16000000 in
theorem run_X7_all_ok {n : Nat} {h : aH} {p : Int} (hc : mOk ζ n) (hok : aOk h) (hf : aForV (mV ζ) n h) (hp : p = -1 ∨ (0 ≤ p ∧ p < n)) : zRun l B mX7_all [.ref 52, zi p] ζ (some (zi (aAns n h (ζ.1 58) (ζ.1 68) p))) (mS ζ (ζ.1 58) (hF (ζ.1 58) (ζ.1 67) n) (bR n h (ζ.1 58) (ζ.1 68) (8 ^ n))) := by
  have hn := hc.1.1
  have hn3 := hc.2
  have h1 := hf.1
  have h8n : 8 ^ n ≤ 8 ^ 5 := Nat.pow_le_pow_right (by decide) hn
  have h8p : 0 < 8 ^ n := Nat.pow_pos (by decide)
  have hWb : ∀ c, sbO c n 0 = true → 0 ≤ wS h (fc h.1 c) ∧ wS h (fc h.1 c) ≤ 2100 := fun c hcc => wS_bd hok (by rw [h1]; exact sbO_way.mp hcc)
  have hmr := bW_rng (o := fun c => sbO c n 0) (W := fun c => wS h (fc h.1 c)) hWb
  generalize hasd : hF (ζ.1 58) (ζ.1 67) n = asd
  have asdp : ∀ q, q < n → asd q = ζ.1 58 q := fun q hq => by rw [← hasd]; exact if_pos hq
  refine zrun_intro (M := mX7_all) (ls := [some (.ref 52), some (zi p), none, none, none, none, none]) (by decide) rfl rfl rfl (Nat.le_of_ble_eq_true rfl) ?_
  intro X A C hX hA hr hk
  replace C : CX X B A mX7_all.2.2.2.2 RX7 cX7_all 7 0 0 := C
  have hr : (xMeth X).sig.returnType = (some .int) := hr
  change ZW X B A 7 0 0 _ _ 0 [some (.ref 52), some (zi p), none, none, none, none, none] []
  have l2 : ∀ m q : Nat, q + m = n → ∀ o5 o6 : Option Value, ZW X B A 7 0 0 (eFin X B (some (zi (aAns n h (ζ.1 58) (ζ.1 68) p))) (zz (mS ζ (ζ.1 58) asd (bR n h (ζ.1 58) (ζ.1 68) (8 ^ n))))) (mS ζ (hF asd (gR n (ζ.1 58) (8 ^ n)) q) asd (bR n h (ζ.1 58) (ζ.1 68) (8 ^ n))) 165 [some (.ref 52), some (zi p), some (zi ((8 ^ n : Nat) : Int)), some (zi (bW (fun c => sbO c n 0) (fun c => wS h (fc h.1 c)) (8 ^ n)).1), some (zi q), o5, o6] [] := by
    intro m
    induction m with
    | zero =>
      intro q hqm o5 o6
      have e : q = n := by omega
      have r3 : (mS ζ (hF asd (gR n (ζ.1 58) (8 ^ n)) q) asd (bR n h (ζ.1 58) (ζ.1 68) (8 ^ n))).1 52 1 = (n : Int) := hn3
      have es : mS ζ (ζ.1 58) asd (bR n h (ζ.1 58) (ζ.1 68) (8 ^ n)) = mS ζ (hF asd (gR n (ζ.1 58) (8 ^ n)) q) asd (bR n h (ζ.1 58) (ζ.1 68) (8 ^ n)) := by
        rw [show hF asd (gR n (ζ.1 58) (8 ^ n)) q = ζ.1 58 from by
          funext i
          unfold hF
          by_cases hi : i < q
          · rw [if_pos hi]; exact asdp i (by omega)
          · rw [if_neg hi]; exact gR_far (by omega) _]
      by_cases hp1 : p = -1
      · refine zw_iload (nx := 167) C dX7_all_165 rfl rfl ?_
        refine zw_aload_n (i := 0) (nx := 168) C dX7_all_167 rfl rfl rfl ?_
        refine zw_geti (nx := 171) C dX7_all_168 rfl flX7_79 iq6 rfl rfl rfl rfl ?_
        refine zw_icmp_ge (tgt := 194) (nx := 174) C dX7_all_171 rfl rfl (by omega) (fun h171 => ?_) (fun h171 => by exfalso; omega)
        refine zw_iload_n (i := 1) (nx := 195) C dX7_all_194 rfl rfl rfl ?_
        refine zw_iconst (nx := 196) C dX7_all_195 rfl ?_
        refine zw_icmp_ne (tgt := 203) (nx := 199) C dX7_all_196 rfl rfl (by omega) (fun h196 => by exfalso; omega) (fun h196 => ?_)
        refine zw_iload_n (i := 3) (nx := 200) C dX7_all_199 rfl rfl rfl ?_
        refine zw_goto (nx := 209) C dX7_all_200 rfl ?_
        exact zw_iret C hA hr hk dX7_all_209 (zr (if_pos hp1)) es
      · obtain ⟨k, hk9⟩ := Int.eq_ofNat_of_zero_le (show 0 ≤ p by omega)
        have ek : p.toNat = k := by omega
        refine zw_iload (nx := 167) C dX7_all_165 rfl rfl ?_
        refine zw_aload_n (i := 0) (nx := 168) C dX7_all_167 rfl rfl rfl ?_
        refine zw_geti (nx := 171) C dX7_all_168 rfl flX7_79 iq6 rfl rfl rfl rfl ?_
        refine zw_icmp_ge (tgt := 194) (nx := 174) C dX7_all_171 rfl rfl (by omega) (fun h171 => ?_) (fun h171 => by exfalso; omega)
        refine zw_iload_n (i := 1) (nx := 195) C dX7_all_194 rfl rfl rfl ?_
        refine zw_iconst (nx := 196) C dX7_all_195 rfl ?_
        refine zw_icmp_ne (tgt := 203) (nx := 199) C dX7_all_196 rfl rfl (by omega) (fun h196 => ?_) (fun h196 => by exfalso; omega)
        refine zw_aload_n (i := 0) (nx := 204) C dX7_all_203 rfl rfl rfl ?_
        refine zw_getr (nx := 207) C dX7_all_204 rfl flX7_62 iq6 rfl rfl rfl rfl ?_
        refine zw_iload_n (i := 1) (nx := 208) C dX7_all_207 rfl rfl rfl ?_
        refine zw_iald (k) (nx := 209) C dX7_all_208 rfl rfl rfl rfl (by omega) ?_
        exact zw_iret C hA hr hk dX7_all_209 (zr (by unfold aAns; rw [if_neg hp1, ek]; rfl)) es
    | succ m ih =>
      intro q hqm o5 o6
      have r3 : (mS ζ (hF asd (gR n (ζ.1 58) (8 ^ n)) q) asd (bR n h (ζ.1 58) (ζ.1 68) (8 ^ n))).1 52 1 = (n : Int) := hn3
      refine zw_iload (nx := 167) C dX7_all_165 rfl rfl ?_
      refine zw_aload_n (i := 0) (nx := 168) C dX7_all_167 rfl rfl rfl ?_
      refine zw_geti (nx := 171) C dX7_all_168 rfl flX7_79 iq6 rfl rfl rfl rfl ?_
      refine zw_icmp_ge (tgt := 194) (nx := 174) C dX7_all_171 rfl rfl (by omega) (fun h171 => by exfalso; omega) (fun h171 => ?_)
      refine zw_aload_n (i := 0) (nx := 175) C dX7_all_174 rfl rfl rfl ?_
      refine zw_getr (nx := 178) C dX7_all_175 rfl flX7_32 iq6 rfl rfl rfl rfl ?_
      refine zw_iload (nx := 180) C dX7_all_178 rfl rfl ?_
      refine zw_aload_n (i := 0) (nx := 181) C dX7_all_180 rfl rfl rfl ?_
      refine zw_getr (nx := 184) C dX7_all_181 rfl flX7_59 iq6 rfl rfl rfl rfl ?_
      refine zw_iload (nx := 186) C dX7_all_184 rfl rfl ?_
      refine zw_iald (q) (nx := 187) C dX7_all_186 rfl rfl rfl rfl (by omega) ?_
      rw [show (mS ζ (hF asd (gR n (ζ.1 58) (8 ^ n)) q) asd (bR n h (ζ.1 58) (ζ.1 68) (8 ^ n))).1 67 q = asd q from rfl]
      refine zw_iast (q) (nx := 188) C dX7_all_187 rfl rfl rfl rfl (by omega) ?_
      rw [mS_58, hF_s]
      refine zw_iinc4 (nx := 191) C dX7_all_188 rfl (Nat.le_of_ble_eq_true rfl) rfl ?_
      refine zw_goto (nx := 165) C dX7_all_191 rfl ?_
      exact ih (q + 1) (by omega) _ _
  have l1 : ∀ m c : Nat, c + m = 8 ^ n → ∀ o5 o6 : Option Value, ZW X B A 7 0 0 (eFin X B (some (zi (aAns n h (ζ.1 58) (ζ.1 68) p))) (zz (mS ζ (ζ.1 58) asd (bR n h (ζ.1 58) (ζ.1 68) (8 ^ n))))) (mS ζ (gR n (ζ.1 58) c) asd (bR n h (ζ.1 58) (ζ.1 68) c)) 58 [some (.ref 52), some (zi p), some (zi ((8 ^ n : Nat) : Int)), some (zi (bW (fun c => sbO c n 0) (fun c => wS h (fc h.1 c)) c).1), some (zi c), o5, o6] [] := by
    intro m
    induction m with
    | zero =>
      intro c hcm o5 o6
      have e : c = 8 ^ n := by omega
      refine zw_iload (nx := 60) C dX7_all_58 rfl rfl ?_
      refine zw_iload_n (i := 2) (nx := 61) C dX7_all_60 rfl rfl rfl ?_
      refine zw_icmp_ge (tgt := 162) (nx := 64) C dX7_all_61 rfl rfl (by omega) (fun h61 => ?_) (fun h61 => by exfalso; omega)
      refine zw_iconst (nx := 163) C dX7_all_162 rfl ?_
      refine zw_ist4 (nx := 165) C (eIst_w dX7_all_163 rfl) (Nat.le_of_ble_eq_true rfl) rfl ?_
      have := l2 n 0 (by omega) o5 o6
      rw [hF_0, ← e] at this
      rw [← e]
      exact this
    | succ m ih =>
      intro c hcm o5 o6
      have hm := hmr c
      refine zw_iload (nx := 60) C dX7_all_58 rfl rfl ?_
      refine zw_iload_n (i := 2) (nx := 61) C dX7_all_60 rfl rfl rfl ?_
      refine zw_icmp_ge (tgt := 162) (nx := 64) C dX7_all_61 rfl rfl (by omega) (fun h61 => by exfalso; omega) (fun h61 => ?_)
      refine zw_aload_n (i := 0) (nx := 65) C dX7_all_64 rfl rfl rfl ?_
      refine zw_iload (nx := 67) C dX7_all_65 rfl rfl ?_
      refine zw_cV11 (nx := 70) C dX7_all_67 rfl cvX7_251 rfl rfl ⟨Nat.le_of_ble_eq_true rfl, Nat.le_of_ble_eq_true rfl⟩ rfl rfl (Nat.le_of_ble_eq_true rfl) (run_X7_seatBy (ζ := zR (zR ζ 67 asd) 68 (bR n h (ζ.1 58) (ζ.1 68) c)) hn hn3 (by omega)) ?_
      rw [show zR (zR (zR ζ 67 asd) 68 (bR n h (ζ.1 58) (ζ.1 68) c)) 58 (sbF n c n 0 (gR n (ζ.1 58) c)) = mS ζ (gR n (ζ.1 58) (c + 1)) asd (bR n h (ζ.1 58) (ζ.1 68) c) from rfl]
      have stp : bW (fun c => sbO c n 0) (fun c => wS h (fc h.1 c)) (c + 1) = if sbO c n 0 = true ∧ (bW (fun c => sbO c n 0) (fun c => wS h (fc h.1 c)) c).1 < wS h (fc h.1 c) then (wS h (fc h.1 c), c) else bW (fun c => sbO c n 0) (fun c => wS h (fc h.1 c)) c := rfl
      have stb : bR n h (ζ.1 58) (ζ.1 68) (c + 1) = if sbO c n 0 = true ∧ (bW (fun c => sbO c n 0) (fun c => wS h (fc h.1 c)) c).1 < wS h (fc h.1 c) then hF (gR n (ζ.1 58) (c + 1)) (bR n h (ζ.1 58) (ζ.1 68) c) n else bR n h (ζ.1 58) (ζ.1 68) c := rfl
      have nx := ih (c + 1) (by omega)
      have hg : sbO c n 0 = true → ∀ q, q < n → gR n (ζ.1 58) (c + 1) q = (fc n c q : Int) := fun ho q hq => by
        show sbF n c n 0 (gR n (ζ.1 58) c) q = _
        rw [sbF_ok n 0 _ (by omega) ho q hq, if_pos hq]; rfl
      generalize gR n (ζ.1 58) (c + 1) = g1 at nx stb hg
      generalize bW (fun c => sbO c n 0) (fun c => wS h (fc h.1 c)) (c + 1) = z1 at nx stp
      generalize bR n h (ζ.1 58) (ζ.1 68) (c + 1) = b1 at nx stb
      generalize bR n h (ζ.1 58) (ζ.1 68) c = b0 at stb
      generalize bW (fun c => sbO c n 0) (fun c => wS h (fc h.1 c)) c = z0 at hm stp stb
      refine zw_ifb_eq (tgt := 156) (nx := 73) C dX7_all_70 rfl rfl (fun h70 => ?_) (fun h70 => ?_)
      · rw [if_neg (fun q => by rw [h70] at q; cases q.1)] at stp stb
        rw [stp, stb] at nx
        refine zw_iinc4 (nx := 159) C dX7_all_156 rfl (Nat.le_of_ble_eq_true rfl) rfl ?_
        refine zw_goto (nx := 58) C dX7_all_159 rfl ?_
        exact nx _ _
      · have hW := hWb c h70
        have hgc : ∀ q, q < n → g1 q = (fc h.1 c q : Int) := by rw [h1]; exact hg h70
        have h8 : ∀ q, q < n → fc h.1 c q < 8 := fun q _ => dj_lt c _
        have hmo : mOk (mS ζ g1 asd b0) n := ⟨⟨hn, hc.1.2.1, hc.1.2.2.1, hc.1.2.2.2.1, fun q hq => ⟨(hc.1.2.2.2.2 q hq).1, (hc.1.2.2.2.2 q hq).2.1, (hc.1.2.2.2.2 q hq).2.2.1, by
          show -1 ≤ g1 q ∧ g1 q ≤ 7
          have := h8 q hq
          rw [hgc q hq]; omega⟩⟩, hn3⟩
        have hfV : aForV (mV (mS ζ g1 asd b0)) n h := hf
        have hWs : sSum (wW h (fc h.1 c)) n = wS h (fc h.1 c) := by unfold wS; rw [h1]
        have cp : ∀ o6 : Option Value, ZW X B A 7 0 0 (eFin X B (some (zi (aAns n h (ζ.1 58) (ζ.1 68) p))) (zz (mS ζ (ζ.1 58) asd (bR n h (ζ.1 58) (ζ.1 68) (8 ^ n))))) (mS ζ g1 asd b0) 105 [some (.ref 52), some (zi p), some (zi ((8 ^ n : Nat) : Int)), some (zi z0.1), some (zi c), some (zi (wS h (fc h.1 c))), o6] [] := by
          generalize wS h (fc h.1 c) = W at hW stp stb
          intro o6
          by_cases hgt : z0.1 < W
          · rw [if_pos ⟨h70, hgt⟩] at stp stb
            rw [stp, stb] at nx
            have cl : ∀ m q : Nat, q + m = n → ZW X B A 7 0 0 (eFin X B (some (zi (aAns n h (ζ.1 58) (ζ.1 68) p))) (zz (mS ζ (ζ.1 58) asd (bR n h (ζ.1 58) (ζ.1 68) (8 ^ n))))) (mS ζ g1 asd (hF g1 b0 q)) 108 [some (.ref 52), some (zi p), some (zi ((8 ^ n : Nat) : Int)), some (zi z0.1), some (zi c), some (zi W), some (zi q)] [] := by
              intro m
              induction m with
              | zero =>
                intro q hqm
                have e : q = n := by omega
                have r3 : (mS ζ g1 asd (hF g1 b0 q)).1 52 1 = (n : Int) := hn3
                refine zw_iload (nx := 110) C dX7_all_108 rfl rfl ?_
                refine zw_aload_n (i := 0) (nx := 111) C dX7_all_110 rfl rfl rfl ?_
                refine zw_geti (nx := 114) C dX7_all_111 rfl flX7_79 iq6 rfl rfl rfl rfl ?_
                refine zw_icmp_ge (tgt := 143) (nx := 117) C dX7_all_114 rfl rfl (by omega) (fun h114 => ?_) (fun h114 => by exfalso; omega)
                rw [e]
                refine zw_iload (nx := 145) C dX7_all_143 rfl rfl ?_
                refine zw_iload_n (i := 3) (nx := 146) C dX7_all_145 rfl rfl rfl ?_
                refine zw_icmp_le (tgt := 154) (nx := 149) C dX7_all_146 rfl rfl (by omega) (fun h146 => by exfalso; omega) (fun h146 => ?_)
                refine zw_iload (nx := 151) C dX7_all_149 rfl rfl ?_
                refine zw_goto (nx := 155) C dX7_all_151 rfl ?_
                refine zw_ist3 (nx := 156) C (eIst_n dX7_all_155 rfl rfl) (Nat.le_of_ble_eq_true rfl) rfl ?_
                refine zw_iinc4 (nx := 159) C dX7_all_156 rfl (Nat.le_of_ble_eq_true rfl) rfl ?_
                refine zw_goto (nx := 58) C dX7_all_159 rfl ?_
                exact nx _ _
              | succ m ih2 =>
                intro q hqm
                have r3 : (mS ζ g1 asd (hF g1 b0 q)).1 52 1 = (n : Int) := hn3
                refine zw_iload (nx := 110) C dX7_all_108 rfl rfl ?_
                refine zw_aload_n (i := 0) (nx := 111) C dX7_all_110 rfl rfl rfl ?_
                refine zw_geti (nx := 114) C dX7_all_111 rfl flX7_79 iq6 rfl rfl rfl rfl ?_
                refine zw_icmp_ge (tgt := 143) (nx := 117) C dX7_all_114 rfl rfl (by omega) (fun h114 => by exfalso; omega) (fun h114 => ?_)
                refine zw_iload (nx := 119) C dX7_all_117 rfl rfl ?_
                refine zw_iload_n (i := 3) (nx := 120) C dX7_all_119 rfl rfl rfl ?_
                refine zw_icmp_le (tgt := 143) (nx := 123) C dX7_all_120 rfl rfl (by omega) (fun h120 => by exfalso; omega) (fun h120 => ?_)
                refine zw_aload_n (i := 0) (nx := 124) C dX7_all_123 rfl rfl rfl ?_
                refine zw_getr (nx := 127) C dX7_all_124 rfl flX7_62 iq6 rfl rfl rfl rfl ?_
                refine zw_iload (nx := 129) C dX7_all_127 rfl rfl ?_
                refine zw_aload_n (i := 0) (nx := 130) C dX7_all_129 rfl rfl rfl ?_
                refine zw_getr (nx := 133) C dX7_all_130 rfl flX7_32 iq6 rfl rfl rfl rfl ?_
                refine zw_iload (nx := 135) C dX7_all_133 rfl rfl ?_
                refine zw_iald (q) (nx := 136) C dX7_all_135 rfl rfl rfl rfl (by omega) ?_
                rw [show (mS ζ g1 asd (hF g1 b0 q)).1 58 q = g1 q from rfl]
                refine zw_iast (q) (nx := 137) C dX7_all_136 rfl rfl rfl rfl (by omega) ?_
                rw [mS_68, hF_s]
                refine zw_iinc6 (nx := 140) C dX7_all_137 rfl (Nat.le_of_ble_eq_true rfl) rfl ?_
                refine zw_goto (nx := 108) C dX7_all_140 rfl ?_
                exact ih2 (q + 1) (by omega)
            refine zw_iconst (nx := 106) C dX7_all_105 rfl ?_
            refine zw_ist6 (nx := 108) C (eIst_w dX7_all_106 rfl) (Nat.le_of_ble_eq_true rfl) rfl ?_
            have := cl n 0 (by omega)
            rw [hF_0] at this
            exact this
          · rw [if_neg (fun q => hgt q.2)] at stp stb
            rw [stp, stb] at nx
            have r3 : (mS ζ g1 asd b0).1 52 1 = (n : Int) := hn3
            by_cases hn0 : n = 0
            · refine zw_iconst (nx := 106) C dX7_all_105 rfl ?_
              refine zw_ist6 (nx := 108) C (eIst_w dX7_all_106 rfl) (Nat.le_of_ble_eq_true rfl) rfl ?_
              refine zw_iload (nx := 110) C dX7_all_108 rfl rfl ?_
              refine zw_aload_n (i := 0) (nx := 111) C dX7_all_110 rfl rfl rfl ?_
              refine zw_geti (nx := 114) C dX7_all_111 rfl flX7_79 iq6 rfl rfl rfl rfl ?_
              refine zw_icmp_ge (tgt := 143) (nx := 117) C dX7_all_114 rfl rfl (by omega) (fun h114 => ?_) (fun h114 => by exfalso; omega)
              refine zw_iload (nx := 145) C dX7_all_143 rfl rfl ?_
              refine zw_iload_n (i := 3) (nx := 146) C dX7_all_145 rfl rfl rfl ?_
              refine zw_icmp_le (tgt := 154) (nx := 149) C dX7_all_146 rfl rfl (by omega) (fun h146 => ?_) (fun h146 => by exfalso; omega)
              refine zw_iload_n (i := 3) (nx := 155) C dX7_all_154 rfl rfl rfl ?_
              refine zw_ist3 (nx := 156) C (eIst_n dX7_all_155 rfl rfl) (Nat.le_of_ble_eq_true rfl) rfl ?_
              refine zw_iinc4 (nx := 159) C dX7_all_156 rfl (Nat.le_of_ble_eq_true rfl) rfl ?_
              refine zw_goto (nx := 58) C dX7_all_159 rfl ?_
              exact nx _ _
            · refine zw_iconst (nx := 106) C dX7_all_105 rfl ?_
              refine zw_ist6 (nx := 108) C (eIst_w dX7_all_106 rfl) (Nat.le_of_ble_eq_true rfl) rfl ?_
              refine zw_iload (nx := 110) C dX7_all_108 rfl rfl ?_
              refine zw_aload_n (i := 0) (nx := 111) C dX7_all_110 rfl rfl rfl ?_
              refine zw_geti (nx := 114) C dX7_all_111 rfl flX7_79 iq6 rfl rfl rfl rfl ?_
              refine zw_icmp_ge (tgt := 143) (nx := 117) C dX7_all_114 rfl rfl (by omega) (fun h114 => by exfalso; omega) (fun h114 => ?_)
              refine zw_iload (nx := 119) C dX7_all_117 rfl rfl ?_
              refine zw_iload_n (i := 3) (nx := 120) C dX7_all_119 rfl rfl rfl ?_
              refine zw_icmp_le (tgt := 143) (nx := 123) C dX7_all_120 rfl rfl (by omega) (fun h120 => ?_) (fun h120 => by exfalso; omega)
              refine zw_iload (nx := 145) C dX7_all_143 rfl rfl ?_
              refine zw_iload_n (i := 3) (nx := 146) C dX7_all_145 rfl rfl rfl ?_
              refine zw_icmp_le (tgt := 154) (nx := 149) C dX7_all_146 rfl rfl (by omega) (fun h146 => ?_) (fun h146 => by exfalso; omega)
              refine zw_iload_n (i := 3) (nx := 155) C dX7_all_154 rfl rfl rfl ?_
              refine zw_ist3 (nx := 156) C (eIst_n dX7_all_155 rfl rfl) (Nat.le_of_ble_eq_true rfl) rfl ?_
              refine zw_iinc4 (nx := 159) C dX7_all_156 rfl (Nat.le_of_ble_eq_true rfl) rfl ?_
              refine zw_goto (nx := 58) C dX7_all_159 rfl ?_
              exact nx _ _
        have sl : ∀ m q : Nat, q + m = n → ZW X B A 7 0 0 (eFin X B (some (zi (aAns n h (ζ.1 58) (ζ.1 68) p))) (zz (mS ζ (ζ.1 58) asd (bR n h (ζ.1 58) (ζ.1 68) (8 ^ n))))) (mS ζ g1 asd b0) 79 [some (.ref 52), some (zi p), some (zi ((8 ^ n : Nat) : Int)), some (zi z0.1), some (zi c), some (zi (sSum (wW h (fc h.1 c)) q)), some (zi q)] [] := by
          intro m
          induction m with
          | zero =>
            intro q hqm
            have e : q = n := by omega
            have r3 : (mS ζ g1 asd b0).1 52 1 = (n : Int) := hn3
            refine zw_iload (nx := 81) C dX7_all_79 rfl rfl ?_
            refine zw_aload_n (i := 0) (nx := 82) C dX7_all_81 rfl rfl rfl ?_
            refine zw_geti (nx := 85) C dX7_all_82 rfl flX7_79 iq6 rfl rfl rfl rfl ?_
            refine zw_icmp_ge (tgt := 105) (nx := 88) C dX7_all_85 rfl rfl (by omega) (fun h85 => ?_) (fun h85 => by exfalso; omega)
            rw [e, hWs]
            exact cp _
          | succ m ih2 =>
            intro q hqm
            have r3 : (mS ζ g1 asd b0).1 52 1 = (n : Int) := hn3
            refine zw_iload (nx := 81) C dX7_all_79 rfl rfl ?_
            refine zw_aload_n (i := 0) (nx := 82) C dX7_all_81 rfl rfl rfl ?_
            refine zw_geti (nx := 85) C dX7_all_82 rfl flX7_79 iq6 rfl rfl rfl rfl ?_
            refine zw_icmp_ge (tgt := 105) (nx := 88) C dX7_all_85 rfl rfl (by omega) (fun h85 => by exfalso; omega) (fun h85 => ?_)
            refine zw_iload (nx := 90) C dX7_all_88 rfl rfl ?_
            refine zw_aload_n (i := 0) (nx := 91) C dX7_all_90 rfl rfl rfl ?_
            refine zw_iload (nx := 93) C dX7_all_91 rfl rfl ?_
            refine zw_cV11 (nx := 96) C dX7_all_93 rfl cvX7_230 rfl rfl ⟨Nat.le_of_ble_eq_true rfl, Nat.le_of_ble_eq_true rfl⟩ rfl rfl (Nat.le_of_ble_eq_true rfl) (run_X7_worth hmo (by omega) (show (mS ζ g1 asd b0).1 58 q = (fc h.1 c q : Int) from hgc q (by omega))) ?_
            rw [worth_eq hmo.1 hfV hok (f := fc h.1 c) hgc h8 (show q < n by omega)]
            refine zw_iadd (nx := 97) C dX7_all_96 rfl ?_
            refine zw_ist5 (nx := 99) C (eIst_w dX7_all_97 rfl) (Nat.le_of_ble_eq_true rfl) rfl ?_
            refine zw_iinc6 (nx := 102) C dX7_all_99 rfl (Nat.le_of_ble_eq_true rfl) rfl ?_
            refine zw_goto (nx := 79) C dX7_all_102 rfl ?_
            exact ih2 (q + 1) (by omega)
        refine zw_iconst (nx := 74) C dX7_all_73 rfl ?_
        refine zw_ist5 (nx := 76) C (eIst_w dX7_all_74 rfl) (Nat.le_of_ble_eq_true rfl) rfl ?_
        refine zw_iconst (nx := 77) C dX7_all_76 rfl ?_
        refine zw_ist6 (nx := 79) C (eIst_w dX7_all_77 rfl) (Nat.le_of_ble_eq_true rfl) rfl ?_
        exact sl n 0 (by omega)
  have l0 : ∀ m q : Nat, q + m = n → ZW X B A 7 0 0 (eFin X B (some (zi (aAns n h (ζ.1 58) (ζ.1 68) p))) (zz (mS ζ (ζ.1 58) asd (bR n h (ζ.1 58) (ζ.1 68) (8 ^ n))))) (mS ζ (ζ.1 58) (hF (ζ.1 58) (ζ.1 67) q) (ζ.1 68)) 22 [some (.ref 52), some (zi p), some (zi ((8 ^ q : Nat) : Int)), some (zi q), none, none, none] [] := by
    intro m
    induction m with
    | zero =>
      intro q hqm
      have e : q = n := by omega
      have r3 : (mS ζ (ζ.1 58) (hF (ζ.1 58) (ζ.1 67) q) (ζ.1 68)).1 52 1 = (n : Int) := hn3
      refine zw_iload_n (i := 3) (nx := 23) C dX7_all_22 rfl rfl rfl ?_
      refine zw_aload_n (i := 0) (nx := 24) C dX7_all_23 rfl rfl rfl ?_
      refine zw_geti (nx := 27) C dX7_all_24 rfl flX7_79 iq6 rfl rfl rfl rfl ?_
      refine zw_icmp_ge (tgt := 53) (nx := 30) C dX7_all_27 rfl rfl (by omega) (fun h27 => ?_) (fun h27 => by exfalso; omega)
      refine zw_iconst (nx := 54) C dX7_all_53 rfl ?_
      refine zw_ist3 (nx := 55) C (eIst_n dX7_all_54 rfl rfl) (Nat.le_of_ble_eq_true rfl) rfl ?_
      refine zw_iconst (nx := 56) C dX7_all_55 rfl ?_
      refine zw_ist4 (nx := 58) C (eIst_w dX7_all_56 rfl) (Nat.le_of_ble_eq_true rfl) rfl ?_
      have := l1 (8 ^ n) 0 (by omega) none none
      rw [← hasd] at this
      rw [← hasd, e]
      exact this
    | succ m ih =>
      intro q hqm
      have r3 : (mS ζ (ζ.1 58) (hF (ζ.1 58) (ζ.1 67) q) (ζ.1 68)).1 52 1 = (n : Int) := hn3
      refine zw_iload_n (i := 3) (nx := 23) C dX7_all_22 rfl rfl rfl ?_
      refine zw_aload_n (i := 0) (nx := 24) C dX7_all_23 rfl rfl rfl ?_
      refine zw_geti (nx := 27) C dX7_all_24 rfl flX7_79 iq6 rfl rfl rfl rfl ?_
      refine zw_icmp_ge (tgt := 53) (nx := 30) C dX7_all_27 rfl rfl (by omega) (fun h27 => by exfalso; omega) (fun h27 => ?_)
      refine zw_aload_n (i := 0) (nx := 31) C dX7_all_30 rfl rfl rfl ?_
      refine zw_getr (nx := 34) C dX7_all_31 rfl flX7_59 iq6 rfl rfl rfl rfl ?_
      refine zw_iload_n (i := 3) (nx := 35) C dX7_all_34 rfl rfl rfl ?_
      refine zw_aload_n (i := 0) (nx := 36) C dX7_all_35 rfl rfl rfl ?_
      refine zw_getr (nx := 39) C dX7_all_36 rfl flX7_32 iq6 rfl rfl rfl rfl ?_
      refine zw_iload_n (i := 3) (nx := 40) C dX7_all_39 rfl rfl rfl ?_
      refine zw_iald (q) (nx := 41) C dX7_all_40 rfl rfl rfl rfl (by omega) ?_
      rw [show (mS ζ (ζ.1 58) (hF (ζ.1 58) (ζ.1 67) q) (ζ.1 68)).1 58 q = ζ.1 58 q from rfl]
      refine zw_iast (q) (nx := 42) C dX7_all_41 rfl rfl rfl rfl (by omega) ?_
      rw [mS_67, hF_s]
      refine zw_iload_n (i := 2) (nx := 43) C dX7_all_42 rfl rfl rfl ?_
      refine zw_bipush (v := 8) (nx := 45) C dX7_all_43 (by decide) rfl ?_
      refine zw_imul (nx := 46) C dX7_all_45 rfl ?_
      refine zw_ist2 (nx := 47) C (eIst_n dX7_all_46 rfl rfl) (Nat.le_of_ble_eq_true rfl) rfl ?_
      refine zw_iinc3 (nx := 50) C dX7_all_47 rfl (Nat.le_of_ble_eq_true rfl) rfl ?_
      refine zw_goto (nx := 22) C dX7_all_50 rfl ?_
      rw [show ((8 ^ q : Nat) : Int) * 8 = ((8 ^ (q + 1) : Nat) : Int) from by rw [Nat.pow_succ]; rfl]
      exact ih (q + 1) (by omega)
  have start : ∀ o : Unit, ZW X B A 7 0 0 (eFin X B (some (zi (aAns n h (ζ.1 58) (ζ.1 68) p))) (zz (mS ζ (ζ.1 58) asd (bR n h (ζ.1 58) (ζ.1 68) (8 ^ n))))) ζ 18 [some (.ref 52), some (zi p), none, none, none, none, none] [] := by
    intro _
    refine zw_iconst (nx := 19) C dX7_all_18 rfl ?_
    refine zw_ist2 (nx := 20) C (eIst_n dX7_all_19 rfl rfl) (Nat.le_of_ble_eq_true rfl) rfl ?_
    refine zw_iconst (nx := 21) C dX7_all_20 rfl ?_
    refine zw_ist3 (nx := 22) C (eIst_n dX7_all_21 rfl rfl) (Nat.le_of_ble_eq_true rfl) rfl ?_
    have := l0 n 0 (by omega)
    rw [hF_0, mS_self] at this
    exact this
  rcases hp with hp | hp
  · refine zw_iload_n (i := 1) (nx := 1) C dX7_all_0 rfl rfl rfl ?_
    refine zw_iconst (nx := 2) C dX7_all_1 rfl ?_
    refine zw_icmp_eq (tgt := 18) (nx := 5) C dX7_all_2 rfl rfl (by omega) (fun h2 => ?_) (fun h2 => by exfalso; omega)
    exact start ()
  · refine zw_iload_n (i := 1) (nx := 1) C dX7_all_0 rfl rfl rfl ?_
    refine zw_iconst (nx := 2) C dX7_all_1 rfl ?_
    refine zw_icmp_eq (tgt := 18) (nx := 5) C dX7_all_2 rfl rfl (by omega) (fun h2 => by exfalso; omega) (fun h2 => ?_)
    refine zw_aload_n (i := 0) (nx := 6) C dX7_all_5 rfl rfl rfl ?_
    refine zw_iload_n (i := 1) (nx := 7) C dX7_all_6 rfl rfl rfl ?_
    refine zw_cV11 (nx := 10) C dX7_all_7 rfl cvX7_212 rfl rfl ⟨Nat.le_of_ble_eq_true rfl, Nat.le_of_ble_eq_true rfl⟩ rfl rfl (Nat.le_of_ble_eq_true rfl) (run_X7_isOne_t hn hn3 hp) ?_
    refine zw_if_ne (tgt := 18) (nx := 13) C dX7_all_10 rfl rfl (by omega) (fun h10 => ?_) (fun h10 => by exfalso; omega)
    exact start ()
end SeaM
