/-! the relation between the class's cells and the reference's -/
def tOk (S P D : Nat → Int) (n : Nat) : Prop := (∀ p, p < n → (-1 ≤ S p ∧ S p ≤ 7) ∧ 0 ≤ P p ∧ 0 ≤ D p ∧ P p + D p ≤ 500) ∧ ∀ p q, p < n → q < n → S p = S q → S p ≠ -1 → p = q
def tEq (S' P' D' S P D : Nat → Int) (n : Nat) : Prop := ∀ p, p < n → S' p = S p ∧ P' p = P p ∧ D' p = D p
def Snp (n c s : Nat) (tr dk : Int) (H K Hd P D S N Q : Nat → Int) (tr' dk' : Int) (H' K' P' D' S' N0 N1 N2 N3 Q' : Nat → Int) : Prop :=
  (n ≤ 5 ∧ c ≤ 6 ∧ s ≤ 8) ∧ ((0 ≤ tr ∧ tr ≤ 7) ∧ (0 ≤ dk ∧ dk ≤ 240) ∧ tr' = tr ∧ dk' = dk) ∧
  (∀ y, y < 8 → (0 ≤ H y ∧ H y ≤ 9) ∧ H' y = H y) ∧ (∀ p, p < n → (0 ≤ K p ∧ K p ≤ 5) ∧ Hd p = sHd (K p) ∧ K' p = K p) ∧
  (tOk S P D n ∧ tEq S' P' D' S P D n) ∧
  (∀ i, i < c → ((0 ≤ N (4 * i) ∧ N (4 * i) ≤ 4) ∧ (0 ≤ N (4 * i + 1) ∧ N (4 * i + 1) ≤ 240) ∧ (0 ≤ N (4 * i + 2) ∧ N (4 * i + 2) ≤ 9) ∧ (0 ≤ N (4 * i + 3) ∧ N (4 * i + 3) ≤ 500)) ∧ N0 i = N (4 * i) ∧ N1 i = N (4 * i + 1) ∧ N2 i = N (4 * i + 2) ∧ N3 i = N (4 * i + 3)) ∧
  (∀ i, i < s → tOk (fun p => Q (15 * i + p)) (fun p => Q (15 * i + 5 + p)) (fun p => Q (15 * i + 10 + p)) n ∧ tEq (fun p => Q' (15 * i + p)) (fun p => Q' (15 * i + 5 + p)) (fun p => Q' (15 * i + 10 + p)) (fun p => Q (15 * i + p)) (fun p => Q (15 * i + 5 + p)) (fun p => Q (15 * i + 10 + p)) n)
def RelN (ζ : zSt) (n c s : Nat) : Prop :=
  (ζ.1 1 3 = n ∧ ζ.1 1 9 = c ∧ ζ.1 1 11 = s ∧ ζ.1 52 1 = n ∧ ζ.1 52 4 = c ∧ ζ.1 52 24 = s) ∧
  Snp n c s (ζ.1 1 0) (ζ.1 1 1) (ζ.1 2) (ζ.1 3) (ζ.1 4) (ζ.1 5) (ζ.1 6) (ζ.1 7) (ζ.1 8) (ζ.1 9) (ζ.1 52 2) (ζ.1 52 3) (ζ.1 54) (ζ.1 55) (ζ.1 56) (ζ.1 57) (ζ.1 58) (ζ.1 59) (ζ.1 60) (ζ.1 61) (ζ.1 62) (ζ.1 66)
def RelI (ζ : zSt) (i h h1 h2 h3 h4 h5 h6 h7 h8 : Nat) : Prop :=
  (ζ.1 38 i = ζ.1 70 i) ∧ (ζ.1 38 i = 0 ∨ (ζ.1 38 i = 1 ∧ ∃ n c s : Nat,
  (ζ.1 h 3 = n ∧ ζ.1 h 9 = c ∧ ζ.1 h 11 = s ∧ ζ.1 69 (190 * i) = n ∧ ζ.1 69 (190 * i + 3) = c ∧ ζ.1 69 (190 * i + 4) = s) ∧
  Snp n c s (ζ.1 h 0) (ζ.1 h 1) (ζ.1 h1) (ζ.1 h2) (ζ.1 h3) (ζ.1 h4) (ζ.1 h5) (ζ.1 h6) (ζ.1 h7) (ζ.1 h8) (ζ.1 69 (190 * i + 1)) (ζ.1 69 (190 * i + 2)) (fun b => ζ.1 69 (190 * i + 25 + b)) (fun b => ζ.1 69 (190 * i + 20 + b)) (fun b => ζ.1 69 (190 * i + 10 + b)) (fun b => ζ.1 69 (190 * i + 15 + b)) (fun b => ζ.1 69 (190 * i + 5 + b)) (fun b => ζ.1 69 (190 * i + 33 + b)) (fun b => ζ.1 69 (190 * i + 39 + b)) (fun b => ζ.1 69 (190 * i + 45 + b)) (fun b => ζ.1 69 (190 * i + 51 + b)) (fun b => ζ.1 69 (190 * i + 57 + b))))
def RelT (ζ : zSt) (t : Nat) : Prop := (ζ.1 39 1 = t ∧ ζ.1 52 15 = t ∧ t ≤ 150) ∧ ∀ i, i < t → (0 ≤ ζ.1 40 i ∧ ζ.1 40 i ≤ 127) ∧ ζ.1 63 i = ζ.1 40 i
def RelS (ζ : zSt) : Prop := ζ.1 53 0 = ζ.1 0 9 ∧ ζ.1 53 1 = ζ.1 0 10 ∧ ζ.1 53 2 = ζ.1 0 11
def RelF (ζ : zSt) : Prop := (ζ.2 0 = ζ.1 0 7 ∧ ζ.2 1 = ζ.1 0 8) ∧ (0 ≤ ζ.1 0 7 ∧ ζ.1 0 7 ≤ 100000) ∧ (0 ≤ ζ.1 0 8 ∧ ζ.1 0 8 ≤ 100000)
def Rel (ζ : zSt) : Prop := (∃ n c s, RelN ζ n c s) ∧ (RelI ζ 0 20 21 22 23 24 25 26 27 28 ∧ RelI ζ 1 29 30 31 32 33 34 35 36 37) ∧ (∃ t, RelT ζ t) ∧ RelS ζ ∧ RelF ζ
/-- rows of a store behind a write -/
def zu (f : Nat → Int) (i : Nat) (x : Int) : Nat → Int := fun b => if b = i then x else f b
theorem zu_at (f : Nat → Int) (i : Nat) (x : Int) (b : Nat) : zu f i x b = if b = i then x else f b := rfl
theorem zU_row (ζ : zSt) (k i : Nat) (x : Int) (a : Nat) : (zU ζ k i x).1 a = if a = k then zu (ζ.1 a) i x else ζ.1 a := by
  funext b
  rw [zU_at]
  by_cases h : a = k
  · rw [if_pos h, zu_at]
    by_cases h2 : b = i
    · rw [if_pos ⟨h, h2⟩, if_pos h2]
    · rw [if_neg (fun q => h2 q.2), if_neg h2]
  · rw [if_neg h, if_neg (fun q => h q.1)]
theorem zR_row (ζ : zSt) (k : Nat) (f : Nat → Int) (a : Nat) : (zR ζ k f).1 a = if a = k then f else ζ.1 a := by
  funext b; rw [zR_at]; split <;> rfl
def zcp (f g : Nat → Int) (sp dp n : Nat) : Nat → Int := fun b => if dp ≤ b ∧ b < dp + n then f (sp + (b - dp)) else g b
theorem zcp_at (f g : Nat → Int) (sp dp n b : Nat) : zcp f g sp dp n b = if dp ≤ b ∧ b < dp + n then f (sp + (b - dp)) else g b := rfl
theorem zCp_row (ζ : zSt) (k0 k1 sp dp n a : Nat) : (zCp ζ k0 k1 sp dp n).1 a = if a = k1 then zcp (ζ.1 k0) (ζ.1 k1) sp dp n else ζ.1 a := by
  funext b; rw [zCp_at]; split <;> rfl
def zfl (f : Nat → Int) (x : Int) (n : Nat) : Nat → Int := fun b => if b < n then x else f b
theorem zfl_at (f : Nat → Int) (x : Int) (n b : Nat) : zfl f x n b = if b < n then x else f b := rfl
theorem zFill_row (ζ : zSt) (k : Nat) (x : Int) (n a : Nat) : (zFill ζ k x n).1 a = if a = k then zfl (ζ.1 a) x n else ζ.1 a := by
  funext b; rw [zFill_at]
  by_cases h : a = k
  · rw [if_pos h, zfl_at]
    by_cases h2 : b < n
    · rw [if_pos ⟨h, h2⟩, if_pos h2]
    · rw [if_neg (fun q => h2 q.2), if_neg h2]
  · rw [if_neg h, if_neg (fun q => h q.1)]
theorem RelN.cOk {ζ : zSt} {n c s : Nat} (h : RelN ζ n c s) : cOk ζ n := by
  obtain ⟨⟨e1, -, -, -, -, -⟩, ⟨hn, -, -⟩, ⟨h1, h2, -, -⟩, hH, hK, ⟨hT, -⟩, -, -⟩ := h
  refine ⟨⟨hn, h1, h2, fun y hy => (hH y hy).1, fun p hp => ?_⟩, e1, fun p hp => (hK p hp).2.1⟩
  have a := hT.1 p hp
  exact ⟨(hK p hp).1, by show 0 ≤ ζ.1 5 p ∧ ζ.1 5 p ≤ 500; omega, by show 0 ≤ ζ.1 6 p ∧ ζ.1 6 p ≤ 500; omega, a.1⟩
/-- two views of n bidders that agree -/
def Agr (V W : Nat → Nat → Int) (n : Nat) : Prop := (W 0 0 = V 0 0 ∧ W 0 1 = V 0 1) ∧ (∀ y, y < 8 → W 1 y = V 1 y) ∧ ∀ p, p < n → W 2 p = V 2 p ∧ W 3 p = V 3 p ∧ W 4 p = V 4 p ∧ W 5 p = V 5 p
theorem RelN.agr {ζ : zSt} {n c s : Nat} (h : RelN ζ n c s) : Agr (cV ζ) (mV ζ) n := by
  obtain ⟨-, -, ⟨-, -, h3, h4⟩, hH, hK, ⟨-, hE⟩, -, -⟩ := h
  exact ⟨⟨h3, h4⟩, fun y hy => (hH y hy).2, fun p hp => ⟨(hK p hp).2.2, (hE p hp).2.1, (hE p hp).2.2, (hE p hp).1⟩⟩
theorem RelN.mOk {ζ : zSt} {n c s : Nat} (h : RelN ζ n c s) : mOk ζ n := by
  have a := h.agr
  have o := h.cOk.1
  refine ⟨⟨o.1, ?_, ?_, fun y hy => ?_, fun p hp => ?_⟩, h.1.2.2.2.1⟩
  · rw [a.1.1]; exact o.2.1
  · rw [a.1.2]; exact o.2.2.1
  · rw [a.2.1 y hy]; exact o.2.2.2.1 y hy
  · obtain ⟨a1, a2, a3, a4⟩ := a.2.2 p hp
    rw [a1, a2, a3, a4]; exact o.2.2.2.2 p hp
section AGR
variable {V W : Nat → Nat → Int} {n : Nat}
theorem Agr.dk (h : Agr V W n) (y : Int) : sDk W y = sDk V y := by unfold sDk; rw [h.1.1, h.1.2]
theorem Agr.hol (h : Agr V W n) (y : Int) : ∀ k p, p + k ≤ n → sHol W y p k = sHol V y p k
  | 0, p, _ => rfl
  | k + 1, p, hp => by
    unfold sHol
    rw [(h.2.2 p (by omega)).2.2.2, Agr.hol h y k (p + 1) (by omega)]
theorem Agr.opn (h : Agr V W n) (p y : Int) : sOpn W n p y = sOpn V n p y := by
  unfold sOpn; rw [h.hol y n 0 (by omega)]
theorem Agr.bl (h : Agr V W n) {q f y : Nat} (hq : q < n) (hf : f < 8) (hy : y < 8) : sBl W q f y = sBl V q f y :=
  sBl_congr (h.2.1 f hf) (h.2.1 y hy) (h.2.2 q hq).1
theorem Agr.hid (h : Agr V W n) (hv : vOk V n) {y : Nat} (hy : y < 8) (a b : Nat) : ∀ k p, p + k ≤ n → sHid W y a b p k = sHid V y a b p k
  | 0, p, _ => rfl
  | k + 1, p, hp => by
    have hs := (hv.2.2.2.2 p (by omega)).2.2.2
    unfold sHid
    rw [(h.2.2 p (by omega)).2.2.2, h.bl (by omega) (by omega) hy, Agr.hid h hv hy a b k (p + 1) (by omega)]
theorem Agr.seen (h : Agr V W n) (hv : vOk V n) {p y : Nat} (hy : y < 8) : sSeen W n p y = sSeen V n p y := by
  unfold sSeen; rw [h.hid hv hy p p n 0 (by omega), h.dk]
theorem Agr.now (h : Agr V W n) (hv : vOk V n) {p : Nat} (hp : p < n) : sNow W n p = sNow V n p := by
  have hs := (hv.2.2.2.2 p hp).2.2.2
  unfold sNow; rw [(h.2.2 p hp).2.2.2, h.seen hv (by omega)]
theorem Agr.win (h : Agr V W n) (hv : vOk V n) {p y : Nat} (hp : p < n) (hy : y < 8) : sWin W n p y = sWin V n p y := by
  unfold sWin; rw [(h.2.2 p hp).1, h.seen hv hy, h.2.1 y hy]
theorem Agr.bid (h : Agr V W n) (hv : vOk V n) {p y : Nat} (hp : p < n) (hy : y < 8) : sBid W n p y = sBid V n p y := by
  unfold sBid; rw [(h.2.2 p hp).2.1, h.win hv hp hy]
theorem Agr.off (h : Agr V W n) (hv : vOk V n) {p y : Nat} (hp : p < n) (hy : y < 8) : sOff W n y p = sOff V n y p := by
  unfold sOff; rw [(h.2.2 p hp).2.2.2, h.bid hv hp hy]
theorem sTop_cg {f g : Nat → Int} : ∀ k, (∀ p, p < k → f p = g p) → sTop f k = sTop g k
  | 0, _ => rfl
  | k + 1, h => by
    unfold sTop
    rw [sTop_cg k (fun p hp => h p (by omega)), h k (by omega)]
theorem sPri_cg {f g : Nat → Int} (w : Int) : ∀ k, (∀ p, p < k → f p = g p) → sPri f w k = sPri g w k
  | 0, _ => rfl
  | k + 1, h => by
    unfold sPri
    rw [sPri_cg w k (fun p hp => h p (by omega)), h k (by omega)]
theorem Agr.top (h : Agr V W n) (hv : vOk V n) {y : Nat} (hy : y < 8) : sTop (sOff W n y) n = sTop (sOff V n y) n := sTop_cg n (fun p hp => h.off hv hp hy)
theorem Agr.pri (h : Agr V W n) (hv : vOk V n) {y : Nat} (hy : y < 8) (w : Int) : sPri (sOff W n y) w n = sPri (sOff V n y) w n := sPri_cg w n (fun p hp => h.off hv hp hy)
theorem Agr.hurt (h : Agr V W n) (hv : vOk V n) {p y : Nat} (hp : p < n) (hy : y < 8) : sSum (sHurt W n p y) n = sSum (sHurt V n p y) n := by
  refine sSum_congr n (fun q hq => ?_)
  have hs := (hv.2.2.2.2 q hq).2.2.2
  unfold sHurt
  rw [(h.2.2 q hq).2.2.2, h.bl hp hy (by omega), h.hid hv (by omega) q p n 0 (by omega), h.dk]
theorem Agr.free (h : Agr V W n) : ∀ k, k ≤ n → sFree W k = sFree V k
  | 0, _ => rfl
  | k + 1, hk => by
    unfold sFree; rw [(h.2.2 k (by omega)).2.2.2, Agr.free h k (by omega)]
theorem Agr.all (h : Agr V W n) (hv : vOk V n) : sSum (sOth W n (-1)) n = sSum (sNow V n) n := by
  refine sSum_congr n (fun q hq => ?_)
  unfold sOth; rw [if_neg (by omega), h.now hv hq]
theorem Agr.paid (h : Agr V W n) : sSum (W 4) n = sSum (V 4) n := sSum_congr n (fun q hq => (h.2.2 q hq).2.2.1)
theorem sAm_cg {ok ok' : Nat → Bool} {f g : Nat → Int} (z : Int × Int) : ∀ k, (∀ p, p < k → ok p = ok' p ∧ f p = g p) → sAm ok f z k = sAm ok' g z k
  | 0, _ => rfl
  | k + 1, h => by
    unfold sAm
    rw [sAm_cg z k (fun p hp => h p (by omega)), (h k (by omega)).1, (h k (by omega)).2]
theorem Agr.bst (h : Agr V W n) (hv : vOk V n) {p : Nat} (hp : p < n) : sBst W n p = sBst V n p :=
  sAm_cg _ 8 (fun y hy => ⟨h.opn p y, by unfold sGain; rw [h.win hv hp hy, h.hurt hv hp hy]⟩)
theorem Agr.mov (h : Agr V W n) (hv : vOk V n) : sMov W n n = sMov V n n :=
  sAm_cg _ n (fun p hp => ⟨by rw [(h.2.2 p hp).2.2.2], by
    have hs := (hv.2.2.2.2 p hp).2.2.2
    unfold sMvH
    rw [(h.2.2 p hp).2.2.2]
    by_cases e : V 5 p = -1
    · rw [e]; exact h.hurt hv hp (by decide)
    · exact h.hurt hv hp (by omega)⟩)
end AGR
