/-! THE ENGINE, 1: stores, shapes, the world, the judgement WW -/
/-- the tables' words that a callee may rest on -/
def eTb : List Cond := lw_tbl.filter goodWord
theorem eTm {w : Cond} (h : w ∈ lw_tbl) (g : goodWord w = true) : w ∈ eTb := List.mem_filter.mpr ⟨h, g⟩
theorem eTl {w : Cond} (h : w ∈ eTb) : w ∈ lw_tbl := (List.mem_filter.mp h).1
theorem eGood {w : Cond} (h : w ∈ eTb) : goodWord w = true := (List.mem_filter.mp h).2
/-- a store: the ints of each cell, the longs -/
abbrev eSt : Type := (Nat → Nat → Int32) × (Nat → Int64)
def eU (σ : eSt) (k j : Nat) (x : Int32) : eSt := (va_up σ.1 k (upd (σ.1 k) j x), σ.2)
def eL (σ : eSt) (j : Nat) (x : Int64) : eSt := (σ.1, vp_updL σ.2 j x)
def eR (σ : eSt) (k : Nat) (f : Nat → Int32) : eSt := (va_up σ.1 k f, σ.2)
/-- a cell's shape: an array (kind, length, targets of references), or an object (class, fields, what each field is: (0, _) an int, (1, i) the long i, (2, k) the cell k) -/
abbrev eK : Type := (Nat × Nat × (Nat → Nat)) ⊕ (Nat × Nat × (Nat → Nat × Nat))
def eHillF1 (j : Nat) : Nat × Nat := match j with
  | 2 => (2, 2)
  | 4 => (2, 3)
  | 5 => (2, 4)
  | 6 => (2, 5)
  | 7 => (2, 6)
  | 8 => (2, 7)
  | 10 => (2, 8)
  | 12 => (2, 9)
  | _ => (0, 0)
def eHillF10 (j : Nat) : Nat × Nat := match j with
  | 2 => (2, 11)
  | 4 => (2, 12)
  | 5 => (2, 13)
  | 6 => (2, 14)
  | 7 => (2, 15)
  | 8 => (2, 16)
  | 10 => (2, 17)
  | 12 => (2, 18)
  | _ => (0, 0)
def eHillF20 (j : Nat) : Nat × Nat := match j with
  | 2 => (2, 21)
  | 4 => (2, 22)
  | 5 => (2, 23)
  | 6 => (2, 24)
  | 7 => (2, 25)
  | 8 => (2, 26)
  | 10 => (2, 27)
  | 12 => (2, 28)
  | _ => (0, 0)
def eHillF29 (j : Nat) : Nat × Nat := match j with
  | 2 => (2, 30)
  | 4 => (2, 31)
  | 5 => (2, 32)
  | 6 => (2, 33)
  | 7 => (2, 34)
  | 8 => (2, 35)
  | 10 => (2, 36)
  | 12 => (2, 37)
  | _ => (0, 0)
def eSeatsF (j : Nat) : Nat × Nat := match j with
  | 0 => (2, 1)
  | 1 => (2, 10)
  | 2 => (2, 38)
  | 3 => (2, 39)
  | 4 => (2, 41)
  | 5 => (2, 45)
  | 6 => (2, 50)
  | _ => (0, 0)
def eModelF (j : Nat) : Nat × Nat := match j with
  | 0 => (2, 53)
  | 5 => (2, 54)
  | 6 => (2, 55)
  | 7 => (2, 56)
  | 8 => (2, 57)
  | 9 => (2, 58)
  | 10 => (2, 59)
  | 11 => (2, 60)
  | 12 => (2, 61)
  | 13 => (2, 62)
  | 14 => (2, 63)
  | 20 => (2, 64)
  | 21 => (2, 65)
  | 23 => (2, 66)
  | 25 => (2, 67)
  | 26 => (2, 68)
  | 27 => (1, 0)
  | 28 => (1, 1)
  | 29 => (2, 69)
  | 30 => (2, 70)
  | 31 => (1, 2)
  | _ => (0, 0)
/-- the hill of an image -/
def eIm (j : Nat) : Nat := match j with | 0 => 20 | 1 => 29 | _ => 0
def eI (n : Nat) : eK := .inl (1, n, fun _ => 0)
def eSh (k : Nat) : eK := match k with
  | 0 => .inr (5, 12, eSeatsF)
  | 1 => .inr (2, 13, eHillF1)
  | 2 => eI 8
  | 3 => eI 5
  | 4 => eI 5
  | 5 => eI 5
  | 6 => eI 5
  | 7 => eI 5
  | 8 => eI 24
  | 9 => eI 120
  | 10 => .inr (2, 13, eHillF10)
  | 11 => eI 8
  | 12 => eI 5
  | 13 => eI 5
  | 14 => eI 5
  | 15 => eI 5
  | 16 => eI 5
  | 17 => eI 24
  | 18 => eI 120
  | 19 => eI 0
  | 20 => .inr (2, 13, eHillF20)
  | 21 => eI 8
  | 22 => eI 5
  | 23 => eI 5
  | 24 => eI 5
  | 25 => eI 5
  | 26 => eI 5
  | 27 => eI 24
  | 28 => eI 120
  | 29 => .inr (2, 13, eHillF29)
  | 30 => eI 8
  | 31 => eI 5
  | 32 => eI 5
  | 33 => eI 5
  | 34 => eI 5
  | 35 => eI 5
  | 36 => eI 24
  | 37 => eI 120
  | 38 => .inl (3, 2, eIm)
  | 39 => .inr (4, 6, fun j => match j with | 0 => (2, 40) | _ => (0, 0))
  | 40 => .inl (0, 150, fun _ => 0)
  | 41 => .inr (3, 4, fun j => match j with | 0 => (2, 42) | 1 => (2, 43) | 2 => (2, 44) | _ => (0, 0))
  | 42 => eI 352
  | 43 => eI 5
  | 44 => eI 5
  | 45 => .inr (0, 4, fun j => match j with | 0 => (2, 46) | 1 => (2, 47) | 2 => (2, 48) | _ => (2, 49))
  | 46 => eI 64
  | 47 => eI 64
  | 48 => eI 8
  | 49 => eI 8
  | 50 => .inr (1, 1, fun _ => (2, 51))
  | 51 => eI 6
  | 52 => .inr (6, 32, eModelF)
  | 53 => eI 3
  | 54 => eI 8
  | 55 => eI 5
  | 56 => eI 5
  | 57 => eI 5
  | 58 => eI 5
  | 59 => eI 6
  | 60 => eI 6
  | 61 => eI 6
  | 62 => eI 6
  | 63 => eI 150
  | 64 => eI 15
  | 65 => eI 8
  | 66 => eI 120
  | 67 => eI 5
  | 68 => eI 5
  | 69 => eI 380
  | _ => eI 2
/-- how many cells the world has -/
def eN : Nat := 71
/-- the machine's own: array classes by kind, addresses by cell, the classes' tables -/
abbrev eB : Type := va_G × (Nat → ClassId) × (Nat → Nat)
def eF (ad : Nat → Nat) (σ : eSt) (k j : Nat) (d : Nat × Nat) : Value := match d.1 with
  | 0 => .int (σ.1 k j)
  | 1 => .long (σ.2 d.2)
  | _ => .ref (ad d.2)
def eA (ad : Nat → Nat) (σ : eSt) (k t : Nat) (g : Nat → Nat) : (Nat → Int32) ⊕ (Nat → Int64) ⊕ (Nat → UInt32) ⊕ (Nat → UInt64) ⊕ (Nat → Option Nat) := match t with
  | 3 => .inr (.inr (.inr (.inr (fun i => if σ.1 k i = 1 then some (ad (g i)) else none))))
  | _ => .inl (σ.1 k)
def eC (cy : Nat → ClassId) (ad : Nat → Nat) (σ : eSt) (k : Nat) : va_E := match eSh k with
  | .inl a => .inl (cy a.1, a.2.1, eA ad σ k a.1 a.2.2)
  | .inr o => .inr (o.1, (List.range o.2.1).map (fun j => eF ad σ k j (o.2.2 j)))
/-- the cells that always stand; those of the images' hills -/
def eL0 : List Nat := [0, 1, 2, 3, 4, 5, 6, 7, 8, 9, 10, 11, 12, 13, 14, 15, 16, 17, 18, 38, 39, 40, 41, 42, 43, 44, 45, 46, 47, 48, 49, 50, 51, 52, 53, 54, 55, 56, 57, 58, 59, 60, 61, 62, 63, 64, 65, 66, 67, 68, 69, 70]
def eI0 : List Nat := [20, 21, 22, 23, 24, 25, 26, 27, 28]
def eI1 : List Nat := [29, 30, 31, 32, 33, 34, 35, 36, 37]
/-- the cells that stand: row 38 says which images' hills do (0: none, 1: in the row of images, 2: made, not yet there) -/
def eCs (σ : eSt) : List Nat := eL0 ++ ((if σ.1 38 0 = 0 then [] else eI0) ++ (if σ.1 38 1 = 0 then [] else eI1))
def eIn (σ : eSt) (k : Nat) : Bool := (Nat.blt k 19 || (Nat.blt 37 k && Nat.blt k 71)) || ((Nat.blt 19 k && Nat.blt k 29 && !(decide (σ.1 38 0 = 0))) || (Nat.blt 28 k && Nat.blt k 38 && !(decide (σ.1 38 1 = 0))))
theorem eL0_in : ∀ k, k < 71 → (k < 19 ∨ 37 < k) → k ∈ eL0 := by decide
theorem eI0_in : ∀ k, k < 29 → 19 < k → k ∈ eI0 := by decide
theorem eI1_in : ∀ k, k < 38 → 28 < k → k ∈ eI1 := by decide
theorem eIn_mem {σ : eSt} {k : Nat} (h : eIn σ k = true) : k ∈ eCs σ := by
  unfold eIn at h
  simp only [Bool.or_eq_true, Bool.and_eq_true, Nat.blt_eq, Bool.not_eq_true', decide_eq_false_iff_not] at h
  unfold eCs
  rcases h with (h | ⟨h, h2⟩) | ⟨⟨h, h2⟩, h3⟩ | ⟨⟨h, h2⟩, h3⟩
  · exact List.mem_append.mpr (Or.inl (eL0_in k (by omega) (Or.inl h)))
  · exact List.mem_append.mpr (Or.inl (eL0_in k h2 (Or.inr h)))
  · rw [if_neg h3]
    exact List.mem_append.mpr (Or.inr (List.mem_append.mpr (Or.inl (eI0_in k h2 h))))
  · rw [if_neg h3]
    exact List.mem_append.mpr (Or.inr (List.mem_append.mpr (Or.inr (eI1_in k h2 h))))
theorem eIn_0 {σ : eSt} {k : Nat} (hk : (Nat.blt 19 k && Nat.blt k 29) = true) (h : ¬ σ.1 38 0 = 0) : eIn σ k = true := by
  unfold eIn
  rw [hk]
  simp [h]
theorem eIn_1 {σ : eSt} {k : Nat} (hk : (Nat.blt 28 k && Nat.blt k 38) = true) (h : ¬ σ.1 38 1 = 0) : eIn σ k = true := by
  unfold eIn
  rw [hk]
  simp [h]
theorem eCs_nd (σ : eSt) : (eCs σ).Nodup := by
  unfold eCs
  split <;> split <;> decide
theorem eCs_lt {σ : eSt} {k : Nat} (h : k ∈ eCs σ) : k < eN := by
  have hl : ∀ q ∈ eL0 ++ (eI0 ++ eI1), q < eN := by decide
  refine hl k ?_
  unfold eCs at h
  rcases List.mem_append.mp h with h | h
  · exact List.mem_append.mpr (Or.inl h)
  · refine List.mem_append.mpr (Or.inr ?_)
    rcases List.mem_append.mp h with h | h
    · refine List.mem_append.mpr (Or.inl ?_)
      split at h
      · cases h
      · exact h
    · refine List.mem_append.mpr (Or.inr ?_)
      split at h
      · cases h
      · exact h
def eW (B : eB) (σ : eSt) : va_W := (eCs σ).map (fun k => (B.2.2 k, eC B.2.1 B.2.2 σ k))
def eT (cy : Nat → ClassId) : List (ClassId × FieldType) := [(cy 0, .byte), (cy 1, .int), (cy 1, .int), (cy 3, .object "EclipseSeats$Hill")]
/-- the cells that may change -/
def eAA (B : eB) (sz : Nat) (q : Nat) : Prop := (∃ k, k < eN ∧ q = B.2.2 k) ∨ sz ≤ q
/-- an abstract value as the machine has it -/
def eV (ad : Nat → Nat) (v : Value) : Value := match v with
  | .ref k => .ref (ad k)
  | w => w
theorem eV_cat (ad : Nat → Nat) (v : Value) : (eV ad v).category = v.category := by cases v <;> rfl
theorem eW_at (B : eB) (σ : eSt) {k : Nat} (h : eIn σ k = true) : ∃ p : Nat, (eCs σ)[p]? = some k ∧ (eW B σ)[p]? = some (B.2.2 k, eC B.2.1 B.2.2 σ k) := by
  obtain ⟨p, hp⟩ := List.getElem?_of_mem (eIn_mem h)
  refine ⟨p, hp, ?_⟩
  unfold eW
  rw [List.getElem?_map, hp]
  rfl
theorem eW_inv (B : eB) (σ : eSt) {p : Nat} {q : Nat × va_E} (h : (eW B σ)[p]? = some q) : ∃ k, (eCs σ)[p]? = some k ∧ q = (B.2.2 k, eC B.2.1 B.2.2 σ k) := by
  unfold eW at h
  rw [List.getElem?_map] at h
  cases hk : (eCs σ)[p]? with
  | none => rw [hk] at h; cases h
  | some k => rw [hk] at h; exact ⟨k, rfl, (Option.some.inj h).symm⟩
/-- worlds over a list of cells -/
theorem vP_map {D : va_G} {cl : List vw_C} {H : Heap} {l : List Nat} {f : Nat → Nat × va_E} : va_P D cl (l.map f) H ↔ ∀ k ∈ l, va_at D cl (f k) H := by
  constructor
  · intro h k hk
    obtain ⟨p, hp⟩ := List.getElem?_of_mem hk
    exact h p (f k) (by rw [List.getElem?_map, hp]; rfl)
  · intro h p q hq
    rw [List.getElem?_map] at hq
    cases hk : l[p]? with
    | none => rw [hk] at hq; cases hq
    | some k =>
      rw [hk] at hq
      have e : f k = q := Option.some.inj hq
      rw [← e]
      exact h k (List.mem_of_getElem? hk)
theorem vD_of {A : Nat → Prop} {l : List Nat} {f : Nat → Nat × va_E} (hn : l.Nodup) (hi : ∀ a ∈ l, ∀ b ∈ l, (f a).1 = (f b).1 → a = b) (hA : ∀ a ∈ l, A (f a).1) : va_D A (l.map f) := by
  have at' : ∀ (p : Nat) (q : Nat × va_E), (l.map f)[p]? = some q → ∃ k, l[p]? = some k ∧ f k = q := by
    intro p q hq
    rw [List.getElem?_map] at hq
    cases hk : l[p]? with
    | none => rw [hk] at hq; cases hq
    | some k => rw [hk] at hq; exact ⟨k, rfl, Option.some.inj hq⟩
  refine ⟨fun i j p q hp hq e => ?_, fun k q hq => ?_⟩
  · obtain ⟨a, ha, rfl⟩ := at' i p hp
    obtain ⟨b, hb, rfl⟩ := at' j q hq
    have hab := hi a (List.mem_of_getElem? ha) b (List.mem_of_getElem? hb) e
    subst hab
    obtain ⟨hil, hi'⟩ := List.getElem?_eq_some_iff.mp ha
    obtain ⟨hjl, hj'⟩ := List.getElem?_eq_some_iff.mp hb
    exact (List.getElem_inj hn).mp (hi'.trans hj'.symm)
  · obtain ⟨a, ha, rfl⟩ := at' k q hq
    exact hA a (List.mem_of_getElem? ha)
theorem vD_to {A : Nat → Prop} {l : List Nat} {f : Nat → Nat × va_E} (h : va_D A (l.map f)) : (∀ a ∈ l, ∀ b ∈ l, (f a).1 = (f b).1 → a = b) ∧ ∀ a ∈ l, A (f a).1 := by
  refine ⟨fun a ha b hb e => ?_, fun a ha => ?_⟩
  · obtain ⟨i, hi⟩ := List.getElem?_of_mem ha
    obtain ⟨j, hj⟩ := List.getElem?_of_mem hb
    have := h.1 i j (f a) (f b) (by rw [List.getElem?_map, hi]; rfl) (by rw [List.getElem?_map, hj]; rfl) e
    subst this
    exact Option.some.inj (hi.symm.trans hj)
  · obtain ⟨i, hi⟩ := List.getElem?_of_mem ha
    exact h.2 i (f a) (by rw [List.getElem?_map, hi]; rfl)
/-- the world's own cells may change -/
theorem eW_A {B : eB} {σ : eSt} {sz q : Nat} (h : va_A (eW B σ) sz q) : eAA B sz q := by
  rcases h with ⟨k, e, h⟩ | h
  · obtain ⟨j, hj, e⟩ := eW_inv B σ h
    exact Or.inl ⟨j, eCs_lt (List.mem_of_getElem? hj), congrArg Prod.fst e⟩
  · exact Or.inr h
theorem eW_Ad {B : eB} {σ : eSt} {sz : Nat} {A : Nat → Prop} (h : va_D A (eW B σ)) : va_D (eAA B sz) (eW B σ) := (h.self (sz := sz)).weaken (fun _ _ _ h => eW_A h)
/-- a cell is set: the store is set -/
theorem eW_set {B : eB} {σ τ : eSt} {p k : Nat} {e : va_E} (hp : (eCs σ)[p]? = some k) (hc : eCs τ = eCs σ) (he : e = eC B.2.1 B.2.2 τ k) (ho : ∀ j, j ≠ k → eC B.2.1 B.2.2 τ j = eC B.2.1 B.2.2 σ j) : (eW B σ).set p (B.2.2 k, e) = eW B τ := by
  apply List.ext_getElem?
  intro i
  rw [List.getElem?_set]
  have hlen : p < (eW B σ).length := by
    unfold eW
    rw [List.length_map]
    exact (List.getElem?_eq_some_iff.mp hp).1
  by_cases hk : p = i
  · subst hk
    rw [if_pos rfl, if_pos hlen]
    unfold eW
    rw [List.getElem?_map, hc, hp, he]
    rfl
  · rw [if_neg hk]
    unfold eW
    rw [List.getElem?_map, List.getElem?_map, hc]
    cases hi : (eCs σ)[i]? with
    | none => rfl
    | some j =>
      have hj : j ≠ k := by
        intro e0
        subst e0
        obtain ⟨hil, hi'⟩ := List.getElem?_eq_some_iff.mp hi
        obtain ⟨hpl, hp'⟩ := List.getElem?_eq_some_iff.mp hp
        exact hk ((List.getElem_inj (eCs_nd σ)).mp (hp'.trans hi'.symm))
      simp only [Option.map_some, ho j hj]
theorem eC_o {cy : Nat → ClassId} {ad : Nat → Nat} {σ : eSt} {k ci N : Nat} {fd : Nat → Nat × Nat} (h : eSh k = .inr (ci, N, fd)) : eC cy ad σ k = .inr (ci, (List.range N).map (fun j => eF ad σ k j (fd j))) := by
  unfold eC; rw [h]
theorem eC_a {cy : Nat → ClassId} {ad : Nat → Nat} {σ : eSt} {k t n : Nat} {g : Nat → Nat} (h : eSh k = .inl (t, n, g)) : eC cy ad σ k = .inl (cy t, n, eA ad σ k t g) := by
  unfold eC; rw [h]
theorem eC_off {cy : Nat → ClassId} {ad : Nat → Nat} {σ τ : eSt} {j : Nat} (h1 : τ.1 j = σ.1 j) (h2 : τ.2 = σ.2) : eC cy ad τ j = eC cy ad σ j := by
  unfold eC
  cases eSh j with
  | inl a =>
    simp only
    congr 3
    unfold eA
    split
    · rw [h1]
    · rw [h1]
  | inr o =>
    simp only
    congr 2
    apply List.map_congr_left
    intro i _
    unfold eF
    split
    · rw [h1]
    · rw [h2]
    · rfl
theorem eU_off {σ : eSt} {k j i : Nat} {x : Int32} (h : i ≠ k) : (eU σ k j x).1 i = σ.1 i := by
  unfold eU; exact if_neg h
theorem eU_on {σ : eSt} {k j : Nat} {x : Int32} : (eU σ k j x).1 k = upd (σ.1 k) j x := by
  unfold eU; exact if_pos rfl
theorem eR_off {σ : eSt} {k i : Nat} {f : Nat → Int32} (h : i ≠ k) : (eR σ k f).1 i = σ.1 i := by
  unfold eR; exact if_neg h
theorem eR_on {σ : eSt} {k : Nat} {f : Nat → Int32} : (eR σ k f).1 k = f := by
  unfold eR; exact if_pos rfl
theorem eCs_off {σ τ : eSt} (h : τ.1 38 = σ.1 38) : eCs τ = eCs σ := by
  unfold eCs; rw [h]
theorem eSh_38 {k t n : Nat} {g : Nat → Nat} (h : eSh k = .inl (t, n, g)) (ht : t ≠ 3) : 38 ≠ k := by
  intro e
  subst e
  have e2 := congrArg (fun z : eK => match z with | .inl a => a.1 | .inr _ => 0) h
  exact ht e2.symm
theorem eSo_38 {k ci N : Nat} {fd : Nat → Nat × Nat} (h : eSh k = .inr (ci, N, fd)) : 38 ≠ k := by
  intro e
  subst e
  cases h
/-- an int array's cell written whole -/
theorem eW_row {B : eB} {σ : eSt} {p k t n : Nat} {g : Nat → Nat} {f : Nat → Int32} (hp : (eCs σ)[p]? = some k) (h : eSh k = .inl (t, n, g)) (ht : t ≠ 3) : (eW B σ).set p (B.2.2 k, .inl (B.2.1 t, n, .inl f)) = eW B (eR σ k f) := by
  refine eW_set hp (eCs_off (eR_off (eSh_38 h ht))) ?_ (fun j hj => eC_off (eR_off hj) rfl)
  rw [eC_a h]
  have : eA B.2.2 (eR σ k f) k t g = .inl f := by
    unfold eA
    split
    · exact absurd rfl ht
    · rw [eR_on]
  rw [this]
theorem eR_eU {σ : eSt} {k j : Nat} {x : Int32} : eR σ k (upd (σ.1 k) j x) = eU σ k j x := rfl
/-- an object's int field written -/
theorem eW_fld {B : eB} {σ : eSt} {p k ci N j : Nat} {fd : Nat → Nat × Nat} {x : Int32} (hp : (eCs σ)[p]? = some k) (h : eSh k = .inr (ci, N, fd)) (hj : (fd j).1 = 0) : (eW B σ).set p (B.2.2 k, .inr (ci, ((List.range N).map (fun j => eF B.2.2 σ k j (fd j))).set j (.int x))) = eW B (eU σ k j x) := by
  refine eW_set hp (eCs_off (eU_off (eSo_38 h))) ?_ (fun i hi => eC_off (eU_off hi) rfl)
  rw [eC_o h]
  congr 2
  apply List.ext_getElem?
  intro i
  rw [List.getElem?_set]
  by_cases hi : i < N
  · by_cases e : j = i
    · subst e
      simp only [List.length_map, List.length_range, hi, if_true, List.getElem?_map, List.getElem?_range hi, Option.map_some]
      unfold eF
      rw [hj]
      simp [eU_on, upd]
    · rw [if_neg e]
      simp only [List.getElem?_map, List.getElem?_range hi, Option.map_some]
      congr 1
      unfold eF
      split
      · rw [eU_on]
        simp [upd, Ne.symm e]
      · rfl
      · rfl
  · simp [hi]
    omega
/-- a long field written -/
theorem eW_fldL {B : eB} {σ : eSt} {p k ci N j i : Nat} {fd : Nat → Nat × Nat} {x : Int64} (hp : (eCs σ)[p]? = some k) (h : eSh k = .inr (ci, N, fd)) (hj : fd j = (1, i)) (hu : ∀ j', (fd j').1 = 1 → (fd j').2 = i → j' = j) (hv : ∀ k' ci' N' fd', eSh k' = .inr (ci', N', fd') → ∀ j', j' < N' → (fd' j').1 = 1 → k' = k) : (eW B σ).set p (B.2.2 k, .inr (ci, ((List.range N).map (fun j => eF B.2.2 σ k j (fd j))).set j (.long x))) = eW B (eL σ i x) := by
  refine eW_set hp (eCs_off rfl) ?_ (fun k' hk' => ?_)
  · rw [eC_o h]
    congr 2
    apply List.ext_getElem?
    intro a
    rw [List.getElem?_set]
    by_cases ha : a < N
    · by_cases e : j = a
      · subst e
        simp only [List.length_map, List.length_range, ha, if_true, List.getElem?_map, List.getElem?_range ha, Option.map_some]
        unfold eF
        rw [hj]
        simp [eL, vp_updL]
      · rw [if_neg e]
        simp only [List.getElem?_map, List.getElem?_range ha, Option.map_some]
        congr 1
        unfold eF
        split
        · rfl
        · rename_i h1
          have : (fd a).2 ≠ i := fun q => e (hu a h1 q).symm
          simp [eL, vp_updL, this]
        · rfl
    · simp [ha]
      omega
  · unfold eC
    cases hs : eSh k' with
    | inl a => rfl
    | inr o =>
      simp only
      congr 2
      apply List.map_congr_left
      intro a ha
      unfold eF
      split
      · rfl
      · rename_i h1
        exact absurd (hv k' o.1 o.2.1 o.2.2 hs a (List.mem_range.mp ha) h1) hk'
      · rfl
