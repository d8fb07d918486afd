/-! not final fields; longs are the Model's alone -/
theorem nf2_0 : ∀ q : vw_C, vwCl[2]? = some q → (q.2.1 0).2.2.2 = false := fun q hq => by cases hq; rfl
theorem nf2_1 : ∀ q : vw_C, vwCl[2]? = some q → (q.2.1 1).2.2.2 = false := fun q hq => by cases hq; rfl
theorem nf2_3 : ∀ q : vw_C, vwCl[2]? = some q → (q.2.1 3).2.2.2 = false := fun q hq => by cases hq; rfl
theorem nf2_9 : ∀ q : vw_C, vwCl[2]? = some q → (q.2.1 9).2.2.2 = false := fun q hq => by cases hq; rfl
theorem nf2_11 : ∀ q : vw_C, vwCl[2]? = some q → (q.2.1 11).2.2.2 = false := fun q hq => by cases hq; rfl
theorem nf3_3 : ∀ q : vw_C, vwCl[3]? = some q → (q.2.1 3).2.2.2 = false := fun q hq => by cases hq; rfl
theorem nf4_1 : ∀ q : vw_C, vwCl[4]? = some q → (q.2.1 1).2.2.2 = false := fun q hq => by cases hq; rfl
theorem nf4_2 : ∀ q : vw_C, vwCl[4]? = some q → (q.2.1 2).2.2.2 = false := fun q hq => by cases hq; rfl
theorem nf4_3 : ∀ q : vw_C, vwCl[4]? = some q → (q.2.1 3).2.2.2 = false := fun q hq => by cases hq; rfl
theorem nf4_4 : ∀ q : vw_C, vwCl[4]? = some q → (q.2.1 4).2.2.2 = false := fun q hq => by cases hq; rfl
theorem nf4_5 : ∀ q : vw_C, vwCl[4]? = some q → (q.2.1 5).2.2.2 = false := fun q hq => by cases hq; rfl
theorem nf5_7 : ∀ q : vw_C, vwCl[5]? = some q → (q.2.1 7).2.2.2 = false := fun q hq => by cases hq; rfl
theorem nf5_8 : ∀ q : vw_C, vwCl[5]? = some q → (q.2.1 8).2.2.2 = false := fun q hq => by cases hq; rfl
theorem nf5_9 : ∀ q : vw_C, vwCl[5]? = some q → (q.2.1 9).2.2.2 = false := fun q hq => by cases hq; rfl
theorem nf5_10 : ∀ q : vw_C, vwCl[5]? = some q → (q.2.1 10).2.2.2 = false := fun q hq => by cases hq; rfl
theorem nf5_11 : ∀ q : vw_C, vwCl[5]? = some q → (q.2.1 11).2.2.2 = false := fun q hq => by cases hq; rfl
theorem nf6_1 : ∀ q : vw_C, vwCl[6]? = some q → (q.2.1 1).2.2.2 = false := fun q hq => by cases hq; rfl
theorem nf6_2 : ∀ q : vw_C, vwCl[6]? = some q → (q.2.1 2).2.2.2 = false := fun q hq => by cases hq; rfl
theorem nf6_3 : ∀ q : vw_C, vwCl[6]? = some q → (q.2.1 3).2.2.2 = false := fun q hq => by cases hq; rfl
theorem nf6_4 : ∀ q : vw_C, vwCl[6]? = some q → (q.2.1 4).2.2.2 = false := fun q hq => by cases hq; rfl
theorem nf6_15 : ∀ q : vw_C, vwCl[6]? = some q → (q.2.1 15).2.2.2 = false := fun q hq => by cases hq; rfl
theorem nf6_16 : ∀ q : vw_C, vwCl[6]? = some q → (q.2.1 16).2.2.2 = false := fun q hq => by cases hq; rfl
theorem nf6_17 : ∀ q : vw_C, vwCl[6]? = some q → (q.2.1 17).2.2.2 = false := fun q hq => by cases hq; rfl
theorem nf6_18 : ∀ q : vw_C, vwCl[6]? = some q → (q.2.1 18).2.2.2 = false := fun q hq => by cases hq; rfl
theorem nf6_19 : ∀ q : vw_C, vwCl[6]? = some q → (q.2.1 19).2.2.2 = false := fun q hq => by cases hq; rfl
theorem nf6_22 : ∀ q : vw_C, vwCl[6]? = some q → (q.2.1 22).2.2.2 = false := fun q hq => by cases hq; rfl
theorem nf6_24 : ∀ q : vw_C, vwCl[6]? = some q → (q.2.1 24).2.2.2 = false := fun q hq => by cases hq; rfl
theorem nf6_27 : ∀ q : vw_C, vwCl[6]? = some q → (q.2.1 27).2.2.2 = false := fun q hq => by cases hq; rfl
theorem nf6_28 : ∀ q : vw_C, vwCl[6]? = some q → (q.2.1 28).2.2.2 = false := fun q hq => by cases hq; rfl
theorem nf6_31 : ∀ q : vw_C, vwCl[6]? = some q → (q.2.1 31).2.2.2 = false := fun q hq => by cases hq; rfl
theorem hu_27 : ∀ j', (eModelF j').1 = 1 → (eModelF j').2 = 0 → j' = 27 := by
  intro j' h1 h2
  by_cases hj : j' < 32
  · exact (by decide : ∀ j', j' < 32 → (eModelF j').1 = 1 → (eModelF j').2 = 0 → j' = 27) j' hj h1 h2
  · exfalso
    have : eModelF j' = (0, 0) := by
      unfold eModelF
      split <;> first | rfl | omega
    rw [this] at h1
    cases h1
theorem hu_28 : ∀ j', (eModelF j').1 = 1 → (eModelF j').2 = 1 → j' = 28 := by
  intro j' h1 h2
  by_cases hj : j' < 32
  · exact (by decide : ∀ j', j' < 32 → (eModelF j').1 = 1 → (eModelF j').2 = 1 → j' = 28) j' hj h1 h2
  · exfalso
    have : eModelF j' = (0, 0) := by
      unfold eModelF
      split <;> first | rfl | omega
    rw [this] at h1
    cases h1
theorem hu_31 : ∀ j', (eModelF j').1 = 1 → (eModelF j').2 = 2 → j' = 31 := by
  intro j' h1 h2
  by_cases hj : j' < 32
  · exact (by decide : ∀ j', j' < 32 → (eModelF j').1 = 1 → (eModelF j').2 = 2 → j' = 31) j' hj h1 h2
  · exfalso
    have : eModelF j' = (0, 0) := by
      unfold eModelF
      split <;> first | rfl | omega
    rw [this] at h1
    cases h1
theorem hv_long : ∀ k' ci' N' fd', eSh k' = .inr (ci', N', fd') → ∀ j', j' < N' → (fd' j').1 = 1 → k' = 52 := by
  intro k' ci' N' fd' h j' hj h1
  by_cases hk : k' < 71
  · have key : ∀ k, k < 71 → (match eSh k with | .inl _ => true | .inr o => (List.range o.2.1).all (fun j => !((o.2.2 j).1 == 1) || k == 52)) = true := by decide
    have := key k' hk
    rw [h] at this
    have h2 := List.all_eq_true.mp this j' (List.mem_range.mpr hj)
    simp only [h1] at h2
    simpa using h2
  · exfalso
    have : eSh k' = eI 2 := by
      unfold eSh
      split <;> first | rfl | omega
    rw [this] at h
    cases h
