/-! THE ENGINE, 3: fields, arrays -/
/-- entry idx of own's pool is field j of class ci -/
def eFl (own : String) (idx ci j : Nat) : Prop := ∃ q : vw_C, vwCl[ci]? = some q ∧ j < q.2.2 ∧ (q.2.1 j).1 = q.1 ∧ Cond.fieldLink own idx q.1 (q.2.1 j).2.1 (q.2.1 j).2.2.1 ∈ eTb
/-- a class of the world: its words are there, its fields' types are known, its names differ -/
def eCl (ci : Nat) (ty : Nat → FieldType) : Prop := ∃ q : vw_C, vwCl[ci]? = some q ∧ (∀ w ∈ u_ws q.1 q.2.1 q.2.2, w ∈ eTb) ∧ (∀ k, k < q.2.2 → parseFieldDescriptor (q.2.1 k).2.2.1 = some (ty k)) ∧ (∀ a, a < q.2.2 → ∀ b, b < q.2.2 → a ≠ b → (q.2.1 a).2.1 ≠ (q.2.1 b).2.1)
section EF
variable {X : eX} {B : eB} {A : Nat → Prop} {R : Room} {own : String} {cc : ByteArray} {nL kc ks : Nat} {Q : State → Prop} {σ : eSt} {pc nx : Nat} {ls : List (Option Value)} {st : List Value}
theorem ww_get {idx ci j k N : Nat} {fd : Nat → Nat × Nat} (C : CX X B A R own cc nL kc ks) (d : decode cc pc = .ok (.getfield idx, 3)) (hn : pc + 3 = nx) (f : eFl own idx ci j) (hq : ∀ q : vw_C, vwCl[ci]? = some q → (∀ w ∈ u_ws q.1 q.2.1 q.2.2, w ∈ eTb)) (hk : eIn σ k = true) (hs : eSh k = .inr (ci, N, fd)) (hj : j < N)
    (kk : ∀ (H : Heap) (locs : List Loc) (la : Array Slot), va_P B.1 vwCl (eW B σ) H → va_D A (eW B σ) → va_S A (xS X).heap H locs → eLv B.2.2 la nL ls → eWm X H locs kc ks Q (F0 (xM X) nx la (eF B.2.2 σ k j (fd j) :: st.map (eV B.2.2)))) : WW X B A nL kc ks Q σ pc ls (.ref k :: st) := by
  subst hn
  intro H locs la hP hD hS hl
  obtain ⟨⟨C0, T, N0⟩, h1, h2, h3, h4⟩ := f
  obtain ⟨p0, hp0, hat⟩ := eW_at B σ hk
  rw [eC_o hs] at hat
  refine va_get (D := B.1) (cl := vwCl) (C := C0) (T := T) (N := N0) (ref := C0) C.1 C.2.1 C.2.2.2.2.1 (hq _ h1) C.2.2.2.1 C.2.2.2.2.2.1 hP p0 hat h1 j h2 (C.2.2.2.2.1 _ h4) (fun x hx => by have h3' : (T j).1 = C0 := h3; rw [← h3']; exact hx) ?_ d (kk H locs la hP hD hS hl)
  simp [hj]
theorem ww_geti {idx ci j k N : Nat} {fd : Nat → Nat × Nat} (C : CX X B A R own cc nL kc ks) (d : decode cc pc = .ok (.getfield idx, 3)) (hn : pc + 3 = nx) (f : eFl own idx ci j) (hq : ∀ q : vw_C, vwCl[ci]? = some q → (∀ w ∈ u_ws q.1 q.2.1 q.2.2, w ∈ eTb)) (hk : eIn σ k = true) (hs : eSh k = .inr (ci, N, fd)) (hj : Nat.blt j N = true) (hf : (fd j).1 = 0)
    (kk : WW X B A nL kc ks Q σ nx ls (.int (σ.1 k j) :: st)) : WW X B A nL kc ks Q σ pc ls (.ref k :: st) := by
  refine ww_get C d hn f hq hk hs (Nat.blt_eq.mp hj) (fun H locs la hP hD hS hl => ?_)
  have := kk H locs la hP hD hS hl
  unfold eF
  rw [hf]
  exact this
theorem ww_getl {idx ci j k N i : Nat} {fd : Nat → Nat × Nat} (C : CX X B A R own cc nL kc ks) (d : decode cc pc = .ok (.getfield idx, 3)) (hn : pc + 3 = nx) (f : eFl own idx ci j) (hq : ∀ q : vw_C, vwCl[ci]? = some q → (∀ w ∈ u_ws q.1 q.2.1 q.2.2, w ∈ eTb)) (hk : eIn σ k = true) (hs : eSh k = .inr (ci, N, fd)) (hj : Nat.blt j N = true) (hf : fd j = (1, i))
    (kk : WW X B A nL kc ks Q σ nx ls (.long (σ.2 i) :: st)) : WW X B A nL kc ks Q σ pc ls (.ref k :: st) := by
  refine ww_get C d hn f hq hk hs (Nat.blt_eq.mp hj) (fun H locs la hP hD hS hl => ?_)
  have := kk H locs la hP hD hS hl
  unfold eF
  rw [hf]
  exact this
theorem ww_getr {idx ci j k N t : Nat} {fd : Nat → Nat × Nat} (C : CX X B A R own cc nL kc ks) (d : decode cc pc = .ok (.getfield idx, 3)) (hn : pc + 3 = nx) (f : eFl own idx ci j) (hq : ∀ q : vw_C, vwCl[ci]? = some q → (∀ w ∈ u_ws q.1 q.2.1 q.2.2, w ∈ eTb)) (hk : eIn σ k = true) (hs : eSh k = .inr (ci, N, fd)) (hj : Nat.blt j N = true) (hf : fd j = (2, t))
    (kk : WW X B A nL kc ks Q σ nx ls (.ref t :: st)) : WW X B A nL kc ks Q σ pc ls (.ref k :: st) := by
  refine ww_get C d hn f hq hk hs (Nat.blt_eq.mp hj) (fun H locs la hP hD hS hl => ?_)
  have := kk H locs la hP hD hS hl
  unfold eF
  rw [hf]
  exact this
theorem ww_puti {idx ci j k N : Nat} {fd : Nat → Nat × Nat} {x : Int32} {ty : Nat → FieldType} (C : CX X B A R own cc nL kc ks) (d : decode cc pc = .ok (.putfield idx, 3)) (hn : pc + 3 = nx) (f : eFl own idx ci j) (hc : eCl ci ty) (hw : ∀ q : vw_C, vwCl[ci]? = some q → (q.2.1 j).2.2.2 = false) (hk : eIn σ k = true) (hs : eSh k = .inr (ci, N, fd)) (hj : Nat.blt j N = true) (hf : (fd j).1 = 0) (ht : ty j = .int)
    (kk : WW X B A nL kc ks Q (eU σ k j x) nx ls st) : WW X B A nL kc ks Q σ pc ls (.int x :: .ref k :: st) := by
  have hj := Nat.blt_eq.mp hj
  subst hn
  intro H locs la hP hD hS hl
  obtain ⟨⟨C0, T, N0⟩, h1, h2, h3, h4⟩ := f
  obtain ⟨q, g1, g2, g3, g4⟩ := hc
  have e : q = (C0, T, N0) := Option.some.inj (g1.symm.trans h1)
  subst e
  obtain ⟨p0, hp0, hat⟩ := eW_at B σ hk
  rw [eC_o hs] at hat
  refine va_put (D := B.1) (cl := vwCl) (C := C0) (T := T) (N := N0) (ref := C0) (ty := .int) (v := .int x) C.1 C.2.1 C.2.2.2.2.1 g2 ty g3 g4 C.2.2.2.1 C.2.2.2.2.2.1 hP hD hS p0 hat h1 j h2 (C.2.2.2.2.1 _ h4) (fun x hx => by have h3' : (T j).1 = C0 := h3; rw [← h3']; exact hx) (hw _ h1) (by rw [← ht]; exact g3 j h2) rfl rfl (by simp [hj]) d (fun H1 locs1 hP hD hS => ?_)
  rw [eW_fld hp0 hs hf] at hP hD
  exact kk H1 locs1 la hP hD hS hl
theorem ww_putl {idx ci j k N i : Nat} {fd : Nat → Nat × Nat} {x : Int64} {ty : Nat → FieldType} (C : CX X B A R own cc nL kc ks) (d : decode cc pc = .ok (.putfield idx, 3)) (hn : pc + 3 = nx) (f : eFl own idx ci j) (hc : eCl ci ty) (hw : ∀ q : vw_C, vwCl[ci]? = some q → (q.2.1 j).2.2.2 = false) (hk : eIn σ k = true) (hs : eSh k = .inr (ci, N, fd)) (hj : Nat.blt j N = true) (hf : fd j = (1, i)) (hu : ∀ j', (fd j').1 = 1 → (fd j').2 = i → j' = j) (hv : ∀ k' ci' N' fd', eSh k' = .inr (ci', N', fd') → ∀ j', j' < N' → (fd' j').1 = 1 → k' = k) (ht : ty j = .long)
    (kk : WW X B A nL kc ks Q (eL σ i x) nx ls st) : WW X B A nL kc ks Q σ pc ls (.long x :: .ref k :: st) := by
  have hj := Nat.blt_eq.mp hj
  subst hn
  intro H locs la hP hD hS hl
  obtain ⟨⟨C0, T, N0⟩, h1, h2, h3, h4⟩ := f
  obtain ⟨q, g1, g2, g3, g4⟩ := hc
  have e : q = (C0, T, N0) := Option.some.inj (g1.symm.trans h1)
  subst e
  obtain ⟨p0, hp0, hat⟩ := eW_at B σ hk
  rw [eC_o hs] at hat
  refine va_put (D := B.1) (cl := vwCl) (C := C0) (T := T) (N := N0) (ref := C0) (ty := .long) (v := .long x) C.1 C.2.1 C.2.2.2.2.1 g2 ty g3 g4 C.2.2.2.1 C.2.2.2.2.2.1 hP hD hS p0 hat h1 j h2 (C.2.2.2.2.1 _ h4) (fun x hx => by have h3' : (T j).1 = C0 := h3; rw [← h3']; exact hx) (hw _ h1) (by rw [← ht]; exact g3 j h2) rfl rfl (by simp [hj]) d (fun H1 locs1 hP hD hS => ?_)
  rw [eW_fldL hp0 hs hf hu hv] at hP hD
  exact kk H1 locs1 la hP hD hS hl
theorem eW_arr {t n k : Nat} {g : Nat → Nat} (hk : eIn σ k = true) (hs : eSh k = .inl (t, n, g)) (ht : t ≠ 3) : ∃ p : Nat, (eCs σ)[p]? = some k ∧ (eW B σ)[p]? = some (B.2.2 k, .inl (B.2.1 t, n, .inl (σ.1 k))) := by
  obtain ⟨p, hp, h⟩ := eW_at B σ hk
  refine ⟨p, hp, ?_⟩
  rw [h, eC_a hs]
  unfold eA
  split
  · exact absurd rfl ht
  · rfl
theorem ww_iald {k n : Nat} {g : Nat → Nat} {i : Int32} (C : CX X B A R own cc nL kc ks) (d : decode cc pc = .ok (.iaload, 1)) (hn : pc + 1 = nx) (hk : eIn σ k = true) (hs : eSh k = .inl (1, n, g)) (hi : vp_in i n) (kk : WW X B A nL kc ks Q σ nx ls (.int (σ.1 k i.toNatClampNeg) :: st)) : WW X B A nL kc ks Q σ pc ls (.int i :: .ref k :: st) := by
  subst hn
  intro H locs la hP hD hS hl
  obtain ⟨p0, hp0, hat⟩ := eW_arr (B := B) hk hs (by decide)
  exact va_iald C.1 C.2.1 C.2.2.2.2.2.1 hP p0 1 hat rfl hi d (kk H locs la hP hD hS hl)
theorem ww_bald {k n : Nat} {g : Nat → Nat} {i : Int32} (C : CX X B A R own cc nL kc ks) (d : decode cc pc = .ok (.baload, 1)) (hn : pc + 1 = nx) (hk : eIn σ k = true) (hs : eSh k = .inl (0, n, g)) (hi : vp_in i n) (kk : WW X B A nL kc ks Q σ nx ls (.int (σ.1 k i.toNatClampNeg) :: st)) : WW X B A nL kc ks Q σ pc ls (.int i :: .ref k :: st) := by
  subst hn
  intro H locs la hP hD hS hl
  obtain ⟨p0, hp0, hat⟩ := eW_arr (B := B) hk hs (by decide)
  exact va_bald C.1 C.2.1 C.2.2.2.2.2.1 hP p0 0 hat rfl hi d (kk H locs la hP hD hS hl)
/-- the row of images: null, or a hill -/
theorem ww_aald0 {k n : Nat} {g : Nat → Nat} {i : Int32} (C : CX X B A R own cc nL kc ks) (d : decode cc pc = .ok (.aaload, 1)) (hn : pc + 1 = nx) (hk : eIn σ k = true) (hs : eSh k = .inl (3, n, g)) (hi : vp_in i n) (h0 : ¬ σ.1 k i.toNatClampNeg = 1) (kk : WW X B A nL kc ks Q σ nx ls (.null :: st)) : WW X B A nL kc ks Q σ pc ls (.int i :: .ref k :: st) := by
  subst hn
  intro H locs la hP hD hS hl
  obtain ⟨p0, hp0, hat⟩ := eW_at B σ hk
  rw [eC_a hs] at hat
  refine va_aldq C.1 C.2.1 C.2.2.2.2.2.1 hP p0 3 (f := fun i => if σ.1 k i = 1 then some (B.2.2 (g i)) else none) hat rfl hi d ?_
  simp only [if_neg h0]
  exact kk H locs la hP hD hS hl
theorem ww_aald1 {k n : Nat} {g : Nat → Nat} {i : Int32} (C : CX X B A R own cc nL kc ks) (d : decode cc pc = .ok (.aaload, 1)) (hn : pc + 1 = nx) (hk : eIn σ k = true) (hs : eSh k = .inl (3, n, g)) (hi : vp_in i n) (h1 : σ.1 k i.toNatClampNeg = 1) (kk : WW X B A nL kc ks Q σ nx ls (.ref (g i.toNatClampNeg) :: st)) : WW X B A nL kc ks Q σ pc ls (.int i :: .ref k :: st) := by
  subst hn
  intro H locs la hP hD hS hl
  obtain ⟨p0, hp0, hat⟩ := eW_at B σ hk
  rw [eC_a hs] at hat
  refine va_aldq C.1 C.2.1 C.2.2.2.2.2.1 hP p0 3 (f := fun i => if σ.1 k i = 1 then some (B.2.2 (g i)) else none) hat rfl hi d ?_
  simp only [if_pos h1]
  exact kk H locs la hP hD hS hl
theorem ww_aast {i : Int32} {j m N : Nat} {fd : Nat → Nat × Nat} (C : CX X B A R own cc nL kc ks) (d : decode cc pc = .ok (.aastore, 1)) (hn : pc + 1 = nx) (hi : vp_in i 2) (hj : i.toNatClampNeg = j) (hm : eIm j = m) (hk : eIn σ m = true) (hs : eSh m = .inr (2, N, fd)) (h2 : ¬ σ.1 38 j = 0) (kk : WW X B A nL kc ks Q (eU σ 38 j 1) nx ls st) : WW X B A nL kc ks Q σ pc ls (.ref m :: .int i :: .ref 38 :: st) := by
  subst hn
  intro H locs la hP hD hS hl
  obtain ⟨p0, hp0, hat⟩ := eW_at B σ (k := 38) rfl
  obtain ⟨p1, hp1, hat1⟩ := eW_at B σ hk
  obtain ⟨g, hg, hgm⟩ : ∃ g : Nat → Nat, eSh 38 = .inl (3, 2, g) ∧ ∀ j, g j = eIm j := ⟨_, rfl, fun _ => rfl⟩
  rw [eC_a hg] at hat
  rw [eC_o hs] at hat1
  refine va_astq (r := (RX2, TX2, 13)) C.1 C.2.1 C.2.2.2.2.2.1 hP hD hS p0 3 p1 2 (f := fun i => if σ.1 38 i = 1 then some (B.2.2 (g i)) else none) hat rfl hat1 rfl hi d (fun H1 locs1 hP hD hS => ?_)
  have e : (eW B σ).set p0 (B.2.2 38, .inl (B.2.1 3, 2, .inr (.inr (.inr (.inr (va_up (fun i => if σ.1 38 i = 1 then some (B.2.2 (g i)) else none) i.toNatClampNeg (some (B.2.2 m)))))))) = eW B (eU σ 38 j 1) := by
    refine eW_set hp0 ?_ ?_ (fun i hi => eC_off (eU_off hi) rfl)
    · unfold eCs
      rw [eU_on]
      have key : ∀ q, (upd (σ.1 38) j 1 q = 0) = (σ.1 38 q = 0) := by
        intro q
        unfold upd
        by_cases hq : q = j
        · subst hq
          rw [if_pos rfl]
          exact propext ⟨fun h => absurd h (by decide), fun h => absurd h h2⟩
        · rw [if_neg hq]
      simp only [key]
    · rw [eC_a hg]
      show _ = Sum.inl (B.2.1 3, 2, Sum.inr (Sum.inr (Sum.inr (Sum.inr (fun i => if (eU σ 38 j 1).1 38 i = 1 then some (B.2.2 (g i)) else none)))))
      congr 7
      funext q
      rw [eU_on, hj]
      unfold va_up upd
      by_cases hq : q = j
      · subst hq
        rw [if_pos rfl, if_pos rfl, if_pos rfl, hgm, hm]
      · rw [if_neg hq, if_neg hq]
  rw [e] at hP hD
  exact kk H1 locs1 la hP hD hS hl
theorem ww_iast {k n : Nat} {g : Nat → Nat} {i x : Int32} (C : CX X B A R own cc nL kc ks) (d : decode cc pc = .ok (.iastore, 1)) (hn : pc + 1 = nx) (hk : eIn σ k = true) (hs : eSh k = .inl (1, n, g)) (hi : vp_in i n) (kk : WW X B A nL kc ks Q (eU σ k i.toNatClampNeg x) nx ls st) : WW X B A nL kc ks Q σ pc ls (.int x :: .int i :: .ref k :: st) := by
  subst hn
  intro H locs la hP hD hS hl
  obtain ⟨p0, hp0, hat⟩ := eW_arr (B := B) hk hs (by decide)
  refine va_iast C.1 C.2.1 C.2.2.2.2.2.1 hP hD hS p0 1 hat rfl hi d (fun H1 locs1 hP hD hS => ?_)
  rw [eW_row hp0 hs (by decide)] at hP hD
  exact kk H1 locs1 la hP hD hS hl
theorem ww_bast {k n : Nat} {g : Nat → Nat} {i x : Int32} (C : CX X B A R own cc nL kc ks) (d : decode cc pc = .ok (.bastore, 1)) (hn : pc + 1 = nx) (hk : eIn σ k = true) (hs : eSh k = .inl (0, n, g)) (hi : vp_in i n) (kk : WW X B A nL kc ks Q (eU σ k i.toNatClampNeg (vp_nar .byte x)) nx ls st) : WW X B A nL kc ks Q σ pc ls (.int x :: .int i :: .ref k :: st) := by
  subst hn
  intro H locs la hP hD hS hl
  obtain ⟨p0, hp0, hat⟩ := eW_arr (B := B) hk hs (by decide)
  refine va_bast C.1 C.2.1 C.2.2.2.2.2.1 hP hD hS p0 0 hat rfl hi d (fun H1 locs1 hP hD hS => ?_)
  rw [eW_row hp0 hs (by decide)] at hP hD
  exact kk H1 locs1 la hP hD hS hl
/-- System.arraycopy of ints -/
theorem ww_copy {k0 k1 n0 n1 index : Nat} {g0 g1 : Nat → Nat} {sp dp n : Int32} (C : CX X B A R own cc nL kc ks) (d : decode cc pc = .ok (.invokestatic index, 3)) (hn : pc + 3 = nx) (hw : Cond.methodLink own index arraycopyName ∈ eTb) (hw1 : Cond.native arraycopyName ∈ eTb) (hw2 : Cond.static arraycopyName ∈ eTb) (hw3 : Cond.initialized "java/lang/System" ∈ eTb)
    (hk0 : eIn σ k0 = true) (hk1 : eIn σ k1 = true) (hs0 : eSh k0 = .inl (1, n0, g0)) (hs1 : eSh k1 = .inl (1, n1, g1)) (h1 : ¬ sp < 0) (h2 : ¬ dp < 0) (h3 : ¬ n < 0) (h4 : sp.toNatClampNeg + n.toNatClampNeg ≤ n0) (h5 : dp.toNatClampNeg + n.toNatClampNeg ≤ n1) (hf : 1 ≤ R.frames) (hl0 : 8 + (nativeFrameWords "java/lang/System" "arraycopy" 5 + 11) ≤ R.locals) (hst : (st.map fun v => v.category).sum ≤ 8)
    (kk : WW X B A nL kc ks Q (eR σ k1 (va_cpy (σ.1 k0) (σ.1 k1) sp.toNatClampNeg dp.toNatClampNeg n.toNatClampNeg)) nx ls st) : WW X B A nL kc ks Q σ pc ls (.int n :: .int dp :: .ref k1 :: .int sp :: .ref k0 :: st) := by
  subst hn
  intro H locs la hP hD hS hl
  have hcat : ((st.map (eV B.2.2)).map fun v => v.category).sum = (st.map fun v => v.category).sum := by
    rw [List.map_map]
    congr 1
    apply List.map_congr_left
    intro v _
    exact eV_cat _ v
  obtain ⟨p0, hp0, hat0⟩ := eW_arr (B := B) hk0 hs0 (by decide)
  obtain ⟨p1, hp1, hat1⟩ := eW_arr (B := B) hk1 hs1 (by decide)
  refine va_copyi C.1 C.2.1 (C.2.2.1.trans hl.1.symm) C.2.2.2.1 (C.2.2.2.2.1 _ hw) (C.2.2.2.2.1 _ hw1) (C.2.2.2.2.1 _ hw2) (C.2.2.2.2.1 _ hw3) C.2.2.2.2.2.1 hP hD hS p0 p1 1 1 (ty := .int) hat0 hat1 rfl rfl rfl h1 h2 h3 h4 h5 (fun i _ => rfl) (by rw [C.2.2.2.2.2.2.2.2.2.2]; exact hf) (by rw [C.2.2.2.2.2.2.2.2.2.2, hcat]; omega) d (fun H1 locs1 hP hD hS => ?_)
  rw [eW_row hp1 hs1 (by decide)] at hP hD
  exact kk H1 locs1 la hP hD hS hl
theorem eCat (ad : Nat → Nat) (st : List Value) : ((st.map (eV ad)).map fun v => v.category).sum = (st.map fun v => v.category).sum := by
  rw [List.map_map]
  congr 1
  apply List.map_congr_left
  intro v _
  exact eV_cat _ v
/-- Math.max, min, abs -/
theorem ww_max {index : Nat} {x y : Int32} (C : CX X B A R own cc nL kc ks) (d : decode cc pc = .ok (.invokestatic index, 3)) (hn : pc + 3 = nx) (hw : Cond.methodLink own index Lib.Math.max.name ∈ eTb) (hw1 : Cond.static Lib.Math.max.name ∈ eTb) (hw2 : Cond.initialized "java/lang/Math" ∈ eTb) (hw3 : Cond.code Lib.Math.max.name Lib.Math.max.code 2 (some .int) ∈ eTb) (hf : 1 ≤ R.frames) (hl0 : 8 + 13 ≤ R.locals) (hst : (st.map fun v => v.category).sum ≤ 8)
    (kk : WW X B A nL kc ks Q σ nx ls (.int (if x < y then y else x) :: st)) : WW X B A nL kc ks Q σ pc ls (.int y :: .int x :: st) := by
  subst hn
  intro H locs la hP hD hS hl
  exact va_mmax C.1 C.2.1 (C.2.2.1.trans hl.1.symm) C.2.2.2.1 (C.2.2.2.2.1 _ hw) (C.2.2.2.2.1 _ hw1) (C.2.2.2.2.1 _ hw2) (C.2.2.2.2.1 _ hw3) (by rw [C.2.2.2.2.2.2.2.2.2.2]; exact hf) (by rw [C.2.2.2.2.2.2.2.2.2.2, eCat]; omega) (by rw [C.2.2.2.2.2.2.2.2.2.2]; exact C.2.2.2.2.2.2.2.2.1) (by rw [C.2.2.2.2.2.2.2.2.2.2]; exact C.2.2.2.2.2.2.2.2.2.1) d (kk H locs la hP hD hS hl)
theorem ww_min {index : Nat} {x y : Int32} (C : CX X B A R own cc nL kc ks) (d : decode cc pc = .ok (.invokestatic index, 3)) (hn : pc + 3 = nx) (hw : Cond.methodLink own index Lib.Math.min.name ∈ eTb) (hw1 : Cond.static Lib.Math.min.name ∈ eTb) (hw2 : Cond.initialized "java/lang/Math" ∈ eTb) (hw3 : Cond.code Lib.Math.min.name Lib.Math.min.code 2 (some .int) ∈ eTb) (hf : 1 ≤ R.frames) (hl0 : 8 + 13 ≤ R.locals) (hst : (st.map fun v => v.category).sum ≤ 8)
    (kk : WW X B A nL kc ks Q σ nx ls (.int (if y < x then y else x) :: st)) : WW X B A nL kc ks Q σ pc ls (.int y :: .int x :: st) := by
  subst hn
  intro H locs la hP hD hS hl
  exact va_mmin C.1 C.2.1 (C.2.2.1.trans hl.1.symm) C.2.2.2.1 (C.2.2.2.2.1 _ hw) (C.2.2.2.2.1 _ hw1) (C.2.2.2.2.1 _ hw2) (C.2.2.2.2.1 _ hw3) (by rw [C.2.2.2.2.2.2.2.2.2.2]; exact hf) (by rw [C.2.2.2.2.2.2.2.2.2.2, eCat]; omega) (by rw [C.2.2.2.2.2.2.2.2.2.2]; exact C.2.2.2.2.2.2.2.2.1) (by rw [C.2.2.2.2.2.2.2.2.2.2]; exact C.2.2.2.2.2.2.2.2.2.1) d (kk H locs la hP hD hS hl)
theorem ww_abs {index : Nat} {x : Int32} (C : CX X B A R own cc nL kc ks) (d : decode cc pc = .ok (.invokestatic index, 3)) (hn : pc + 3 = nx) (hw : Cond.methodLink own index Lib.Math.abs.name ∈ eTb) (hw1 : Cond.static Lib.Math.abs.name ∈ eTb) (hw2 : Cond.initialized "java/lang/Math" ∈ eTb) (hw3 : Cond.code Lib.Math.abs.name Lib.Math.abs.code 1 (some .int) ∈ eTb) (hf : 1 ≤ R.frames) (hl0 : 8 + 13 ≤ R.locals) (hst : (st.map fun v => v.category).sum ≤ 8)
    (kk : WW X B A nL kc ks Q σ nx ls (.int (if 0 ≤ x then x else 0 - x) :: st)) : WW X B A nL kc ks Q σ pc ls (.int x :: st) := by
  subst hn
  intro H locs la hP hD hS hl
  exact va_mabs C.1 C.2.1 (C.2.2.1.trans hl.1.symm) C.2.2.2.1 (C.2.2.2.2.1 _ hw) (C.2.2.2.2.1 _ hw1) (C.2.2.2.2.1 _ hw2) (C.2.2.2.2.1 _ hw3) (by rw [C.2.2.2.2.2.2.2.2.2.2]; exact hf) (by rw [C.2.2.2.2.2.2.2.2.2.2, eCat]; omega) (by rw [C.2.2.2.2.2.2.2.2.2.2]; exact C.2.2.2.2.2.2.2.2.1) (by rw [C.2.2.2.2.2.2.2.2.2.2]; exact C.2.2.2.2.2.2.2.2.2.1) d (kk H locs la hP hD hS hl)
end EF
