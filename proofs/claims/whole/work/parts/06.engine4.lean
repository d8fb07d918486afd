/-! THE ENGINE, 4: methods, calls, returns -/
/-- a method: name, bytes, locals, answer, room -/
abbrev eM : Type := MethodName × ByteArray × Nat × Option FieldType × Room
def eP (B : eB) (av : List Value) (σ : eSt) (sz : Nat) : Array Value → State → Prop := va_Pc (av.map (eV B.2.2)) (fun U => U.heap.size = sz ∧ va_P B.1 vwCl (eW B σ) U.heap ∧ va_K B.1 vwCl (eT B.2.1) U ∧ va_D (fun _ => True) (eW B σ) ∧ eS B.2.2 (eAA B sz) U U.heap)
def eQ (B : eB) (r : Option Value) (σ' : eSt) (sz : Nat) : Array Value → State → Outcome → State → Prop := fun _ s0 oc t => (oc = .returned (r.map (eV B.2.2)) ∧ va_P B.1 vwCl (eW B σ') t.heap ∧ va_D (fun _ => True) (eW B σ')) ∧ va_F (eAA B sz) s0 t
/-- the method M, on these arguments and this store, answers r and leaves the store σ' -/
def Run (l : Launch) (B : eB) (M : eM) (av : List Value) (σ : eSt) (r : Option Value) (σ' : eSt) : Prop :=
  ∀ sz : Nat, Met l M.1 (Cond.code M.1 M.2.1 M.2.2.1 M.2.2.2.1 :: eTb) M.2.2.2.2 (eP B av σ sz) (eQ B r σ' sz) 0 0 (eAA B sz)
theorem eGoodIn {w0 : Cond} (h : w0 ∈ eTb) : GoodIn eTb (w0 :: eTb) := by
  intro w hw
  have hm : w ∈ eTb := by
    rcases List.mem_cons.mp hw with rfl | h1
    · exact h
    · exact h1
  exact ⟨hm, good_of_word (eGood hm)⟩
theorem eS_moved {ad : Nat → Nat} {A : Nat → Prop} {u U : State} {H : Heap} (hW : u.WarmedH U.vm) (h : eS ad A u H) : eS ad A U H :=
  ⟨vk_S.moved hW.alike h.1, ⟨h.2.1.1.warm hW, h.2.1.2.1.warm hW, h.2.1.2.2.1.warm hW, h.2.1.2.2.2.1.warm hW, h.2.1.2.2.2.2.warm hW⟩, va_Z.moved hW.alike h.2.2.1, va_Zq.moved hW.alike h.2.2.2.1, h.2.2.2.2.1.warmM hW, h.2.2.2.2.2.warmM hW⟩
theorem eS_same {ad : Nat → Nat} {A : Nat → Prop} {u U : State} {H : Heap} (hv : U.vm = u.vm) (h : eS ad A u H) : eS ad A U H := by
  have ha : u.vm.Alike U.vm := by rw [hv]; exact Vm.Alike.refl u.vm
  exact ⟨vk_S.moved ha h.1, ⟨h.2.1.1.same hv, h.2.1.2.1.same hv, h.2.1.2.2.1.same hv, h.2.1.2.2.2.1.same hv, h.2.1.2.2.2.2.same hv⟩, va_Z.moved ha h.2.2.1, va_Zq.moved ha h.2.2.2.1, h.2.2.2.2.1.same rfl hv.symm, h.2.2.2.2.2.same rfl hv.symm⟩
theorem eS_kept {ad : Nat → Nat} {A : Nat → Prop} {U : State} {H H1 : Heap} (h : eS ad A U H) (hq : ∀ a : Nat, a < H.size → ¬ A a → H1[a]? = H[a]?) : eS ad A U H1 :=
  ⟨h.1.kept hq, h.2.1, h.2.2.1.kept hq, h.2.2.2.1.kept hq, h.2.2.2.2⟩
theorem eS_narrow {ad : Nat → Nat} {A A' : Nat → Prop} {U : State} {H : Heap} (h : eS ad A U H) (hq : ∀ q, A' q → A q) : eS ad A' U H :=
  ⟨h.1.narrow hq, h.2.1, h.2.2.1.narrow hq, h.2.2.2.1.narrow hq, h.2.2.2.2⟩
theorem eP_blind {B : eB} {av : List Value} {σ : eSt} {sz : Nat} : FrameBlind (eP B av σ sz) := by
  intro a U g mk q
  obtain ⟨q0, q1, q2, q3, q4, q5⟩ := q
  exact ⟨q0, q1, q2, va_K.moved (u := U) (U := U.calling g mk a) (Vm.Alike.refl U.vm) q3, q4, eS_same (u := U) (U := U.calling g mk a) rfl q5⟩
/-- what a method's end is, seen from its frame -/
def eFin (X : eX) (B : eB) (r : Option Value) (σ' : eSt) : State → Prop := MQ (xBel X) (eQ B r σ' (xS X).heap.size) (xArgs X) (xS X) 0 0 (eAA B (xS X).heap.size)
def eArgs : List Value → List (Option Value)
  | [] => []
  | v :: r => if v.category = 2 then some v :: none :: eArgs r else some v :: eArgs r
theorem eArgs_at (ad : Nat → Nat) : ∀ (av : List Value) (i0 i : Nat) (v : Value), (eArgs av)[i]? = some (some v) → (i0 + i, eV ad v) ∈ lv_args i0 (av.map (eV ad)) := by
  intro av
  induction av with
  | nil => intro i0 i v h; simp [eArgs] at h
  | cons w r ih =>
    intro i0 i v h
    simp only [List.map_cons, lv_args, eV_cat]
    by_cases hc : w.category = 2
    · simp only [eArgs, hc, if_true] at h ⊢
      match i, h with
      | 0, h =>
        have : w = v := by simpa using h
        subst this
        exact List.mem_cons_self
      | 1, h => simp at h
      | i + 2, h =>
        have h1 := ih (i0 + 2) i v (by simpa using h)
        rw [show i0 + (i + 2) = i0 + 2 + i by omega]
        exact List.mem_cons_of_mem _ h1
    · simp only [eArgs, hc, if_false] at h ⊢
      match i, h with
      | 0, h =>
        have : w = v := by simpa using h
        subst this
        exact List.mem_cons_self
      | i + 1, h =>
        have h1 := ih (i0 + 1) i v (by simpa using h)
        rw [show i0 + (i + 1) = i0 + 1 + i by omega]
        exact List.mem_cons_of_mem _ h1
theorem lg_sl_len (ad : Nat → Nat) (av : List Value) : (lg_sl (av.map (eV ad))).length = (eArgs av).length := by
  induction av with
  | nil => rfl
  | cons w r ih =>
    have : lg_sl ((w :: r).map (eV ad)) = (if w.category = 2 then [.val (eV ad w), .second] else [.val (eV ad w)]) ++ lg_sl (r.map (eV ad)) := by
      simp [lg_sl, eV_cat]
    rw [this, List.length_append, ih]
    by_cases hc : w.category = 2
    · simp [eArgs, hc]; omega
    · simp [eArgs, hc]; omega
/-- A METHOD is proved by its walk from 0 -/
theorem run_intro {l : Launch} {B : eB} {M : eM} {av : List Value} {σ : eSt} {r : Option Value} {σ' : eSt} {ls : List (Option Value)} (hy : plainName M.1.cls = true) (hc : M.2.2.2.2.cells = 0) (hs : M.2.2.2.2.slots = 0) (hls : eArgs av ++ List.replicate (M.2.2.1 - (eArgs av).length) none = ls) (hlen : (eArgs av).length ≤ M.2.2.1)
    (body : ∀ (X : eX) (A : Nat → Prop), CX X B A M.2.2.2.2 M.1.cls M.2.1 M.2.2.1 0 0 → xLa X = l → A = eAA B (xS X).heap.size → (xMeth X).sig.returnType = M.2.2.2.1 → (xMeth X).locks = false → WW X B A M.2.2.1 0 0 (eFin X B r σ') σ 0 ls []) : Run l B M av σ r σ' := by
  intro sz
  refine Met.ofW (cc := M.2.1) (maxL := M.2.2.1) (ret := M.2.2.2.1) hy rfl ?_
  intro p e s m args below meth c s₁ B0 hml hv
  obtain ⟨rfl, hsz, hP, hK, hD0, hSt⟩ := hv
  subst hsz
  have hts := atoms_spec (ws := Cond.code M.1 M.2.1 M.2.2.1 M.2.2.2.1 :: eTb) B0.pre
  have hown : s.vm.findClass M.1.cls = some m.cls := findClass_of_methodNamed B0.named
  have hD : va_D (eAA B s.heap.size) (eW B σ) := eW_Ad hD0
  have hl := lv_entry (av.map (eV B.2.2)) (n := M.2.2.1) (by rw [lg_sl_len]; exact hlen)
  have hlv : eLv B.2.2 ((lg_sl (av.map (eV B.2.2)) ++ List.replicate (M.2.2.1 - (lg_sl (av.map (eV B.2.2))).length) Slot.unset).toArray) M.2.2.1 ls := by
    refine ⟨hl.1, hl.2.1, fun i v hi => ?_⟩
    subst hls
    have hi2 : (eArgs av)[i]? = some (some v) := by
      by_cases h : i < (eArgs av).length
      · rwa [List.getElem?_append_left h] at hi
      · rw [List.getElem?_append_right (by omega), List.getElem?_replicate] at hi
        split at hi
        · simp at hi
        · cases hi
    have h1 := eArgs_at B.2.2 av 0 i v hi2
    rw [Nat.zero_add] at h1
    exact hl.2.2 _ h1
  rw [lg_entry_eq]
  exact body (p, l, e, (headSpec (Cond.code M.1 M.2.1 M.2.2.1 M.2.2.2.1 :: eTb) M.2.2.2.2).room, s, m, (av.map (eV B.2.2)).toArray, below, meth, c) (eAA B s.heap.size)
    ⟨B0.exec, B0.bytes, hml, hown, fun w hw => hts w (List.mem_cons_of_mem _ hw), hK, fun q hq => hq, hSt, Nat.zero_le _, Nat.zero_le _, rfl⟩ rfl rfl B0.returns B0.notSynchronized s.heap [] _ hP hD va_S.rf hlv
section ER
variable {X : eX} {B : eB} {A : Nat → Prop} {R : Room} {own : String} {cc : ByteArray} {nL kc ks : Nat} {Q : State → Prop} {σ τ : eSt} {pc nx : Nat} {ls : List (Option Value)} {st : List Value} {r : Option Value}
theorem ww_iret {v : Int32} (C : CX X B A R own cc nL 0 0) (hA : A = eAA B (xS X).heap.size) (hr : (xMeth X).sig.returnType = some .int) (hk : (xMeth X).locks = false) (d : decode cc pc = .ok (.ireturn, 1)) (e : r = some (.int v)) (e2 : τ = σ) : WW X B A nL 0 0 (eFin X B r τ) σ pc ls [.int v] := by
  subst e; subst e2; subst hA
  intro H locs la hP hD hS hl
  exact W.iret (v := v) C.1 C.2.1 hr (fun t ht hW => ⟨⟨rfl, by rw [ht]; exact hP, hD.weaken (fun _ _ _ _ => trivial)⟩, hS.F ht⟩) hS.2.2 d hk
theorem ww_zret {v : Int32} (C : CX X B A R own cc nL 0 0) (hA : A = eAA B (xS X).heap.size) (hr : (xMeth X).sig.returnType = some .boolean) (hk : (xMeth X).locks = false) (d : decode cc pc = .ok (.ireturn, 1)) (hn : narrow .boolean (.int v) = .int v) (e : r = some (.int v)) (e2 : τ = σ) : WW X B A nL 0 0 (eFin X B r τ) σ pc ls [.int v] := by
  subst e; subst e2; subst hA
  intro H locs la hP hD hS hl
  exact W.zret (v := v) C.1 C.2.1 hr hn (fun t ht hW => ⟨⟨rfl, by rw [ht]; exact hP, hD.weaken (fun _ _ _ _ => trivial)⟩, hS.F ht⟩) hS.2.2 d hk
theorem ww_lret {v : Int64} (C : CX X B A R own cc nL 0 0) (hA : A = eAA B (xS X).heap.size) (hr : (xMeth X).sig.returnType = some .long) (hk : (xMeth X).locks = false) (d : decode cc pc = .ok (.lreturn, 1)) (e : r = some (.long v)) (e2 : τ = σ) : WW X B A nL 0 0 (eFin X B r τ) σ pc ls [.long v] := by
  subst e; subst e2; subst hA
  intro H locs la hP hD hS hl
  exact W.lret (v := v) C.1 C.2.1 hr (fun t ht hW => ⟨⟨rfl, by rw [ht]; exact hP, hD.weaken (fun _ _ _ _ => trivial)⟩, hS.F ht⟩) hS.2.2 d hk
theorem ww_vret (C : CX X B A R own cc nL 0 0) (hA : A = eAA B (xS X).heap.size) (hr : (xMeth X).sig.returnType = none) (hk : (xMeth X).locks = false) (d : decode cc pc = .ok (.return_, 1)) (e : r = none) (e2 : τ = σ) : WW X B A nL 0 0 (eFin X B r τ) σ pc ls [] := by
  subst e; subst e2; subst hA
  intro H locs la hP hD hS hl
  exact W.vret C.1 C.2.1 hr (fun t ht hW => ⟨⟨rfl, by rw [ht]; exact hP, hD.weaken (fun _ _ _ _ => trivial)⟩, hS.F ht⟩) hS.2.2 d hk
/-- the cells that a callee may change are the caller's -/
theorem eAA_sub {H : Heap} {locs : List Loc} (C : CX X B A R own cc nL kc ks) (hD : va_D A (eW B σ)) (hS : va_S A (xS X).heap H locs) : ∀ q, eAA B H.size q → A q := by
  rintro q (h | h)
  · exact C.2.2.2.2.2.2.1 q (Or.inl h)
  · exact C.2.2.2.2.2.2.1 q (Or.inr (Nat.le_trans hS.1 h))
/-- the callee's start, from the caller's -/
theorem eP_at {H : Heap} {locs : List Loc} {av : List Value} (C : CX X B A R own cc nL kc ks) (hP : va_P B.1 vwCl (eW B σ) H) (hD : va_D A (eW B σ)) (hS : va_S A (xS X).heap H locs) : ∀ U : State, U.heap = H → (xS X).WarmedH U.vm → eP B av σ H.size (av.map (eV B.2.2)).toArray U := by
  intro U hU hW
  refine ⟨rfl, by rw [hU], by rw [hU]; exact hP, va_K.moved hW.alike C.2.2.2.2.2.1, hD.weaken (fun _ _ _ _ => trivial), ?_⟩
  rw [hU]
  exact eS_narrow (eS_kept (eS_moved hW C.2.2.2.2.2.2.2.1) hS.2.1) (eAA_sub C hD hS)
/-- behind a call -/
theorem ww_back {av : List Value} {H : Heap} {locs : List Loc} {la : Array Slot} {st0 : List Value} (C : CX X B A R own cc nL kc ks) (hD : va_D A (eW B σ)) (hS : va_S A (xS X).heap H locs) (hl : eLv B.2.2 la nL ls)
    (hr : va_Run (xP X) (xLa X) (xE X) (xR X) (xS X) (xM X) (xArgs X) (xBel X) (xMeth X) (xC X) H locs kc ks 0 0 (F0 (xM X) pc la st0) (st.map (eV B.2.2)) (eQ B r τ H.size (av.map (eV B.2.2)).toArray) (eAA B H.size))
    (k : WW X B A nL kc ks Q τ (pc + 3) ls (r.toList ++ st)) : eWm X H locs kc ks Q (F0 (xM X) pc la st0) := by
  intro T hT X0
  obtain ⟨v, s0, t, T', L, h0, X', hL, e1, e2, ⟨⟨hv, hP', hD'⟩, hz, hk⟩, hst⟩ := hr T hT X0
  have hsub := eAA_sub C hD hS
  have hv2 : v = r.map (eV B.2.2) := by
    have := hv
    simp only [Outcome.returned.injEq] at this
    exact this
  subst hv2
  rw [h0] at hz hk
  have hst2 : (r.map (eV B.2.2)).toList ++ st.map (eV B.2.2) = (r.toList ++ st).map (eV B.2.2) := by
    cases r <;> simp
  have hS' : va_S A (xS X).heap T'.heap (locs ++ L) := ⟨Nat.le_trans hS.1 (by rw [e1]; exact hz), fun q g1 g2 => by
      rw [e1, hk q (Nat.lt_of_lt_of_le g1 hS.1) (fun z => g2 (hsub q z))]
      exact hS.2.1 q g1 g2, fun q hq => by
      rcases List.mem_append.mp hq with h | h
      · exact hS.2.2 q h
      · exact hsub _ (hL q h)⟩
  obtain ⟨t2, a1, b1⟩ := k T'.heap (locs ++ L) la (by rw [e1]; exact hP') (hD'.weaken (fun p q hq _ => by obtain ⟨j, hj, e⟩ := eW_inv B τ hq; exact C.2.2.2.2.2.2.1 _ (Or.inl ⟨j, eCs_lt (List.mem_of_getElem? hj), congrArg Prod.fst e⟩))) hS' hl T' rfl X'
  refine ⟨t2, hst t2 ?_, b1⟩
  simp only at a1 ⊢
  rw [hst2]
  exact a1
def eCalV (own : String) (idx n : Nat) (M : eM) : Prop := (Cond.methodLink own idx M.1 ∈ eTb ∧ Cond.instanceMethod M.1 ∈ eTb ∧ Cond.selects M.1.cls M.1 M.1 ∈ eTb ∧ Cond.initialized M.1.cls ∈ eTb ∧ Cond.code M.1 M.2.1 M.2.2.1 M.2.2.2.1 ∈ eTb) ∧ M.2.2.2.2.cells = 0 ∧ M.2.2.2.2.slots = 0 ∧ M.1.cls ≠ "java/lang/invoke/MethodHandle" ∧ M.1.cls ≠ "java/lang/invoke/VarHandle" ∧ (parseMethodDescriptor M.1.desc).map (fun d => d.parameters.length) = some n
def eCalS (own : String) (idx n : Nat) (M : eM) : Prop := (Cond.methodLink own idx M.1 ∈ eTb ∧ Cond.static M.1 ∈ eTb ∧ Cond.initialized M.1.cls ∈ eTb ∧ Cond.code M.1 M.2.1 M.2.2.1 M.2.2.2.1 ∈ eTb) ∧ M.2.2.2.2.cells = 0 ∧ M.2.2.2.2.slots = 0 ∧ M.1.cls ≠ "java/lang/invoke/MethodHandle" ∧ M.1.cls ≠ "java/lang/invoke/VarHandle" ∧ (parseMethodDescriptor M.1.desc).map (fun d => d.parameters.length) = some n
def eCalN (n : Nat) (M : eM) : Prop := (Cond.static M.1 ∈ eTb ∧ Cond.initialized M.1.cls ∈ eTb ∧ Cond.code M.1 M.2.1 M.2.2.1 M.2.2.2.1 ∈ eTb) ∧ M.2.2.2.2.cells = 0 ∧ M.2.2.2.2.slots = 0 ∧ M.1.cls ≠ "java/lang/invoke/MethodHandle" ∧ M.1.cls ≠ "java/lang/invoke/VarHandle" ∧ (parseMethodDescriptor M.1.desc).map (fun d => d.parameters.length) = some n
def eRm (R : Room) (M : eM) : Prop := M.2.2.2.2.frames + 1 ≤ R.frames ∧ 8 + (M.2.2.1 + 11) + M.2.2.2.2.locals ≤ R.locals
theorem ww_callV {M : eM} {idx n k ci N : Nat} {fd : Nat → Nat × Nat} {As : List Value} {q : vw_C} (C : CX X B A R own cc nL kc ks) (d : decode cc pc = .ok (.invokevirtual idx, 3)) (hn : pc + 3 = nx) (w : eCalV own idx n M) (hq : vwCl[ci]? = some q) (hq1 : q.1 = M.1.cls) (hR : eRm R M) (hk : eIn σ k = true) (hs : eSh k = .inr (ci, N, fd)) (hlen : As.length = n) (hst : (st.map fun v => v.category).sum ≤ 8)
    (hrun : Run (xLa X) B M (.ref k :: As) σ r τ) (kk : WW X B A nL kc ks Q τ nx ls (r.toList ++ st)) : WW X B A nL kc ks Q σ pc ls (As.reverse ++ .ref k :: st) := by
  subst hn
  intro H locs la hP hD hS hl
  obtain ⟨⟨w1, w2, w3, w4, w5⟩, m1, m2, m3, m4, m5⟩ := w
  have hts := C.2.2.2.2.1
  obtain ⟨p0, hp0, hat⟩ := eW_at B σ hk
  rw [eC_o hs] at hat
  have hrv := va_recv C.2.2.2.2.2.1 hP hq hat
  rw [hq1] at hrv
  refine ww_back (av := .ref k :: As) C hD hS hl (va_runV (As := As.map (eV B.2.2)) (C := M.1.cls) (bytes := M.2.1) (maxL := M.2.2.1) (ret := M.2.2.2.1) (n := n) (Ts := eTb) ⟨C.1, C.2.1, C.2.2.1, C.2.2.2.1, hts⟩ (hrun H.size) (cwV n hts ?_ rfl m1 m2 ⟨rfl, m3, m4, m5⟩ (by rw [C.2.2.2.2.2.2.2.2.2.2]; exact hR)) ⟨eP_blind, hrv, eP_at C hP hD hS⟩ rfl (by rw [List.length_map]; exact hlen) hl.1 ?_ ?_ d (by rw [C.2.2.2.2.2.2.2.2.2.2]; exact ⟨C.2.2.2.2.2.2.2.2.1, C.2.2.2.2.2.2.2.2.2.1⟩)) kk
  · have hG := eGoodIn w5
    intro v hv
    rcases List.mem_append.mp hv with h | h
    · have hm : v ∈ eTb := by
        simp only [List.mem_cons, List.not_mem_nil, or_false] at h
        rcases h with rfl | rfl | rfl | rfl
        · exact w1
        · exact w2
        · exact w3
        · exact w4
      exact ⟨hm, good_of_word (eGood hm)⟩
    · exact hG v h
  · simp [List.map_reverse, eV]
  · exact lv_room (by rw [eCat]; exact hst)
theorem ww_callS {M : eM} {idx n : Nat} {As : List Value} (C : CX X B A R own cc nL kc ks) (d : decode cc pc = .ok (.invokestatic idx, 3)) (hn : pc + 3 = nx) (w : eCalS own idx n M) (hR : eRm R M) (hlen : As.length = n) (hst : (st.map fun v => v.category).sum ≤ 8)
    (hrun : Run (xLa X) B M As σ r τ) (kk : WW X B A nL kc ks Q τ nx ls (r.toList ++ st)) : WW X B A nL kc ks Q σ pc ls (As.reverse ++ st) := by
  subst hn
  intro H locs la hP hD hS hl
  obtain ⟨⟨w1, w2, w3, w5⟩, m1, m2, m3, m4, m5⟩ := w
  have hts := C.2.2.2.2.1
  refine ww_back (av := As) C hD hS hl (va_runS (As := As.map (eV B.2.2)) (bytes := M.2.1) (maxL := M.2.2.1) (ret := M.2.2.2.1) (n := n) (Ts := eTb) ⟨C.1, C.2.1, C.2.2.1, C.2.2.2.1, hts⟩ (hrun H.size) (va_cwS n hts ?_ rfl m1 m2 ⟨m3, m4, m5⟩ (by rw [C.2.2.2.2.2.2.2.2.2.2]; exact hR)) ⟨eP_blind, eP_at C hP hD hS⟩ rfl (by rw [List.length_map]; exact hlen) hl.1 ?_ ?_ d (by rw [C.2.2.2.2.2.2.2.2.2.2]; exact ⟨C.2.2.2.2.2.2.2.2.1, C.2.2.2.2.2.2.2.2.2.1⟩)) kk
  · have hG := eGoodIn w5
    intro v hv
    rcases List.mem_append.mp hv with h | h
    · have hm : v ∈ eTb := by
        simp only [List.mem_cons, List.not_mem_nil, or_false] at h
        rcases h with rfl | rfl | rfl
        · exact w1
        · exact w2
        · exact w3
      exact ⟨hm, good_of_word (eGood hm)⟩
    · exact hG v h
  · simp [List.map_reverse]
  · exact lv_room (by rw [eCat]; exact hst)
theorem ww_callN {M : eM} {idx n : Nat} {host : String} {As : List Value} (C : CX X B A R own cc nL kc ks) (d : decode cc pc = .ok (.invokestatic idx, 3)) (hn : pc + 3 = nx) (w0 : va_Nw (.methodLinkNest own idx M.1 host) (xS X)) (w : eCalN n M) (hR : eRm R M) (hlen : As.length = n) (hst : (st.map fun v => v.category).sum ≤ 8)
    (hrun : Run (xLa X) B M As σ r τ) (kk : WW X B A nL kc ks Q τ nx ls (r.toList ++ st)) : WW X B A nL kc ks Q σ pc ls (As.reverse ++ st) := by
  subst hn
  intro H locs la hP hD hS hl
  obtain ⟨⟨w2, w3, w5⟩, m1, m2, m3, m4, m5⟩ := w
  have hts := C.2.2.2.2.1
  refine ww_back (av := As) C hD hS hl (va_runSN (As := As.map (eV B.2.2)) (host := host) (bytes := M.2.1) (maxL := M.2.2.1) (ret := M.2.2.2.1) (n := n) (Ts := eTb) ⟨C.1, C.2.1, C.2.2.1, C.2.2.2.1, hts⟩ (hrun H.size) ⟨va_cnB n hts (eGoodIn w5) rfl m1 m2 w0 (hts _ w3) ⟨m3, m4, m5⟩ (by rw [C.2.2.2.2.2.2.2.2.2.2]; exact hR), hts _ w2, trivial⟩ ⟨eP_blind, eP_at C hP hD hS⟩ rfl (by rw [List.length_map]; exact hlen) hl.1 ?_ ?_ d (by rw [C.2.2.2.2.2.2.2.2.2.2]; exact ⟨C.2.2.2.2.2.2.2.2.1, C.2.2.2.2.2.2.2.2.2.1⟩)) kk
  · simp [List.map_reverse]
  · exact lv_room (by rw [eCat]; exact hst)

theorem ww_cV01 {v : Value} {M : eM} {idx k ci N : Nat} {fd : Nat → Nat × Nat} {q : vw_C} (C : CX X B A R own cc nL kc ks) (d : decode cc pc = .ok (.invokevirtual idx, 3)) (hn : pc + 3 = nx) (w : eCalV own idx 0 M) (hq : vwCl[ci]? = some q) (hq1 : q.1 = M.1.cls) (hR : eRm R M) (hk : eIn σ k = true) (hs : eSh k = .inr (ci, N, fd)) (hst : (st.map fun v => v.category).sum ≤ 8) (hrun : Run (xLa X) B M (.ref k :: []) σ (some v) τ) (kk : WW X B A nL kc ks Q τ nx ls (v :: st)) : WW X B A nL kc ks Q σ pc ls (.ref k :: st) := ww_callV (As := []) C d hn w hq hq1 hR hk hs rfl hst hrun kk
theorem ww_cV00 {M : eM} {idx k ci N : Nat} {fd : Nat → Nat × Nat} {q : vw_C} (C : CX X B A R own cc nL kc ks) (d : decode cc pc = .ok (.invokevirtual idx, 3)) (hn : pc + 3 = nx) (w : eCalV own idx 0 M) (hq : vwCl[ci]? = some q) (hq1 : q.1 = M.1.cls) (hR : eRm R M) (hk : eIn σ k = true) (hs : eSh k = .inr (ci, N, fd)) (hst : (st.map fun v => v.category).sum ≤ 8) (hrun : Run (xLa X) B M (.ref k :: []) σ (none) τ) (kk : WW X B A nL kc ks Q τ nx ls st) : WW X B A nL kc ks Q σ pc ls (.ref k :: st) := ww_callV (As := []) C d hn w hq hq1 hR hk hs rfl hst hrun kk
theorem ww_cV11 {a1 : Value} {v : Value} {M : eM} {idx k ci N : Nat} {fd : Nat → Nat × Nat} {q : vw_C} (C : CX X B A R own cc nL kc ks) (d : decode cc pc = .ok (.invokevirtual idx, 3)) (hn : pc + 3 = nx) (w : eCalV own idx 1 M) (hq : vwCl[ci]? = some q) (hq1 : q.1 = M.1.cls) (hR : eRm R M) (hk : eIn σ k = true) (hs : eSh k = .inr (ci, N, fd)) (hst : (st.map fun v => v.category).sum ≤ 8) (hrun : Run (xLa X) B M (.ref k :: [a1]) σ (some v) τ) (kk : WW X B A nL kc ks Q τ nx ls (v :: st)) : WW X B A nL kc ks Q σ pc ls (a1 :: .ref k :: st) := ww_callV (As := [a1]) C d hn w hq hq1 hR hk hs rfl hst hrun kk
theorem ww_cS11 {a1 : Value} {v : Value} {M : eM} {idx : Nat} (C : CX X B A R own cc nL kc ks) (d : decode cc pc = .ok (.invokestatic idx, 3)) (hn : pc + 3 = nx) (w : eCalS own idx 1 M) (hR : eRm R M) (hst : (st.map fun v => v.category).sum ≤ 8) (hrun : Run (xLa X) B M [a1] σ (some v) τ) (kk : WW X B A nL kc ks Q τ nx ls (v :: st)) : WW X B A nL kc ks Q σ pc ls (a1 :: st) := ww_callS (As := [a1]) C d hn w hR rfl hst hrun kk
theorem ww_cV10 {a1 : Value} {M : eM} {idx k ci N : Nat} {fd : Nat → Nat × Nat} {q : vw_C} (C : CX X B A R own cc nL kc ks) (d : decode cc pc = .ok (.invokevirtual idx, 3)) (hn : pc + 3 = nx) (w : eCalV own idx 1 M) (hq : vwCl[ci]? = some q) (hq1 : q.1 = M.1.cls) (hR : eRm R M) (hk : eIn σ k = true) (hs : eSh k = .inr (ci, N, fd)) (hst : (st.map fun v => v.category).sum ≤ 8) (hrun : Run (xLa X) B M (.ref k :: [a1]) σ (none) τ) (kk : WW X B A nL kc ks Q τ nx ls st) : WW X B A nL kc ks Q σ pc ls (a1 :: .ref k :: st) := ww_callV (As := [a1]) C d hn w hq hq1 hR hk hs rfl hst hrun kk
theorem ww_cS10 {a1 : Value} {M : eM} {idx : Nat} (C : CX X B A R own cc nL kc ks) (d : decode cc pc = .ok (.invokestatic idx, 3)) (hn : pc + 3 = nx) (w : eCalS own idx 1 M) (hR : eRm R M) (hst : (st.map fun v => v.category).sum ≤ 8) (hrun : Run (xLa X) B M [a1] σ (none) τ) (kk : WW X B A nL kc ks Q τ nx ls st) : WW X B A nL kc ks Q σ pc ls (a1 :: st) := ww_callS (As := [a1]) C d hn w hR rfl hst hrun kk
theorem ww_cV21 {a1 a2 : Value} {v : Value} {M : eM} {idx k ci N : Nat} {fd : Nat → Nat × Nat} {q : vw_C} (C : CX X B A R own cc nL kc ks) (d : decode cc pc = .ok (.invokevirtual idx, 3)) (hn : pc + 3 = nx) (w : eCalV own idx 2 M) (hq : vwCl[ci]? = some q) (hq1 : q.1 = M.1.cls) (hR : eRm R M) (hk : eIn σ k = true) (hs : eSh k = .inr (ci, N, fd)) (hst : (st.map fun v => v.category).sum ≤ 8) (hrun : Run (xLa X) B M (.ref k :: [a1, a2]) σ (some v) τ) (kk : WW X B A nL kc ks Q τ nx ls (v :: st)) : WW X B A nL kc ks Q σ pc ls (a2 :: a1 :: .ref k :: st) := ww_callV (As := [a1, a2]) C d hn w hq hq1 hR hk hs rfl hst hrun kk
theorem ww_cS21 {a1 a2 : Value} {v : Value} {M : eM} {idx : Nat} (C : CX X B A R own cc nL kc ks) (d : decode cc pc = .ok (.invokestatic idx, 3)) (hn : pc + 3 = nx) (w : eCalS own idx 2 M) (hR : eRm R M) (hst : (st.map fun v => v.category).sum ≤ 8) (hrun : Run (xLa X) B M [a1, a2] σ (some v) τ) (kk : WW X B A nL kc ks Q τ nx ls (v :: st)) : WW X B A nL kc ks Q σ pc ls (a2 :: a1 :: st) := ww_callS (As := [a1, a2]) C d hn w hR rfl hst hrun kk
theorem ww_cV20 {a1 a2 : Value} {M : eM} {idx k ci N : Nat} {fd : Nat → Nat × Nat} {q : vw_C} (C : CX X B A R own cc nL kc ks) (d : decode cc pc = .ok (.invokevirtual idx, 3)) (hn : pc + 3 = nx) (w : eCalV own idx 2 M) (hq : vwCl[ci]? = some q) (hq1 : q.1 = M.1.cls) (hR : eRm R M) (hk : eIn σ k = true) (hs : eSh k = .inr (ci, N, fd)) (hst : (st.map fun v => v.category).sum ≤ 8) (hrun : Run (xLa X) B M (.ref k :: [a1, a2]) σ (none) τ) (kk : WW X B A nL kc ks Q τ nx ls st) : WW X B A nL kc ks Q σ pc ls (a2 :: a1 :: .ref k :: st) := ww_callV (As := [a1, a2]) C d hn w hq hq1 hR hk hs rfl hst hrun kk
theorem ww_cS20 {a1 a2 : Value} {M : eM} {idx : Nat} (C : CX X B A R own cc nL kc ks) (d : decode cc pc = .ok (.invokestatic idx, 3)) (hn : pc + 3 = nx) (w : eCalS own idx 2 M) (hR : eRm R M) (hst : (st.map fun v => v.category).sum ≤ 8) (hrun : Run (xLa X) B M [a1, a2] σ (none) τ) (kk : WW X B A nL kc ks Q τ nx ls st) : WW X B A nL kc ks Q σ pc ls (a2 :: a1 :: st) := ww_callS (As := [a1, a2]) C d hn w hR rfl hst hrun kk
theorem ww_cV31 {a1 a2 a3 : Value} {v : Value} {M : eM} {idx k ci N : Nat} {fd : Nat → Nat × Nat} {q : vw_C} (C : CX X B A R own cc nL kc ks) (d : decode cc pc = .ok (.invokevirtual idx, 3)) (hn : pc + 3 = nx) (w : eCalV own idx 3 M) (hq : vwCl[ci]? = some q) (hq1 : q.1 = M.1.cls) (hR : eRm R M) (hk : eIn σ k = true) (hs : eSh k = .inr (ci, N, fd)) (hst : (st.map fun v => v.category).sum ≤ 8) (hrun : Run (xLa X) B M (.ref k :: [a1, a2, a3]) σ (some v) τ) (kk : WW X B A nL kc ks Q τ nx ls (v :: st)) : WW X B A nL kc ks Q σ pc ls (a3 :: a2 :: a1 :: .ref k :: st) := ww_callV (As := [a1, a2, a3]) C d hn w hq hq1 hR hk hs rfl hst hrun kk
theorem ww_cS31 {a1 a2 a3 : Value} {v : Value} {M : eM} {idx : Nat} (C : CX X B A R own cc nL kc ks) (d : decode cc pc = .ok (.invokestatic idx, 3)) (hn : pc + 3 = nx) (w : eCalS own idx 3 M) (hR : eRm R M) (hst : (st.map fun v => v.category).sum ≤ 8) (hrun : Run (xLa X) B M [a1, a2, a3] σ (some v) τ) (kk : WW X B A nL kc ks Q τ nx ls (v :: st)) : WW X B A nL kc ks Q σ pc ls (a3 :: a2 :: a1 :: st) := ww_callS (As := [a1, a2, a3]) C d hn w hR rfl hst hrun kk
theorem ww_cV30 {a1 a2 a3 : Value} {M : eM} {idx k ci N : Nat} {fd : Nat → Nat × Nat} {q : vw_C} (C : CX X B A R own cc nL kc ks) (d : decode cc pc = .ok (.invokevirtual idx, 3)) (hn : pc + 3 = nx) (w : eCalV own idx 3 M) (hq : vwCl[ci]? = some q) (hq1 : q.1 = M.1.cls) (hR : eRm R M) (hk : eIn σ k = true) (hs : eSh k = .inr (ci, N, fd)) (hst : (st.map fun v => v.category).sum ≤ 8) (hrun : Run (xLa X) B M (.ref k :: [a1, a2, a3]) σ (none) τ) (kk : WW X B A nL kc ks Q τ nx ls st) : WW X B A nL kc ks Q σ pc ls (a3 :: a2 :: a1 :: .ref k :: st) := ww_callV (As := [a1, a2, a3]) C d hn w hq hq1 hR hk hs rfl hst hrun kk
theorem ww_cS30 {a1 a2 a3 : Value} {M : eM} {idx : Nat} (C : CX X B A R own cc nL kc ks) (d : decode cc pc = .ok (.invokestatic idx, 3)) (hn : pc + 3 = nx) (w : eCalS own idx 3 M) (hR : eRm R M) (hst : (st.map fun v => v.category).sum ≤ 8) (hrun : Run (xLa X) B M [a1, a2, a3] σ (none) τ) (kk : WW X B A nL kc ks Q τ nx ls st) : WW X B A nL kc ks Q σ pc ls (a3 :: a2 :: a1 :: st) := ww_callS (As := [a1, a2, a3]) C d hn w hR rfl hst hrun kk
theorem ww_cV41 {a1 a2 a3 a4 : Value} {v : Value} {M : eM} {idx k ci N : Nat} {fd : Nat → Nat × Nat} {q : vw_C} (C : CX X B A R own cc nL kc ks) (d : decode cc pc = .ok (.invokevirtual idx, 3)) (hn : pc + 3 = nx) (w : eCalV own idx 4 M) (hq : vwCl[ci]? = some q) (hq1 : q.1 = M.1.cls) (hR : eRm R M) (hk : eIn σ k = true) (hs : eSh k = .inr (ci, N, fd)) (hst : (st.map fun v => v.category).sum ≤ 8) (hrun : Run (xLa X) B M (.ref k :: [a1, a2, a3, a4]) σ (some v) τ) (kk : WW X B A nL kc ks Q τ nx ls (v :: st)) : WW X B A nL kc ks Q σ pc ls (a4 :: a3 :: a2 :: a1 :: .ref k :: st) := ww_callV (As := [a1, a2, a3, a4]) C d hn w hq hq1 hR hk hs rfl hst hrun kk
theorem ww_cS41 {a1 a2 a3 a4 : Value} {v : Value} {M : eM} {idx : Nat} (C : CX X B A R own cc nL kc ks) (d : decode cc pc = .ok (.invokestatic idx, 3)) (hn : pc + 3 = nx) (w : eCalS own idx 4 M) (hR : eRm R M) (hst : (st.map fun v => v.category).sum ≤ 8) (hrun : Run (xLa X) B M [a1, a2, a3, a4] σ (some v) τ) (kk : WW X B A nL kc ks Q τ nx ls (v :: st)) : WW X B A nL kc ks Q σ pc ls (a4 :: a3 :: a2 :: a1 :: st) := ww_callS (As := [a1, a2, a3, a4]) C d hn w hR rfl hst hrun kk
theorem ww_cV40 {a1 a2 a3 a4 : Value} {M : eM} {idx k ci N : Nat} {fd : Nat → Nat × Nat} {q : vw_C} (C : CX X B A R own cc nL kc ks) (d : decode cc pc = .ok (.invokevirtual idx, 3)) (hn : pc + 3 = nx) (w : eCalV own idx 4 M) (hq : vwCl[ci]? = some q) (hq1 : q.1 = M.1.cls) (hR : eRm R M) (hk : eIn σ k = true) (hs : eSh k = .inr (ci, N, fd)) (hst : (st.map fun v => v.category).sum ≤ 8) (hrun : Run (xLa X) B M (.ref k :: [a1, a2, a3, a4]) σ (none) τ) (kk : WW X B A nL kc ks Q τ nx ls st) : WW X B A nL kc ks Q σ pc ls (a4 :: a3 :: a2 :: a1 :: .ref k :: st) := ww_callV (As := [a1, a2, a3, a4]) C d hn w hq hq1 hR hk hs rfl hst hrun kk
theorem ww_cS40 {a1 a2 a3 a4 : Value} {M : eM} {idx : Nat} (C : CX X B A R own cc nL kc ks) (d : decode cc pc = .ok (.invokestatic idx, 3)) (hn : pc + 3 = nx) (w : eCalS own idx 4 M) (hR : eRm R M) (hst : (st.map fun v => v.category).sum ≤ 8) (hrun : Run (xLa X) B M [a1, a2, a3, a4] σ (none) τ) (kk : WW X B A nL kc ks Q τ nx ls st) : WW X B A nL kc ks Q σ pc ls (a4 :: a3 :: a2 :: a1 :: st) := ww_callS (As := [a1, a2, a3, a4]) C d hn w hR rfl hst hrun kk
theorem ww_cV51 {a1 a2 a3 a4 a5 : Value} {v : Value} {M : eM} {idx k ci N : Nat} {fd : Nat → Nat × Nat} {q : vw_C} (C : CX X B A R own cc nL kc ks) (d : decode cc pc = .ok (.invokevirtual idx, 3)) (hn : pc + 3 = nx) (w : eCalV own idx 5 M) (hq : vwCl[ci]? = some q) (hq1 : q.1 = M.1.cls) (hR : eRm R M) (hk : eIn σ k = true) (hs : eSh k = .inr (ci, N, fd)) (hst : (st.map fun v => v.category).sum ≤ 8) (hrun : Run (xLa X) B M (.ref k :: [a1, a2, a3, a4, a5]) σ (some v) τ) (kk : WW X B A nL kc ks Q τ nx ls (v :: st)) : WW X B A nL kc ks Q σ pc ls (a5 :: a4 :: a3 :: a2 :: a1 :: .ref k :: st) := ww_callV (As := [a1, a2, a3, a4, a5]) C d hn w hq hq1 hR hk hs rfl hst hrun kk
theorem ww_cS51 {a1 a2 a3 a4 a5 : Value} {v : Value} {M : eM} {idx : Nat} (C : CX X B A R own cc nL kc ks) (d : decode cc pc = .ok (.invokestatic idx, 3)) (hn : pc + 3 = nx) (w : eCalS own idx 5 M) (hR : eRm R M) (hst : (st.map fun v => v.category).sum ≤ 8) (hrun : Run (xLa X) B M [a1, a2, a3, a4, a5] σ (some v) τ) (kk : WW X B A nL kc ks Q τ nx ls (v :: st)) : WW X B A nL kc ks Q σ pc ls (a5 :: a4 :: a3 :: a2 :: a1 :: st) := ww_callS (As := [a1, a2, a3, a4, a5]) C d hn w hR rfl hst hrun kk
theorem ww_cV50 {a1 a2 a3 a4 a5 : Value} {M : eM} {idx k ci N : Nat} {fd : Nat → Nat × Nat} {q : vw_C} (C : CX X B A R own cc nL kc ks) (d : decode cc pc = .ok (.invokevirtual idx, 3)) (hn : pc + 3 = nx) (w : eCalV own idx 5 M) (hq : vwCl[ci]? = some q) (hq1 : q.1 = M.1.cls) (hR : eRm R M) (hk : eIn σ k = true) (hs : eSh k = .inr (ci, N, fd)) (hst : (st.map fun v => v.category).sum ≤ 8) (hrun : Run (xLa X) B M (.ref k :: [a1, a2, a3, a4, a5]) σ (none) τ) (kk : WW X B A nL kc ks Q τ nx ls st) : WW X B A nL kc ks Q σ pc ls (a5 :: a4 :: a3 :: a2 :: a1 :: .ref k :: st) := ww_callV (As := [a1, a2, a3, a4, a5]) C d hn w hq hq1 hR hk hs rfl hst hrun kk
theorem ww_cS50 {a1 a2 a3 a4 a5 : Value} {M : eM} {idx : Nat} (C : CX X B A R own cc nL kc ks) (d : decode cc pc = .ok (.invokestatic idx, 3)) (hn : pc + 3 = nx) (w : eCalS own idx 5 M) (hR : eRm R M) (hst : (st.map fun v => v.category).sum ≤ 8) (hrun : Run (xLa X) B M [a1, a2, a3, a4, a5] σ (none) τ) (kk : WW X B A nL kc ks Q τ nx ls st) : WW X B A nL kc ks Q σ pc ls (a5 :: a4 :: a3 :: a2 :: a1 :: st) := ww_callS (As := [a1, a2, a3, a4, a5]) C d hn w hR rfl hst hrun kk
theorem ww_cN31 {a1 a2 a3 v : Value} {M : eM} {idx : Nat} {host : String} (C : CX X B A R own cc nL kc ks) (d : decode cc pc = .ok (.invokestatic idx, 3)) (hn : pc + 3 = nx) (w0 : va_Nw (.methodLinkNest own idx M.1 host) (xS X)) (w : eCalN 3 M) (hR : eRm R M) (hst : (st.map fun v => v.category).sum ≤ 8) (hrun : Run (xLa X) B M [a1, a2, a3] σ (some v) τ) (kk : WW X B A nL kc ks Q τ nx ls (v :: st)) : WW X B A nL kc ks Q σ pc ls (a3 :: a2 :: a1 :: st) := ww_callN (As := [a1, a2, a3]) C d hn w0 w hR rfl hst hrun kk
end ER
