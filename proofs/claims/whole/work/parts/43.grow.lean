/-! image(): a hill may be made: the addresses grow -/
abbrev mX6_imageA : eM := (yX6_image, cX6_image, 3, (some .int), { frames := 2, cells := 9, slots := 190, locals := 61 })
/-- B' is B, but for the addresses of the images' hills, where those may be new -/
def eGr (B B' : eB) (sz : Nat) : Prop := (B'.1 = B.1 ∧ B'.2.1 = B.2.1) ∧ (∀ k, ¬ (20 ≤ k ∧ k ≤ 37) → B'.2.2 k = B.2.2 k) ∧ ∀ q, eAA B' sz q → eAA B sz q
theorem eGr.rf {B : eB} {sz : Nat} : eGr B B sz := ⟨⟨rfl, rfl⟩, fun _ _ => rfl, fun _ h => h⟩
theorem eGr.less {B B' : eB} {m n : Nat} (h : eGr B B' n) (hm : m ≤ n) : eGr B B' m := by
  refine ⟨h.1, h.2.1, fun q hq => ?_⟩
  rcases hq with hq | hq
  · rcases h.2.2 q (Or.inl hq) with h1 | h1
    · exact Or.inl h1
    · exact Or.inr (Nat.le_trans hm h1)
  · exact Or.inr hq
/-- a value that isn't a cell of an image's hill -/
def eNi (v : Value) : Prop := match v with
  | .ref k => ¬ (20 ≤ k ∧ k ≤ 37)
  | _ => True
theorem eV_gr {B B' : eB} {n : Nat} (h : eGr B B' n) {v : Value} (hv : eNi v) : eV B'.2.2 v = eV B.2.2 v := by
  cases v with
  | ref k =>
    show Value.ref (B'.2.2 k) = Value.ref (B.2.2 k)
    rw [h.2.1 k hv]
  | _ => rfl
theorem eVs_gr {B B' : eB} {n : Nat} (h : eGr B B' n) {st : List Value} (hv : ∀ v ∈ st, eNi v) : st.map (eV B'.2.2) = st.map (eV B.2.2) := List.map_congr_left (fun v hm => eV_gr h (hv v hm))
theorem eLv_gr {B B' : eB} {n nL : Nat} {la : Array Slot} {ls : List (Option Value)} (h : eGr B B' n) (hv : ∀ (i : Nat) (v : Value), ls[i]? = some (some v) → eNi v) (hl : eLv B.2.2 la nL ls) : eLv B'.2.2 la nL ls := by
  refine ⟨hl.1, hl.2.1, fun i v hi => ?_⟩
  rw [eV_gr h (hv i v hi)]
  exact hl.2.2 i v hi
theorem eS_gr {ad ad' : Nat → Nat} {A : Nat → Prop} {U : State} {H : Heap} (h : ∀ k, 37 < k → ad' k = ad k) (hs : eS ad A U H) : eS ad' A U H := by
  have e1 : (fun i => ad' (1000 + i)) = (fun i => ad (1000 + i)) := funext fun i => h _ (by omega)
  have e2 : (fun i => ad' (1100 + i)) = (fun i => ad (1100 + i)) := funext fun i => h _ (by omega)
  unfold eS at hs ⊢
  rw [e1, e2, h 1000 (by omega), h 1001 (by omega), h 1002 (by omega), h 1003 (by omega), h 1004 (by omega)]
  exact hs
theorem CX.grow {X : eX} {B B' : eB} {A : Nat → Prop} {R : Room} {own : String} {cc : ByteArray} {nL kc ks kc' ks' : Nat} (C : CX X B A R own cc nL kc ks) (h : eGr B B' (xS X).heap.size) (h1 : kc' ≤ R.cells) (h2 : ks' ≤ R.slots) : CX X B' A R own cc nL kc' ks' := by
  refine ⟨C.1, C.2.1, C.2.2.1, C.2.2.2.1, C.2.2.2.2.1, ?_, fun q hq => C.2.2.2.2.2.2.1 q (h.2.2 q hq), eS_gr (fun k hk => h.2.1 k (by omega)) C.2.2.2.2.2.2.2.1, h1, h2, C.2.2.2.2.2.2.2.2.2.2⟩
  rw [h.1.1, h.1.2]
  exact C.2.2.2.2.2.1
theorem ww_widen {X : eX} {B : eB} {A : Nat → Prop} {nL kc ks k n : Nat} {Q : State → Prop} {σ : eSt} {pc : Nat} {ls : List (Option Value)} {st : List Value} (h1 : kc ≤ k) (h2 : ks ≤ n) (w : WW X B A nL k n Q σ pc ls st) : WW X B A nL kc ks Q σ pc ls st := fun H locs la hP hD hS hl => W.widen h1 h2 (w H locs la hP hD hS hl)
def eQg (B : eB) (r : Option Value) (σ' : eSt) (sz : Nat) : Array Value → State → Outcome → State → Prop := fun _ s0 oc t => (oc = .returned (r.map (eV B.2.2)) ∧ ∃ B', eGr B B' sz ∧ va_P B'.1 vwCl (eW B' σ') t.heap ∧ va_D (fun _ => True) (eW B' σ')) ∧ va_F (eAA B sz) s0 t
def RunG (l : Launch) (B : eB) (M : eM) (av : List Value) (σ : eSt) (r : Option Value) (σ' : eSt) : Prop :=
  ∀ sz : Nat, Met l M.1 (Cond.code M.1 M.2.1 M.2.2.1 M.2.2.2.1 :: eTb) M.2.2.2.2 (eP B av σ sz) (eQg B r σ' sz) 9 190 (eAA B sz)
def zRunG (l : Launch) (B : eB) (M : eM) (av : List Value) (ζ : zSt) (r : Option Value) (ζ' : zSt) : Prop := RunG l B M av (zz ζ) r (zz ζ')
def eFinG (X : eX) (B : eB) (r : Option Value) (σ' : eSt) : State → Prop := MQ (xBel X) (eQg B r σ' (xS X).heap.size) (xArgs X) (xS X) 9 190 (eAA B (xS X).heap.size)
theorem runG_intro {l : Launch} {B : eB} {M : eM} {av : List Value} {ζ : zSt} {r : Option Value} {ζ' : zSt} {ls : List (Option Value)} (hy : plainName M.1.cls = true) (hls : eArgs av ++ List.replicate (M.2.2.1 - (eArgs av).length) none = ls) (hlen : (eArgs av).length ≤ M.2.2.1)
    (body : ∀ (X : eX) (A : Nat → Prop), CX X B A M.2.2.2.2 M.1.cls M.2.1 M.2.2.1 0 0 → xLa X = l → A = eAA B (xS X).heap.size → (xMeth X).sig.returnType = M.2.2.2.1 → (xMeth X).locks = false → ZW X B A M.2.2.1 0 0 (eFinG X B r (zz ζ')) ζ 0 ls []) : zRunG l B M av ζ r ζ' := by
  intro sz
  refine Met.ofW (cc := M.2.1) (maxL := M.2.2.1) (ret := M.2.2.2.1) hy rfl ?_
  intro p e s m args below meth c s₁ B0 hml hv
  obtain ⟨rfl, hsz, hP, hK, hD0, hSt⟩ := hv
  subst hsz
  have hts := atoms_spec (ws := Cond.code M.1 M.2.1 M.2.2.1 M.2.2.2.1 :: eTb) B0.pre
  have hown : s.vm.findClass M.1.cls = some m.cls := findClass_of_methodNamed B0.named
  have hD : va_D (eAA B s.heap.size) (eW B (zz ζ)) := eW_Ad hD0
  have hl := lv_entry (av.map (eV B.2.2)) (n := M.2.2.1) (by rw [lg_sl_len]; exact hlen)
  have hlv : eLv B.2.2 ((lg_sl (av.map (eV B.2.2)) ++ List.replicate (M.2.2.1 - (lg_sl (av.map (eV B.2.2))).length) Slot.unset).toArray) M.2.2.1 ls := by
    refine ⟨hl.1, hl.2.1, fun i v hi => ?_⟩
    subst hls
    have hi2 : (eArgs av)[i]? = some (some v) := by
      by_cases h : i < (eArgs av).length
      · rwa [List.getElem?_append_left h] at hi
      · rw [List.getElem?_append_right (by omega), List.getElem?_replicate] at hi
        split at hi
        · simp at hi
        · cases hi
    have h1 := eArgs_at B.2.2 av 0 i v hi2
    rw [Nat.zero_add] at h1
    exact hl.2.2 _ h1
  rw [lg_entry_eq]
  exact body (p, l, e, (headSpec (Cond.code M.1 M.2.1 M.2.2.1 M.2.2.2.1 :: eTb) M.2.2.2.2).room, s, m, (av.map (eV B.2.2)).toArray, below, meth, c) (eAA B s.heap.size)
    ⟨B0.exec, B0.bytes, hml, hown, fun w hw => hts w (List.mem_cons_of_mem _ hw), hK, fun q hq => hq, hSt, Nat.zero_le _, Nat.zero_le _, rfl⟩ rfl rfl B0.returns B0.notSynchronized s.heap [] _ hP hD va_S.rf hlv
section EG
variable {X : eX} {B B' : eB} {A : Nat → Prop} {R : Room} {own : String} {cc : ByteArray} {nL kc ks : Nat} {Q : State → Prop} {ζ τ : zSt} {pc nx : Nat} {ls : List (Option Value)} {st : List Value} {r : Option Value}
theorem zw_iretG {v : Int} (C : CX X B' A R own cc nL 9 190) (hA : A = eAA B (xS X).heap.size) (hg : eGr B B' (xS X).heap.size) (hr : (xMeth X).sig.returnType = some .int) (hk : (xMeth X).locks = false) (d : decode cc pc = .ok (.ireturn, 1)) (e : r = some (zi v)) (e2 : τ = ζ) : ZW X B' A nL 9 190 (eFinG X B r (zz τ)) ζ pc ls [zi v] := by
  subst e; subst e2; subst hA
  intro H locs la hP hD hS hl
  exact W.iret (v := iI v) C.1 C.2.1 hr (fun t ht hW => ⟨⟨rfl, B', hg, by rw [ht]; exact hP, hD.weaken (fun _ _ _ _ => trivial)⟩, hS.F ht⟩) hS.2.2 d hk
theorem ww_backG {σ τ : eSt} {av : List Value} {H : Heap} {locs : List Loc} {la : Array Slot} {st0 : List Value} (C : CX X B A R own cc nL kc ks) (hD : va_D A (eW B σ)) (hS : va_S A (xS X).heap H locs) (hl : eLv B.2.2 la nL ls) (hn1 : ∀ v ∈ st, eNi v) (hn2 : ∀ (i : Nat) (v : Value), ls[i]? = some (some v) → eNi v) (hn3 : ∀ v ∈ r, eNi v)
    (hr : va_Run (xP X) (xLa X) (xE X) (xR X) (xS X) (xM X) (xArgs X) (xBel X) (xMeth X) (xC X) H locs kc ks 9 190 (F0 (xM X) pc la st0) (st.map (eV B.2.2)) (eQg B r τ H.size (av.map (eV B.2.2)).toArray) (eAA B H.size))
    (k : ∀ B', eGr B B' (xS X).heap.size → WW X B' A nL (kc + 9) (ks + 190) Q τ (pc + 3) ls (r.toList ++ st)) : eWm X H locs kc ks Q (F0 (xM X) pc la st0) := by
  intro T hT X0
  obtain ⟨v, s0, t, T', L, h0, X', hL, e1, e2, ⟨⟨hv, B', hg0, hP', hD'⟩, hz, hk⟩, hst⟩ := hr T hT X0
  have hsub := eAA_sub C hD hS
  have hg := hg0.less hS.1
  have hv2 : v = r.map (eV B.2.2) := by
    have := hv
    simp only [Outcome.returned.injEq] at this
    exact this
  subst hv2
  rw [h0] at hz hk
  have hst2 : (r.map (eV B.2.2)).toList ++ st.map (eV B.2.2) = (r.toList ++ st).map (eV B'.2.2) := by
    rw [List.map_append, eVs_gr hg hn1]
    congr 1
    cases r with
    | none => rfl
    | some w =>
      show [eV B.2.2 w] = [eV B'.2.2 w]
      rw [eV_gr hg (hn3 w rfl)]
  have hS' : va_S A (xS X).heap T'.heap (locs ++ L) := ⟨Nat.le_trans hS.1 (by rw [e1]; exact hz), fun q g1 g2 => by
      rw [e1, hk q (Nat.lt_of_lt_of_le g1 hS.1) (fun z => g2 (hsub q z))]
      exact hS.2.1 q g1 g2, fun q hq => by
      rcases List.mem_append.mp hq with h | h
      · exact hS.2.2 q h
      · exact hsub _ (hL q h)⟩
  obtain ⟨t2, a1, b1⟩ := k B' hg T'.heap (locs ++ L) la (by rw [e1]; exact hP') (hD'.weaken (fun p q hq _ => by obtain ⟨j, hj, e⟩ := eW_inv B' τ hq; exact C.2.2.2.2.2.2.1 _ (hg.2.2 _ (Or.inl ⟨j, eCs_lt (List.mem_of_getElem? hj), congrArg Prod.fst e⟩)))) hS' (eLv_gr hg hn2 hl) T' rfl X'
  refine ⟨t2, hst t2 ?_, b1⟩
  simp only at a1 ⊢
  rw [hst2]
  exact a1
/-- a call of image -/
theorem zw_cG11 {a1 v : Value} {idx : Nat} (C : CX X B A R own cc nL kc ks) (d : decode cc pc = .ok (.invokevirtual idx, 3)) (hn : pc + 3 = nx) (w : eCalV own idx 1 mX6_image) (hR : eRm R mX6_imageA) (hcs : kc + 9 ≤ R.cells ∧ ks + 190 ≤ R.slots) (hst : (st.map fun v => v.category).sum ≤ 8) (hn1 : ∀ v ∈ st, eNi v) (hn2 : ∀ (i : Nat) (v : Value), ls[i]? = some (some v) → eNi v) (hn3 : eNi v)
    (hrun : zRunG (xLa X) B mX6_imageA [.ref 0, a1] ζ (some v) τ) (kk : ∀ B', eGr B B' (xS X).heap.size → ZW X B' A nL (kc + 9) (ks + 190) Q τ nx ls (v :: st)) : ZW X B A nL kc ks Q ζ pc ls (a1 :: .ref 0 :: st) := by
  subst hn
  intro H locs la hP hD hS hl
  obtain ⟨⟨w1, w2, w3, w4, w5⟩, m1, m2, m3, m4, m5⟩ := w
  have hts := C.2.2.2.2.1
  obtain ⟨p0, hp0, hat⟩ := eW_at B (zz ζ) (k := 0) rfl
  rw [eC_o (ci := 5) (N := 12) (fd := eSeatsF) rfl] at hat
  have hrv := va_recv (q := (RX6, TX6, 12)) C.2.2.2.2.2.1 hP rfl hat
  refine ww_backG (σ := zz ζ) (τ := zz τ) (r := some v) (av := [.ref 0, a1]) C hD hS hl hn1 hn2 (fun x hx => by cases hx; exact hn3) (va_runV (As := [eV B.2.2 a1]) (C := RX6) (bytes := cX6_image) (maxL := 3) (ret := some .int) (n := 1) (Ts := eTb) ⟨C.1, C.2.1, C.2.2.1, C.2.2.2.1, hts⟩ (hrun H.size) (cwV 1 hts ?_ rfl rfl rfl ⟨rfl, m3, m4, m5⟩ (by rw [C.2.2.2.2.2.2.2.2.2.2]; exact hR)) ⟨eP_blind, hrv, eP_at (av := [.ref 0, a1]) C hP hD hS⟩ rfl rfl hl.1 ?_ ?_ d (by rw [C.2.2.2.2.2.2.2.2.2.2]; exact hcs)) kk
  · have hG := eGoodIn w5
    intro v hv
    rcases List.mem_append.mp hv with h | h
    · have hm : v ∈ eTb := by
        simp only [List.mem_cons, List.not_mem_nil, or_false] at h
        rcases h with rfl | rfl | rfl | rfl
        · exact w1
        · exact w2
        · exact w3
        · exact w4
      exact ⟨hm, good_of_word (eGood hm)⟩
    · exact hG v h
  · rfl
  · exact lv_room (by rw [eCat]; exact hst)
end EG
/-- no cell but a hill's own refers to a hill's cells -/
theorem eSh_tg : ∀ k, k < 71 → (match eSh k with | .inl a => !(a.1 == 3) || k == 38 | .inr o => (List.range o.2.1).all (fun j => ((o.2.2 j).1 == 0 || (o.2.2 j).1 == 1) || ((!(Nat.ble 20 (o.2.2 j).2 && Nat.ble (o.2.2 j).2 28) || (Nat.ble 20 k && Nat.ble k 28)) && (!(Nat.ble 29 (o.2.2 j).2 && Nat.ble (o.2.2 j).2 37) || (Nat.ble 29 k && Nat.ble k 37))))) = true := by decide
theorem eC_gr {cy : Nat → ClassId} {ad ad' : Nat → Nat} {σ τ : eSt} {k lo : Nat} (hlo : lo = 20 ∨ lo = 29) (hk : k < 71) (hk2 : ¬ (lo ≤ k ∧ k ≤ lo + 8)) (h38 : k ≠ 38) (hr : τ.1 k = σ.1 k) (hl : τ.2 = σ.2) (ha : ∀ j, ¬ (lo ≤ j ∧ j ≤ lo + 8) → ad' j = ad j) : eC cy ad' τ k = eC cy ad σ k := by
  have key := eSh_tg k hk
  unfold eC
  cases hs : eSh k with
  | inl a =>
    rw [hs] at key
    have h3 : a.1 ≠ 3 := by
      intro e
      simp [e, h38] at key
    show Sum.inl (cy a.1, a.2.1, eA ad' τ k a.1 a.2.2) = Sum.inl (cy a.1, a.2.1, eA ad σ k a.1 a.2.2)
    congr 3
    unfold eA
    split
    · rename_i e
      exact absurd e h3
    · rw [hr]
  | inr o =>
    rw [hs] at key
    show Sum.inr (o.1, (List.range o.2.1).map (fun j => eF ad' τ k j (o.2.2 j))) = Sum.inr (o.1, (List.range o.2.1).map (fun j => eF ad σ k j (o.2.2 j)))
    congr 2
    apply List.map_congr_left
    intro j hj
    have kj := List.all_eq_true.mp key j hj
    unfold eF
    split
    · rw [hr]
    · rw [hl]
    · rename_i x h0 h1
      rw [ha]
      simp only [Bool.or_eq_true, Bool.and_eq_true, beq_iff_eq, Nat.ble_eq, Bool.not_eq_true', Bool.and_eq_false_iff] at kj
      rcases kj with kj | ⟨k1, k2⟩
      · rcases kj with kj | kj
        · exact absurd kj h0
        · exact absurd kj h1
      · have f1 : ∀ a b : Nat, (a.ble b = false) ↔ ¬ a ≤ b := fun a b => by
          rw [← Nat.ble_eq, Bool.not_eq_true]
        simp only [f1] at k1 k2
        omega
/-- the store behind the making of a hill -/
def nwS (ζ : zSt) (h i : Nat) : zSt := (fun a b => if a = 38 ∧ b = i then 2 else if a = h then (match b with | 0 => 3 | 1 => 240 | _ => 0) else if h < a ∧ a < h + 9 then 0 else ζ.1 a b, ζ.2)
theorem nwS_off (ζ : zSt) {h i a : Nat} (h1 : a ≠ 38) (h2 : ¬ (h ≤ a ∧ a ≤ h + 8)) : (nwS ζ h i).1 a = ζ.1 a := by
  funext b
  show (if a = 38 ∧ b = i then 2 else if a = h then (match b with | 0 => 3 | 1 => 240 | _ => 0) else if h < a ∧ a < h + 9 then 0 else ζ.1 a b) = ζ.1 a b
  rw [if_neg (fun q => h1 q.1), if_neg (by omega), if_neg (by omega)]
theorem nwS_38 (ζ : zSt) {h i b : Nat} (hh : ¬ (h ≤ 38 ∧ 38 ≤ h + 8)) : (nwS ζ h i).1 38 b = if b = i then 2 else ζ.1 38 b := by
  show (if 38 = 38 ∧ b = i then 2 else if 38 = h then (match b with | 0 => 3 | 1 => 240 | _ => 0) else if h < 38 ∧ 38 < h + 9 then 0 else ζ.1 38 b) = _
  by_cases e : b = i
  · rw [if_pos ⟨rfl, e⟩, if_pos e]
  · rw [if_neg (fun q => e q.2), if_neg e, if_neg (by omega), if_neg (by omega)]
theorem va_nd_range : ∀ (n s : Nat), va_nd (List.range' s n) = true
  | 0, s => rfl
  | n + 1, s => by
    show (decide (s ∉ List.range' (s + 1) n) && va_nd (List.range' (s + 1) n)) = true
    rw [va_nd_range n (s + 1), Bool.and_true]
    refine decide_eq_true (fun h => ?_)
    have := List.mem_range'_1.mp h
    omega
theorem range_at (ws : va_W) (x : Nat × va_E) : (List.range' 0 ws.length).map (fun i => (ws ++ [x])[i]?) = ws.map some := by
  apply List.ext_getElem?
  intro i
  rw [List.getElem?_map, List.getElem?_map]
  by_cases h : i < ws.length
  · rw [List.getElem?_range' h, Option.map_some, Nat.zero_add, Nat.one_mul, List.getElem?_append_left h]
    rw [List.getElem?_eq_getElem h]
    rfl
  · rw [List.getElem?_eq_none (by rw [List.length_range']; omega), List.getElem?_eq_none (by omega)]
    rfl
def nwA0 (ad : Nat → Nat) (q0 q1 q2 q3 q4 q5 q6 q7 q8 k : Nat) : Nat := if k = 20 then q0 else if k = 21 then q1 else if k = 22 then q2 else if k = 23 then q3 else if k = 24 then q4 else if k = 25 then q5 else if k = 26 then q6 else if k = 27 then q7 else if k = 28 then q8 else ad k
theorem nwA0_off (ad : Nat → Nat) (q0 q1 q2 q3 q4 q5 q6 q7 q8 : Nat) {k : Nat} (h : ¬ (20 ≤ k ∧ k ≤ 28)) : nwA0 ad q0 q1 q2 q3 q4 q5 q6 q7 q8 k = ad k := by
  unfold nwA0
  rw [if_neg (by omega), if_neg (by omega), if_neg (by omega), if_neg (by omega), if_neg (by omega), if_neg (by omega), if_neg (by omega), if_neg (by omega), if_neg (by omega)]
theorem nw_new0 (cy : Nat → ClassId) (ad : Nat → Nat) (q0 q1 q2 q3 q4 q5 q6 q7 q8 : Nat) (ζ : zSt) : eI0.map (fun k => (nwA0 ad q0 q1 q2 q3 q4 q5 q6 q7 q8 k, eC cy (nwA0 ad q0 q1 q2 q3 q4 q5 q6 q7 q8) (zz (nwS ζ 20 0)) k)) = [(q0, .inr (2, [.int 3, .int 240, .ref q1, .int 0, .ref q2, .ref q3, .ref q4, .ref q5, .ref q6, .int 0, .ref q7, .int 0, .ref q8])), (q1, .inl (cy 1, 8, .inl (fun _ => 0))), (q2, .inl (cy 1, 5, .inl (fun _ => 0))), (q3, .inl (cy 1, 5, .inl (fun _ => 0))), (q4, .inl (cy 1, 5, .inl (fun _ => 0))), (q5, .inl (cy 1, 5, .inl (fun _ => 0))), (q6, .inl (cy 1, 5, .inl (fun _ => 0))), (q7, .inl (cy 1, 24, .inl (fun _ => 0))), (q8, .inl (cy 1, 120, .inl (fun _ => 0)))] := rfl
theorem nw_mem0 {ζ : zSt} {k : Nat} (hk : k ∈ eCs (zz (nwS ζ 20 0))) : k ∈ eCs (zz ζ) ++ eI0 := by
  unfold eCs at hk ⊢
  have e : (zz (nwS ζ 20 0)).1 38 1 = (zz ζ).1 38 1 := rfl
  rw [e] at hk
  simp only [List.mem_append] at hk ⊢
  rcases hk with hk | hk | hk
  · exact Or.inl (Or.inl hk)
  · split at hk
    · cases hk
    · exact Or.inr hk
  · exact Or.inl (Or.inr (Or.inr hk))
theorem nw_old0 {cy : Nat → ClassId} {ad : Nat → Nat} {q0 q1 q2 q3 q4 q5 q6 q7 q8 : Nat} {ζ : zSt} (h0 : ζ.1 38 0 = 0) {k : Nat} (hk : k ∈ eCs (zz ζ)) : (nwA0 ad q0 q1 q2 q3 q4 q5 q6 q7 q8 k, eC cy (nwA0 ad q0 q1 q2 q3 q4 q5 q6 q7 q8) (zz (nwS ζ 20 0)) k) = (ad k, eC cy ad (zz ζ) k) := by
  have hr : ¬ (20 ≤ k ∧ k ≤ 28) := by
    have hc : eCs (zz ζ) = eL0 ++ ([] ++ (if (zz ζ).1 38 1 = 0 then [] else eI1)) := by
      unfold eCs
      rw [show (zz ζ).1 38 0 = 0 by show iI (ζ.1 38 0) = 0; rw [h0]; rfl]
      rfl
    rw [hc] at hk
    have f1 : ∀ k ∈ eL0 ++ eI1, ¬ (20 ≤ k ∧ k ≤ 28) := by decide
    refine f1 k ?_
    simp only [List.mem_append, List.nil_append, List.append_nil] at hk ⊢
    rcases hk with hk | hk
    · exact Or.inl hk
    · split at hk
      · cases hk
      · exact Or.inr hk
  have hlt : k < 71 := eCs_lt hk
  rw [nwA0_off ad q0 q1 q2 q3 q4 q5 q6 q7 q8 hr]
  congr 1
  by_cases h38 : k = 38
  · subst h38
    rw [eC_a (t := 3) (n := 2) (g := eIm) rfl, eC_a (t := 3) (n := 2) (g := eIm) rfl]
    show Sum.inl (cy 3, 2, Sum.inr (Sum.inr (Sum.inr (Sum.inr (fun i => if (zz (nwS ζ 20 0)).1 38 i = 1 then some (nwA0 ad q0 q1 q2 q3 q4 q5 q6 q7 q8 (eIm i)) else none))))) = Sum.inl (cy 3, 2, Sum.inr (Sum.inr (Sum.inr (Sum.inr (fun i => if (zz ζ).1 38 i = 1 then some (ad (eIm i)) else none)))))
    congr 7
    funext j
    by_cases hj : j = 0
    · subst hj
      rw [if_neg (show ¬ (zz (nwS ζ 20 0)).1 38 0 = 1 from (show ¬ iI 2 = 1 by decide)), if_neg (show ¬ (zz ζ).1 38 0 = 1 from (show ¬ iI (ζ.1 38 0) = 1 by rw [h0]; decide))]
    · have e1 : (zz (nwS ζ 20 0)).1 38 j = (zz ζ).1 38 j := by
        show iI ((nwS ζ 20 0).1 38 j) = iI (ζ.1 38 j)
        rw [nwS_38 ζ (by omega), if_neg hj]
      have e2 : ¬ (20 ≤ eIm j ∧ eIm j ≤ 28) := by
        match j, hj with
        | 0, hj => exact absurd rfl hj
        | 1, _ => decide
        | j + 2, _ => exact (by decide : ¬ (20 ≤ 0 ∧ 0 ≤ 28))
      rw [e1, nwA0_off ad q0 q1 q2 q3 q4 q5 q6 q7 q8 e2]
  · exact eC_gr (lo := 20) (by omega) hlt hr h38 (by
      funext b
      show iI ((nwS ζ 20 0).1 k b) = iI (ζ.1 k b)
      rw [nwS_off ζ h38 hr]) rfl (fun j hj => nwA0_off ad q0 q1 q2 q3 q4 q5 q6 q7 q8 hj)
set_option maxHeartbeats 1000000 in
theorem zw_newH0 {X : eX} {B : eB} {A : Nat → Prop} {R : Room} {cc : ByteArray} {nL kc ks : Nat} {Q : State → Prop} {ζ : zSt} {pc : Nat} {ls : List (Option Value)} (C : CX X B A R RX6 cc nL kc ks) (d1 : decode cc pc = .ok (.new 9, 3)) (d2 : decode cc (pc + 3) = .ok (.dup, 1)) (d3 : decode cc (pc + 3 + 1) = .ok (.invokespecial 11, 3)) (hc : kc + 9 ≤ R.cells) (hs : ks + 190 ≤ R.slots) (hf : 1 + 1 ≤ R.frames ∧ 8 + (1 + 11) + 20 ≤ R.locals) (h0 : ζ.1 38 0 = 0) (hn2 : ∀ (i : Nat) (v : Value), ls[i]? = some (some v) → eNi v) (hAs : ∀ q, A q → eAA B (xS X).heap.size q)
    (k : ∀ B', eGr B B' (xS X).heap.size → ZW X B' A nL (kc + 9) (ks + 190) Q (nwS ζ 20 0) (pc + 7) ls [.ref 20]) : ZW X B A nL kc ks Q ζ pc ls [] := by
  intro H locs la hP hD hS hl
  obtain ⟨⟨dC, dI⟩, cy, ad⟩ := B
  have hts := C.2.2.2.2.1
  have hA : ∀ q, (xS X).heap.size ≤ q → A q := fun q h => C.2.2.2.2.2.2.1 q (Or.inr h)
  have hK : va_K (dC, dI) vwCl (eT cy) (xS X) := C.2.2.2.2.2.1
  have hR := C.2.2.2.2.2.2.2.2.2.2
  obtain ⟨ws, hws⟩ : ∃ ws, ws = eW ((dC, dI), cy, ad) (zz ζ) := ⟨_, rfl⟩
  have hP : va_P (dC, dI) vwCl ws H := by rw [hws]; exact hP
  have hD : va_D A ws := by rw [hws]; exact hD
  refine va_new (ci := 2) (fs := [.int 0, .int 0, .null, .int 0, .null, .null, .null, .null, .null, .int 0, .null, .int 0, .null]) (C := RX2) (T := TX2) (N := 13) C.1 C.2.1 hts (iq2 _ rfl) tyX2 tyX2_ok C.2.2.2.1 (hts _ wl_X6_9) (hts _ wn_X2) (hts _ wi_X2) hK hP hD hS hA rfl (fun j hj => by rcases (show j = 0 ∨ j = 1 ∨ j = 2 ∨ j = 3 ∨ j = 4 ∨ j = 5 ∨ j = 6 ∨ j = 7 ∨ j = 8 ∨ j = 9 ∨ j = 10 ∨ j = 11 ∨ j = 12 by omega) with rfl | rfl | rfl | rfl | rfl | rfl | rfl | rfl | rfl | rfl | rfl | rfl | rfl <;> rfl) (by rw [hR]; omega) (by rw [hR]; omega) d1 (fun q0 H hP hD hS => ?_)
  refine lv_dup C.1 C.2.1 d2 rfl ?_
  have hPc := hP.sub (ws' := [(q0, .inr (2, [.int 0, .int 0, .null, .int 0, .null, .null, .null, .null, .null, .int 0, .null, .int 0, .null]))]) [ws.length] (by simp)
  have hDc := hD.sub (ws' := [(q0, .inr (2, [.int 0, .int 0, .null, .int 0, .null, .null, .null, .null, .null, .int 0, .null, .int 0, .null]))]) [ws.length] rfl (by simp)
  have hFc := va_free (wc := [(q0, .inr (2, [.int 0, .int 0, .null, .int 0, .null, .null, .null, .null, .null, .int 0, .null, .int 0, .null]))]) hD hS hA [ws.length] (by simp)
  refine va_callv (va_runIN (As := []) (rest := [.ref q0]) ⟨C.1, C.2.1, C.2.2.1, C.2.2.2.1, hts⟩ (c_X2_init (xLa X) dC dI cy q0 H.size) ⟨va_cnB 0 hts (eGoodIn wk_X2) rfl rfl rfl C.2.2.2.2.2.2.2.1.2.2.2.2.2 (hts _ wi_X2) ⟨by decide +kernel, by decide +kernel, by decide +kernel⟩ (by rw [hR]; exact hf), rfl, hts _ wm_X2⟩ ⟨fun a U g mk q => by obtain ⟨q0, q1, qP, qK, qD⟩ := q; exact ⟨q0, q1, qP, va_K.moved (u := U) (U := U.calling g mk a) (Vm.Alike.refl U.vm) qK, qD⟩, fun U hU hW => ⟨rfl, by rw [hU], by rw [hU]; exact hPc, va_K.moved hW.alike hK, hDc.weaken (fun _ _ _ _ => trivial)⟩⟩ rfl rfl hl.1 rfl (lv_room (Nat.le_of_ble_eq_true rfl)) d3 ⟨by rw [hR]; omega, by rw [hR]; omega⟩) hS (fun q _ h => hFc q h) hFc (fun u t H1 locs ht hvm hw hB hz1 hk1 hS => ?_)
  obtain ⟨q1, q2, q3, q4, q5, q6, q7, q8, hP1, hD1⟩ := hB
  rw [ht] at hP1
  obtain ⟨hP, hD⟩ := va_join (wr := ws) (w1 := [(q0, .inr (2, [.int 3, .int 240, .ref q1, .int 0, .ref q2, .ref q3, .ref q4, .ref q5, .ref q6, .int 0, .ref q7, .int 0, .ref q8])), (q1, .inl (cy 1, 8, .inl (fun _ => 0))), (q2, .inl (cy 1, 5, .inl (fun _ => 0))), (q3, .inl (cy 1, 5, .inl (fun _ => 0))), (q4, .inl (cy 1, 5, .inl (fun _ => 0))), (q5, .inl (cy 1, 5, .inl (fun _ => 0))), (q6, .inl (cy 1, 5, .inl (fun _ => 0))), (q7, .inl (cy 1, 24, .inl (fun _ => 0))), (q8, .inl (cy 1, 120, .inl (fun _ => 0)))]) hP hD [ws.length] (List.range' 0 ws.length) (by simp) (range_at ws _) (va_nd_range _ 0) (fun a ha hb => by
    have h1 := List.mem_range'_1.mp ha
    have h2 : a = ws.length := by simpa using hb
    omega) hk1 hFc hP1 hD1
  have hh := vD_to (l := eI0) (f := (fun k => (nwA0 ad q0 q1 q2 q3 q4 q5 q6 q7 q8 k, eC cy (nwA0 ad q0 q1 q2 q3 q4 q5 q6 q7 q8) (zz (nwS ζ 20 0)) k))) (A := A) (by rw [nw_new0]; exact hD1.weaken (fun _ q _ h => hFc q.1 h))
  have hg : eGr ((dC, dI), cy, ad) ((dC, dI), cy, nwA0 ad q0 q1 q2 q3 q4 q5 q6 q7 q8) (xS X).heap.size := ⟨⟨rfl, rfl⟩, fun k hk => nwA0_off ad q0 q1 q2 q3 q4 q5 q6 q7 q8 (by omega), fun q hq => by
    rcases hq with ⟨j, hj, rfl⟩ | hq
    · by_cases hr : 20 ≤ j ∧ j ≤ 28
      · exact hAs _ (hh.2 j (eI0_in j (by omega) (by omega)))
      · exact Or.inl ⟨j, hj, nwA0_off ad q0 q1 q2 q3 q4 q5 q6 q7 q8 hr⟩
    · exact Or.inr hq⟩
  refine W.widen (k := kc + 9) (n := ks + 190) (by omega) (by omega) ?_
  have hfm : ws ++ [(q0, .inr (2, [.int 3, .int 240, .ref q1, .int 0, .ref q2, .ref q3, .ref q4, .ref q5, .ref q6, .int 0, .ref q7, .int 0, .ref q8])), (q1, .inl (cy 1, 8, .inl (fun _ => 0))), (q2, .inl (cy 1, 5, .inl (fun _ => 0))), (q3, .inl (cy 1, 5, .inl (fun _ => 0))), (q4, .inl (cy 1, 5, .inl (fun _ => 0))), (q5, .inl (cy 1, 5, .inl (fun _ => 0))), (q6, .inl (cy 1, 5, .inl (fun _ => 0))), (q7, .inl (cy 1, 24, .inl (fun _ => 0))), (q8, .inl (cy 1, 120, .inl (fun _ => 0)))] = (eCs (zz ζ) ++ eI0).map (fun k => (nwA0 ad q0 q1 q2 q3 q4 q5 q6 q7 q8 k, eC cy (nwA0 ad q0 q1 q2 q3 q4 q5 q6 q7 q8) (zz (nwS ζ 20 0)) k)) := by
    rw [List.map_append, nw_new0, hws]
    congr 1
    exact (List.map_congr_left (fun k hk => nw_old0 h0 hk)).symm
  rw [hfm] at hP hD
  have hP' : va_P (dC, dI) vwCl (eW ((dC, dI), cy, nwA0 ad q0 q1 q2 q3 q4 q5 q6 q7 q8) (zz (nwS ζ 20 0))) H1 := vP_map.mpr (fun k hk => vP_map.mp hP k (nw_mem0 hk))
  have hD' : va_D A (eW ((dC, dI), cy, nwA0 ad q0 q1 q2 q3 q4 q5 q6 q7 q8) (zz (nwS ζ 20 0))) := vD_of (eCs_nd _) (fun a ha b hb e => (vD_to hD).1 a (nw_mem0 ha) b (nw_mem0 hb) e) (fun a ha => (vD_to hD).2 a (nw_mem0 ha))
  exact k ((dC, dI), cy, nwA0 ad q0 q1 q2 q3 q4 q5 q6 q7 q8) hg H1 locs la hP' hD' hS (eLv_gr hg hn2 hl)
def nwA1 (ad : Nat → Nat) (q0 q1 q2 q3 q4 q5 q6 q7 q8 k : Nat) : Nat := if k = 29 then q0 else if k = 30 then q1 else if k = 31 then q2 else if k = 32 then q3 else if k = 33 then q4 else if k = 34 then q5 else if k = 35 then q6 else if k = 36 then q7 else if k = 37 then q8 else ad k
theorem nwA1_off (ad : Nat → Nat) (q0 q1 q2 q3 q4 q5 q6 q7 q8 : Nat) {k : Nat} (h : ¬ (29 ≤ k ∧ k ≤ 37)) : nwA1 ad q0 q1 q2 q3 q4 q5 q6 q7 q8 k = ad k := by
  unfold nwA1
  rw [if_neg (by omega), if_neg (by omega), if_neg (by omega), if_neg (by omega), if_neg (by omega), if_neg (by omega), if_neg (by omega), if_neg (by omega), if_neg (by omega)]
theorem nw_new1 (cy : Nat → ClassId) (ad : Nat → Nat) (q0 q1 q2 q3 q4 q5 q6 q7 q8 : Nat) (ζ : zSt) : eI1.map (fun k => (nwA1 ad q0 q1 q2 q3 q4 q5 q6 q7 q8 k, eC cy (nwA1 ad q0 q1 q2 q3 q4 q5 q6 q7 q8) (zz (nwS ζ 29 1)) k)) = [(q0, .inr (2, [.int 3, .int 240, .ref q1, .int 0, .ref q2, .ref q3, .ref q4, .ref q5, .ref q6, .int 0, .ref q7, .int 0, .ref q8])), (q1, .inl (cy 1, 8, .inl (fun _ => 0))), (q2, .inl (cy 1, 5, .inl (fun _ => 0))), (q3, .inl (cy 1, 5, .inl (fun _ => 0))), (q4, .inl (cy 1, 5, .inl (fun _ => 0))), (q5, .inl (cy 1, 5, .inl (fun _ => 0))), (q6, .inl (cy 1, 5, .inl (fun _ => 0))), (q7, .inl (cy 1, 24, .inl (fun _ => 0))), (q8, .inl (cy 1, 120, .inl (fun _ => 0)))] := rfl
theorem nw_mem1 {ζ : zSt} {k : Nat} (hk : k ∈ eCs (zz (nwS ζ 29 1))) : k ∈ eCs (zz ζ) ++ eI1 := by
  unfold eCs at hk ⊢
  have e : (zz (nwS ζ 29 1)).1 38 0 = (zz ζ).1 38 0 := rfl
  rw [e] at hk
  simp only [List.mem_append] at hk ⊢
  rcases hk with hk | hk | hk
  · exact Or.inl (Or.inl hk)
  · exact Or.inl (Or.inr (Or.inl hk))
  · split at hk
    · cases hk
    · exact Or.inr hk
theorem nw_old1 {cy : Nat → ClassId} {ad : Nat → Nat} {q0 q1 q2 q3 q4 q5 q6 q7 q8 : Nat} {ζ : zSt} (h0 : ζ.1 38 1 = 0) {k : Nat} (hk : k ∈ eCs (zz ζ)) : (nwA1 ad q0 q1 q2 q3 q4 q5 q6 q7 q8 k, eC cy (nwA1 ad q0 q1 q2 q3 q4 q5 q6 q7 q8) (zz (nwS ζ 29 1)) k) = (ad k, eC cy ad (zz ζ) k) := by
  have hr : ¬ (29 ≤ k ∧ k ≤ 37) := by
    have hc : eCs (zz ζ) = eL0 ++ ((if (zz ζ).1 38 0 = 0 then [] else eI0) ++ []) := by
      unfold eCs
      rw [show (zz ζ).1 38 1 = 0 by show iI (ζ.1 38 1) = 0; rw [h0]; rfl]
      rfl
    rw [hc] at hk
    have f1 : ∀ k ∈ eL0 ++ eI0, ¬ (29 ≤ k ∧ k ≤ 37) := by decide
    refine f1 k ?_
    simp only [List.mem_append, List.nil_append, List.append_nil] at hk ⊢
    rcases hk with hk | hk
    · exact Or.inl hk
    · split at hk
      · cases hk
      · exact Or.inr hk
  have hlt : k < 71 := eCs_lt hk
  rw [nwA1_off ad q0 q1 q2 q3 q4 q5 q6 q7 q8 hr]
  congr 1
  by_cases h38 : k = 38
  · subst h38
    rw [eC_a (t := 3) (n := 2) (g := eIm) rfl, eC_a (t := 3) (n := 2) (g := eIm) rfl]
    show Sum.inl (cy 3, 2, Sum.inr (Sum.inr (Sum.inr (Sum.inr (fun i => if (zz (nwS ζ 29 1)).1 38 i = 1 then some (nwA1 ad q0 q1 q2 q3 q4 q5 q6 q7 q8 (eIm i)) else none))))) = Sum.inl (cy 3, 2, Sum.inr (Sum.inr (Sum.inr (Sum.inr (fun i => if (zz ζ).1 38 i = 1 then some (ad (eIm i)) else none)))))
    congr 7
    funext j
    by_cases hj : j = 1
    · subst hj
      rw [if_neg (show ¬ (zz (nwS ζ 29 1)).1 38 1 = 1 from (show ¬ iI 2 = 1 by decide)), if_neg (show ¬ (zz ζ).1 38 1 = 1 from (show ¬ iI (ζ.1 38 1) = 1 by rw [h0]; decide))]
    · have e1 : (zz (nwS ζ 29 1)).1 38 j = (zz ζ).1 38 j := by
        show iI ((nwS ζ 29 1).1 38 j) = iI (ζ.1 38 j)
        rw [nwS_38 ζ (by omega), if_neg hj]
      have e2 : ¬ (29 ≤ eIm j ∧ eIm j ≤ 37) := by
        match j, hj with
        | 0, _ => decide
        | 1, hj => exact absurd rfl hj
        | j + 2, _ => exact (by decide : ¬ (29 ≤ 0 ∧ 0 ≤ 37))
      rw [e1, nwA1_off ad q0 q1 q2 q3 q4 q5 q6 q7 q8 e2]
  · exact eC_gr (lo := 29) (by omega) hlt hr h38 (by
      funext b
      show iI ((nwS ζ 29 1).1 k b) = iI (ζ.1 k b)
      rw [nwS_off ζ h38 hr]) rfl (fun j hj => nwA1_off ad q0 q1 q2 q3 q4 q5 q6 q7 q8 hj)
set_option maxHeartbeats 1000000 in
theorem zw_newH1 {X : eX} {B : eB} {A : Nat → Prop} {R : Room} {cc : ByteArray} {nL kc ks : Nat} {Q : State → Prop} {ζ : zSt} {pc : Nat} {ls : List (Option Value)} (C : CX X B A R RX6 cc nL kc ks) (d1 : decode cc pc = .ok (.new 9, 3)) (d2 : decode cc (pc + 3) = .ok (.dup, 1)) (d3 : decode cc (pc + 3 + 1) = .ok (.invokespecial 11, 3)) (hc : kc + 9 ≤ R.cells) (hs : ks + 190 ≤ R.slots) (hf : 1 + 1 ≤ R.frames ∧ 8 + (1 + 11) + 20 ≤ R.locals) (h0 : ζ.1 38 1 = 0) (hn2 : ∀ (i : Nat) (v : Value), ls[i]? = some (some v) → eNi v) (hAs : ∀ q, A q → eAA B (xS X).heap.size q)
    (k : ∀ B', eGr B B' (xS X).heap.size → ZW X B' A nL (kc + 9) (ks + 190) Q (nwS ζ 29 1) (pc + 7) ls [.ref 29]) : ZW X B A nL kc ks Q ζ pc ls [] := by
  intro H locs la hP hD hS hl
  obtain ⟨⟨dC, dI⟩, cy, ad⟩ := B
  have hts := C.2.2.2.2.1
  have hA : ∀ q, (xS X).heap.size ≤ q → A q := fun q h => C.2.2.2.2.2.2.1 q (Or.inr h)
  have hK : va_K (dC, dI) vwCl (eT cy) (xS X) := C.2.2.2.2.2.1
  have hR := C.2.2.2.2.2.2.2.2.2.2
  obtain ⟨ws, hws⟩ : ∃ ws, ws = eW ((dC, dI), cy, ad) (zz ζ) := ⟨_, rfl⟩
  have hP : va_P (dC, dI) vwCl ws H := by rw [hws]; exact hP
  have hD : va_D A ws := by rw [hws]; exact hD
  refine va_new (ci := 2) (fs := [.int 0, .int 0, .null, .int 0, .null, .null, .null, .null, .null, .int 0, .null, .int 0, .null]) (C := RX2) (T := TX2) (N := 13) C.1 C.2.1 hts (iq2 _ rfl) tyX2 tyX2_ok C.2.2.2.1 (hts _ wl_X6_9) (hts _ wn_X2) (hts _ wi_X2) hK hP hD hS hA rfl (fun j hj => by rcases (show j = 0 ∨ j = 1 ∨ j = 2 ∨ j = 3 ∨ j = 4 ∨ j = 5 ∨ j = 6 ∨ j = 7 ∨ j = 8 ∨ j = 9 ∨ j = 10 ∨ j = 11 ∨ j = 12 by omega) with rfl | rfl | rfl | rfl | rfl | rfl | rfl | rfl | rfl | rfl | rfl | rfl | rfl <;> rfl) (by rw [hR]; omega) (by rw [hR]; omega) d1 (fun q0 H hP hD hS => ?_)
  refine lv_dup C.1 C.2.1 d2 rfl ?_
  have hPc := hP.sub (ws' := [(q0, .inr (2, [.int 0, .int 0, .null, .int 0, .null, .null, .null, .null, .null, .int 0, .null, .int 0, .null]))]) [ws.length] (by simp)
  have hDc := hD.sub (ws' := [(q0, .inr (2, [.int 0, .int 0, .null, .int 0, .null, .null, .null, .null, .null, .int 0, .null, .int 0, .null]))]) [ws.length] rfl (by simp)
  have hFc := va_free (wc := [(q0, .inr (2, [.int 0, .int 0, .null, .int 0, .null, .null, .null, .null, .null, .int 0, .null, .int 0, .null]))]) hD hS hA [ws.length] (by simp)
  refine va_callv (va_runIN (As := []) (rest := [.ref q0]) ⟨C.1, C.2.1, C.2.2.1, C.2.2.2.1, hts⟩ (c_X2_init (xLa X) dC dI cy q0 H.size) ⟨va_cnB 0 hts (eGoodIn wk_X2) rfl rfl rfl C.2.2.2.2.2.2.2.1.2.2.2.2.2 (hts _ wi_X2) ⟨by decide +kernel, by decide +kernel, by decide +kernel⟩ (by rw [hR]; exact hf), rfl, hts _ wm_X2⟩ ⟨fun a U g mk q => by obtain ⟨q0, q1, qP, qK, qD⟩ := q; exact ⟨q0, q1, qP, va_K.moved (u := U) (U := U.calling g mk a) (Vm.Alike.refl U.vm) qK, qD⟩, fun U hU hW => ⟨rfl, by rw [hU], by rw [hU]; exact hPc, va_K.moved hW.alike hK, hDc.weaken (fun _ _ _ _ => trivial)⟩⟩ rfl rfl hl.1 rfl (lv_room (Nat.le_of_ble_eq_true rfl)) d3 ⟨by rw [hR]; omega, by rw [hR]; omega⟩) hS (fun q _ h => hFc q h) hFc (fun u t H1 locs ht hvm hw hB hz1 hk1 hS => ?_)
  obtain ⟨q1, q2, q3, q4, q5, q6, q7, q8, hP1, hD1⟩ := hB
  rw [ht] at hP1
  obtain ⟨hP, hD⟩ := va_join (wr := ws) (w1 := [(q0, .inr (2, [.int 3, .int 240, .ref q1, .int 0, .ref q2, .ref q3, .ref q4, .ref q5, .ref q6, .int 0, .ref q7, .int 0, .ref q8])), (q1, .inl (cy 1, 8, .inl (fun _ => 0))), (q2, .inl (cy 1, 5, .inl (fun _ => 0))), (q3, .inl (cy 1, 5, .inl (fun _ => 0))), (q4, .inl (cy 1, 5, .inl (fun _ => 0))), (q5, .inl (cy 1, 5, .inl (fun _ => 0))), (q6, .inl (cy 1, 5, .inl (fun _ => 0))), (q7, .inl (cy 1, 24, .inl (fun _ => 0))), (q8, .inl (cy 1, 120, .inl (fun _ => 0)))]) hP hD [ws.length] (List.range' 0 ws.length) (by simp) (range_at ws _) (va_nd_range _ 0) (fun a ha hb => by
    have h1 := List.mem_range'_1.mp ha
    have h2 : a = ws.length := by simpa using hb
    omega) hk1 hFc hP1 hD1
  have hh := vD_to (l := eI1) (f := (fun k => (nwA1 ad q0 q1 q2 q3 q4 q5 q6 q7 q8 k, eC cy (nwA1 ad q0 q1 q2 q3 q4 q5 q6 q7 q8) (zz (nwS ζ 29 1)) k))) (A := A) (by rw [nw_new1]; exact hD1.weaken (fun _ q _ h => hFc q.1 h))
  have hg : eGr ((dC, dI), cy, ad) ((dC, dI), cy, nwA1 ad q0 q1 q2 q3 q4 q5 q6 q7 q8) (xS X).heap.size := ⟨⟨rfl, rfl⟩, fun k hk => nwA1_off ad q0 q1 q2 q3 q4 q5 q6 q7 q8 (by omega), fun q hq => by
    rcases hq with ⟨j, hj, rfl⟩ | hq
    · by_cases hr : 29 ≤ j ∧ j ≤ 37
      · exact hAs _ (hh.2 j (eI1_in j (by omega) (by omega)))
      · exact Or.inl ⟨j, hj, nwA1_off ad q0 q1 q2 q3 q4 q5 q6 q7 q8 hr⟩
    · exact Or.inr hq⟩
  refine W.widen (k := kc + 9) (n := ks + 190) (by omega) (by omega) ?_
  have hfm : ws ++ [(q0, .inr (2, [.int 3, .int 240, .ref q1, .int 0, .ref q2, .ref q3, .ref q4, .ref q5, .ref q6, .int 0, .ref q7, .int 0, .ref q8])), (q1, .inl (cy 1, 8, .inl (fun _ => 0))), (q2, .inl (cy 1, 5, .inl (fun _ => 0))), (q3, .inl (cy 1, 5, .inl (fun _ => 0))), (q4, .inl (cy 1, 5, .inl (fun _ => 0))), (q5, .inl (cy 1, 5, .inl (fun _ => 0))), (q6, .inl (cy 1, 5, .inl (fun _ => 0))), (q7, .inl (cy 1, 24, .inl (fun _ => 0))), (q8, .inl (cy 1, 120, .inl (fun _ => 0)))] = (eCs (zz ζ) ++ eI1).map (fun k => (nwA1 ad q0 q1 q2 q3 q4 q5 q6 q7 q8 k, eC cy (nwA1 ad q0 q1 q2 q3 q4 q5 q6 q7 q8) (zz (nwS ζ 29 1)) k)) := by
    rw [List.map_append, nw_new1, hws]
    congr 1
    exact (List.map_congr_left (fun k hk => nw_old1 h0 hk)).symm
  rw [hfm] at hP hD
  have hP' : va_P (dC, dI) vwCl (eW ((dC, dI), cy, nwA1 ad q0 q1 q2 q3 q4 q5 q6 q7 q8) (zz (nwS ζ 29 1))) H1 := vP_map.mpr (fun k hk => vP_map.mp hP k (nw_mem1 hk))
  have hD' : va_D A (eW ((dC, dI), cy, nwA1 ad q0 q1 q2 q3 q4 q5 q6 q7 q8) (zz (nwS ζ 29 1))) := vD_of (eCs_nd _) (fun a ha b hb e => (vD_to hD).1 a (nw_mem1 ha) b (nw_mem1 hb) e) (fun a ha => (vD_to hD).2 a (nw_mem1 ha))
  exact k ((dC, dI), cy, nwA1 ad q0 q1 q2 q3 q4 q5 q6 q7 q8) hg H1 locs la hP' hD' hS (eLv_gr hg hn2 hl)
section Img
variable {l : Launch} {B : eB} {ζ : zSt}
theorem ni_ls {w : Int} : ∀ (i : Nat) (v : Value), ([some (.ref 0), some (zi w), some .null] : List (Option Value))[i]? = some (some v) → eNi v := by
  intro i v h
  match i, h with
  | 0, h => cases h; exact (by decide : ¬ (20 ≤ 0 ∧ 0 ≤ 37))
  | 1, h => cases h; trivial
  | 2, h => cases h; trivial
  | i + 3, h => simp at h
theorem run_X6_image_bad {w : Int} (hw : -2147483648 ≤ w ∧ w ≤ 2147483647) (h : ¬ (0 ≤ w ∧ w ≤ 1)) : zRunG l B mX6_imageA [.ref 0, zi w] ζ (some (zi (-2))) (bdS ζ) := by
  refine runG_intro (M := mX6_imageA) (ls := [some (.ref 0), some (zi w), none]) (by decide) rfl (Nat.le_of_ble_eq_true rfl) ?_
  intro X A C hX hA hr hk
  replace C : CX X B A mX6_imageA.2.2.2.2 RX6 cX6_image 3 9 190 := CX.grow C eGr.rf (Nat.le_refl 9) (Nat.le_refl 190)
  refine ww_widen (k := 9) (n := 190) (Nat.zero_le _) (Nat.zero_le _) ?_
  change ZW X B A 3 9 190 _ ζ 0 [some (.ref 0), some (zi w), none] []
  refine zw_iload_n (i := 1) (nx := 1) C dX6_image_0 rfl rfl rfl ?_
  refine zw_iconst (nx := 2) C dX6_image_1 rfl ?_
  refine zw_cS21 (nx := 5) C dX6_image_2 rfl csX6_95 ⟨Nat.le_of_ble_eq_true rfl, Nat.le_of_ble_eq_true rfl⟩ (Nat.le_of_ble_eq_true rfl) (run_X6_within_f hw (by omega) h) ?_
  refine zw_if_ne (tgt := 15) (nx := 8) C dX6_image_5 rfl rfl (by omega) (fun h5 => by exfalso; omega) (fun h5 => ?_)
  refine zw_aload_n (i := 0) (nx := 9) C dX6_image_8 rfl rfl rfl ?_
  refine zw_bipush (v := -2) (nx := 11) C dX6_image_9 (by decide) rfl ?_
  refine zw_cV11 (nx := 14) C dX6_image_11 rfl cvX6_71 rfl rfl ⟨Nat.le_of_ble_eq_true rfl, Nat.le_of_ble_eq_true rfl⟩ rfl rfl (Nat.le_of_ble_eq_true rfl) run_X6_bad ?_
  exact zw_iretG C hA eGr.rf hr hk dX6_image_14 rfl rfl
theorem run_X6_image_h0 (h : ζ.1 38 0 = 1) : zRunG l B mX6_imageA [.ref 0, zi 0] ζ (some (zi 1)) (cpS ζ 20 1) := by
  refine runG_intro (M := mX6_imageA) (ls := [some (.ref 0), some (zi 0), none]) (by decide) rfl (Nat.le_of_ble_eq_true rfl) ?_
  intro X A C hX hA hr hk
  replace C : CX X B A mX6_imageA.2.2.2.2 RX6 cX6_image 3 9 190 := CX.grow C eGr.rf (Nat.le_refl 9) (Nat.le_refl 190)
  refine ww_widen (k := 9) (n := 190) (Nat.zero_le _) (Nat.zero_le _) ?_
  change ZW X B A 3 9 190 _ ζ 0 [some (.ref 0), some (zi 0), none] []
  refine zw_iload_n (i := 1) (nx := 1) C dX6_image_0 rfl rfl rfl ?_
  refine zw_iconst (nx := 2) C dX6_image_1 rfl ?_
  refine zw_cS21 (nx := 5) C dX6_image_2 rfl csX6_95 ⟨Nat.le_of_ble_eq_true rfl, Nat.le_of_ble_eq_true rfl⟩ (Nat.le_of_ble_eq_true rfl) (run_X6_within_t (by omega) (by omega)) ?_
  refine zw_if_ne (tgt := 15) (nx := 8) C dX6_image_5 rfl rfl (by omega) (fun h5 => ?_) (fun h5 => by exfalso; omega)
  refine zw_aload_n (i := 0) (nx := 16) C dX6_image_15 rfl rfl rfl ?_
  refine zw_getr (nx := 19) C dX6_image_16 rfl flX6_19 iq5 rfl rfl rfl rfl ?_
  refine zw_iload_n (i := 1) (nx := 20) C dX6_image_19 rfl rfl rfl ?_
  refine zw_aald1 (0) (nx := 21) C dX6_image_20 rfl rfl rfl rfl (by omega) h ?_
  refine zw_ast2 (nx := 22) C dX6_image_21 rfl (Nat.le_of_ble_eq_true rfl) rfl ?_
  refine zw_aload_n (i := 2) (nx := 23) C dX6_image_22 rfl rfl rfl ?_
  refine zw_ifnn (nx := 41) C dX6_image_23 rfl ?_
  have hp := hp_of h
  change ZW X B A 3 9 190 _ ζ 41 [some (.ref 0), some (zi 0), some (.ref 20)] []
  refine zw_aload_n (i := 2) (nx := 42) C dX6_image_41 rfl rfl rfl ?_
  refine zw_aload_n (i := 0) (nx := 43) C dX6_image_42 rfl rfl rfl ?_
  refine zw_getr (nx := 46) C dX6_image_43 rfl flX6_12 iq5 (by first | rfl | exact eIn_0 rfl hp) rfl rfl rfl ?_
  refine zw_cV10 (nx := 49) C dX6_image_46 rfl cvX6_123 rfl rfl ⟨Nat.le_of_ble_eq_true rfl, Nat.le_of_ble_eq_true rfl⟩ (by first | rfl | exact eIn_0 rfl hp) rfl (Nat.le_of_ble_eq_true rfl) (run_X2_copyOf_20_1 hp) ?_
  refine zw_iconst (nx := 50) C dX6_image_49 rfl ?_
  exact zw_iretG C hA eGr.rf hr hk dX6_image_50 rfl rfl
theorem run_X6_image_n0 (h : ζ.1 38 0 = 0) : zRunG l B mX6_imageA [.ref 0, zi 0] ζ (some (zi 1)) (cpS (zU (nwS ζ 20 0) 38 0 1) 20 1) := by
  refine runG_intro (M := mX6_imageA) (ls := [some (.ref 0), some (zi 0), none]) (by decide) rfl (Nat.le_of_ble_eq_true rfl) ?_
  intro X A C hX hA hr hk
  replace C : CX X B A mX6_imageA.2.2.2.2 RX6 cX6_image 3 0 0 := C
  change ZW X B A 3 0 0 _ ζ 0 [some (.ref 0), some (zi 0), none] []
  refine zw_iload_n (i := 1) (nx := 1) C dX6_image_0 rfl rfl rfl ?_
  refine zw_iconst (nx := 2) C dX6_image_1 rfl ?_
  refine zw_cS21 (nx := 5) C dX6_image_2 rfl csX6_95 ⟨Nat.le_of_ble_eq_true rfl, Nat.le_of_ble_eq_true rfl⟩ (Nat.le_of_ble_eq_true rfl) (run_X6_within_t (by omega) (by omega)) ?_
  refine zw_if_ne (tgt := 15) (nx := 8) C dX6_image_5 rfl rfl (by omega) (fun h5 => ?_) (fun h5 => by exfalso; omega)
  refine zw_aload_n (i := 0) (nx := 16) C dX6_image_15 rfl rfl rfl ?_
  refine zw_getr (nx := 19) C dX6_image_16 rfl flX6_19 iq5 rfl rfl rfl rfl ?_
  refine zw_iload_n (i := 1) (nx := 20) C dX6_image_19 rfl rfl rfl ?_
  refine zw_aald0 (0) (nx := 21) C dX6_image_20 rfl rfl rfl rfl (by omega) h ?_
  refine zw_ast2N (nx := 22) C dX6_image_21 rfl (Nat.le_of_ble_eq_true rfl) rfl ?_
  refine zw_aload_nN (i := 2) (nx := 23) C dX6_image_22 rfl rfl rfl ?_
  refine zw_ifnnN (nx := 26) C dX6_image_23 rfl ?_
  refine zw_newH0 C dX6_image_26 dX6_image_29 dX6_image_30 (Nat.le_refl 9) (Nat.le_refl 190) ⟨Nat.le_of_ble_eq_true rfl, Nat.le_of_ble_eq_true rfl⟩ h ni_ls (fun q hq => hA ▸ hq) (fun B' hg => ?_)
  replace C : CX X B' A mX6_imageA.2.2.2.2 RX6 cX6_image 3 9 190 := CX.grow C hg (Nat.le_refl 9) (Nat.le_refl 190)
  change ZW X B' A 3 9 190 _ (nwS ζ 20 0) 33 [some (.ref 0), some (zi 0), some .null] [.ref 20]
  have hp0 : ¬ (zz (nwS ζ 20 0)).1 38 0 = 0 := by
    show ¬ iI 2 = 0
    decide
  have hp : ¬ (zz (zU (nwS ζ 20 0) 38 0 1)).1 38 0 = 0 := by
    show ¬ iI 1 = 0
    decide
  refine zw_ast2 (nx := 34) C dX6_image_33 rfl (Nat.le_of_ble_eq_true rfl) rfl ?_
  refine zw_aload_n (i := 0) (nx := 35) C dX6_image_34 rfl rfl rfl ?_
  refine zw_getr (nx := 38) C dX6_image_35 rfl flX6_19 iq5 rfl rfl rfl rfl ?_
  refine zw_iload_n (i := 1) (nx := 39) C dX6_image_38 rfl rfl rfl ?_
  refine zw_aload_n (i := 2) (nx := 40) C dX6_image_39 rfl rfl rfl ?_
  refine zw_aast (0) (nx := 41) C dX6_image_40 rfl (by omega) rfl (eIn_0 rfl hp0) rfl rfl ?_
  refine zw_aload_n (i := 2) (nx := 42) C dX6_image_41 rfl rfl rfl ?_
  refine zw_aload_n (i := 0) (nx := 43) C dX6_image_42 rfl rfl rfl ?_
  refine zw_getr (nx := 46) C dX6_image_43 rfl flX6_12 iq5 (by first | rfl | exact eIn_0 rfl hp) rfl rfl rfl ?_
  refine zw_cV10 (nx := 49) C dX6_image_46 rfl cvX6_123 rfl rfl ⟨Nat.le_of_ble_eq_true rfl, Nat.le_of_ble_eq_true rfl⟩ (by first | rfl | exact eIn_0 rfl hp) rfl (Nat.le_of_ble_eq_true rfl) (run_X2_copyOf_20_1 hp) ?_
  refine zw_iconst (nx := 50) C dX6_image_49 rfl ?_
  exact zw_iretG C hA hg hr hk dX6_image_50 rfl rfl
theorem run_X6_image_h1 (h : ζ.1 38 1 = 1) : zRunG l B mX6_imageA [.ref 0, zi 1] ζ (some (zi 1)) (cpS ζ 29 1) := by
  refine runG_intro (M := mX6_imageA) (ls := [some (.ref 0), some (zi 1), none]) (by decide) rfl (Nat.le_of_ble_eq_true rfl) ?_
  intro X A C hX hA hr hk
  replace C : CX X B A mX6_imageA.2.2.2.2 RX6 cX6_image 3 9 190 := CX.grow C eGr.rf (Nat.le_refl 9) (Nat.le_refl 190)
  refine ww_widen (k := 9) (n := 190) (Nat.zero_le _) (Nat.zero_le _) ?_
  change ZW X B A 3 9 190 _ ζ 0 [some (.ref 0), some (zi 1), none] []
  refine zw_iload_n (i := 1) (nx := 1) C dX6_image_0 rfl rfl rfl ?_
  refine zw_iconst (nx := 2) C dX6_image_1 rfl ?_
  refine zw_cS21 (nx := 5) C dX6_image_2 rfl csX6_95 ⟨Nat.le_of_ble_eq_true rfl, Nat.le_of_ble_eq_true rfl⟩ (Nat.le_of_ble_eq_true rfl) (run_X6_within_t (by omega) (by omega)) ?_
  refine zw_if_ne (tgt := 15) (nx := 8) C dX6_image_5 rfl rfl (by omega) (fun h5 => ?_) (fun h5 => by exfalso; omega)
  refine zw_aload_n (i := 0) (nx := 16) C dX6_image_15 rfl rfl rfl ?_
  refine zw_getr (nx := 19) C dX6_image_16 rfl flX6_19 iq5 rfl rfl rfl rfl ?_
  refine zw_iload_n (i := 1) (nx := 20) C dX6_image_19 rfl rfl rfl ?_
  refine zw_aald1 (1) (nx := 21) C dX6_image_20 rfl rfl rfl rfl (by omega) h ?_
  refine zw_ast2 (nx := 22) C dX6_image_21 rfl (Nat.le_of_ble_eq_true rfl) rfl ?_
  refine zw_aload_n (i := 2) (nx := 23) C dX6_image_22 rfl rfl rfl ?_
  refine zw_ifnn (nx := 41) C dX6_image_23 rfl ?_
  have hp := hp_of h
  change ZW X B A 3 9 190 _ ζ 41 [some (.ref 0), some (zi 1), some (.ref 29)] []
  refine zw_aload_n (i := 2) (nx := 42) C dX6_image_41 rfl rfl rfl ?_
  refine zw_aload_n (i := 0) (nx := 43) C dX6_image_42 rfl rfl rfl ?_
  refine zw_getr (nx := 46) C dX6_image_43 rfl flX6_12 iq5 (by first | rfl | exact eIn_1 rfl hp) rfl rfl rfl ?_
  refine zw_cV10 (nx := 49) C dX6_image_46 rfl cvX6_123 rfl rfl ⟨Nat.le_of_ble_eq_true rfl, Nat.le_of_ble_eq_true rfl⟩ (by first | rfl | exact eIn_1 rfl hp) rfl (Nat.le_of_ble_eq_true rfl) (run_X2_copyOf_29_1 hp) ?_
  refine zw_iconst (nx := 50) C dX6_image_49 rfl ?_
  exact zw_iretG C hA eGr.rf hr hk dX6_image_50 rfl rfl
theorem run_X6_image_n1 (h : ζ.1 38 1 = 0) : zRunG l B mX6_imageA [.ref 0, zi 1] ζ (some (zi 1)) (cpS (zU (nwS ζ 29 1) 38 1 1) 29 1) := by
  refine runG_intro (M := mX6_imageA) (ls := [some (.ref 0), some (zi 1), none]) (by decide) rfl (Nat.le_of_ble_eq_true rfl) ?_
  intro X A C hX hA hr hk
  replace C : CX X B A mX6_imageA.2.2.2.2 RX6 cX6_image 3 0 0 := C
  change ZW X B A 3 0 0 _ ζ 0 [some (.ref 0), some (zi 1), none] []
  refine zw_iload_n (i := 1) (nx := 1) C dX6_image_0 rfl rfl rfl ?_
  refine zw_iconst (nx := 2) C dX6_image_1 rfl ?_
  refine zw_cS21 (nx := 5) C dX6_image_2 rfl csX6_95 ⟨Nat.le_of_ble_eq_true rfl, Nat.le_of_ble_eq_true rfl⟩ (Nat.le_of_ble_eq_true rfl) (run_X6_within_t (by omega) (by omega)) ?_
  refine zw_if_ne (tgt := 15) (nx := 8) C dX6_image_5 rfl rfl (by omega) (fun h5 => ?_) (fun h5 => by exfalso; omega)
  refine zw_aload_n (i := 0) (nx := 16) C dX6_image_15 rfl rfl rfl ?_
  refine zw_getr (nx := 19) C dX6_image_16 rfl flX6_19 iq5 rfl rfl rfl rfl ?_
  refine zw_iload_n (i := 1) (nx := 20) C dX6_image_19 rfl rfl rfl ?_
  refine zw_aald0 (1) (nx := 21) C dX6_image_20 rfl rfl rfl rfl (by omega) h ?_
  refine zw_ast2N (nx := 22) C dX6_image_21 rfl (Nat.le_of_ble_eq_true rfl) rfl ?_
  refine zw_aload_nN (i := 2) (nx := 23) C dX6_image_22 rfl rfl rfl ?_
  refine zw_ifnnN (nx := 26) C dX6_image_23 rfl ?_
  refine zw_newH1 C dX6_image_26 dX6_image_29 dX6_image_30 (Nat.le_refl 9) (Nat.le_refl 190) ⟨Nat.le_of_ble_eq_true rfl, Nat.le_of_ble_eq_true rfl⟩ h ni_ls (fun q hq => hA ▸ hq) (fun B' hg => ?_)
  replace C : CX X B' A mX6_imageA.2.2.2.2 RX6 cX6_image 3 9 190 := CX.grow C hg (Nat.le_refl 9) (Nat.le_refl 190)
  change ZW X B' A 3 9 190 _ (nwS ζ 29 1) 33 [some (.ref 0), some (zi 1), some .null] [.ref 29]
  have hp0 : ¬ (zz (nwS ζ 29 1)).1 38 1 = 0 := by
    show ¬ iI 2 = 0
    decide
  have hp : ¬ (zz (zU (nwS ζ 29 1) 38 1 1)).1 38 1 = 0 := by
    show ¬ iI 1 = 0
    decide
  refine zw_ast2 (nx := 34) C dX6_image_33 rfl (Nat.le_of_ble_eq_true rfl) rfl ?_
  refine zw_aload_n (i := 0) (nx := 35) C dX6_image_34 rfl rfl rfl ?_
  refine zw_getr (nx := 38) C dX6_image_35 rfl flX6_19 iq5 rfl rfl rfl rfl ?_
  refine zw_iload_n (i := 1) (nx := 39) C dX6_image_38 rfl rfl rfl ?_
  refine zw_aload_n (i := 2) (nx := 40) C dX6_image_39 rfl rfl rfl ?_
  refine zw_aast (1) (nx := 41) C dX6_image_40 rfl (by omega) rfl (eIn_1 rfl hp0) rfl rfl ?_
  refine zw_aload_n (i := 2) (nx := 42) C dX6_image_41 rfl rfl rfl ?_
  refine zw_aload_n (i := 0) (nx := 43) C dX6_image_42 rfl rfl rfl ?_
  refine zw_getr (nx := 46) C dX6_image_43 rfl flX6_12 iq5 (by first | rfl | exact eIn_1 rfl hp) rfl rfl rfl ?_
  refine zw_cV10 (nx := 49) C dX6_image_46 rfl cvX6_123 rfl rfl ⟨Nat.le_of_ble_eq_true rfl, Nat.le_of_ble_eq_true rfl⟩ (by first | rfl | exact eIn_1 rfl hp) rfl (Nat.le_of_ble_eq_true rfl) (run_X2_copyOf_29_1 hp) ?_
  refine zw_iconst (nx := 50) C dX6_image_49 rfl ?_
  exact zw_iretG C hA hg hr hk dX6_image_50 rfl rfl
end Img
