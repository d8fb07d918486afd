/-! THE ENGINE, 2: contexts, the judgement WW, a lemma an instruction (printed by wip/gen/mkengine.py) -/
abbrev eX : Type := Program × Launch × Env × Room × State × MethodId × Array Value × List Frame × Method × Code
abbrev xP (X : eX) := X.1
abbrev xLa (X : eX) := X.2.1
abbrev xE (X : eX) := X.2.2.1
abbrev xR (X : eX) := X.2.2.2.1
abbrev xS (X : eX) := X.2.2.2.2.1
abbrev xM (X : eX) := X.2.2.2.2.2.1
abbrev xArgs (X : eX) := X.2.2.2.2.2.2.1
abbrev xBel (X : eX) := X.2.2.2.2.2.2.2.1
abbrev xMeth (X : eX) := X.2.2.2.2.2.2.2.2.1
abbrev xC (X : eX) := X.2.2.2.2.2.2.2.2.2
def eWm (X : eX) (H : Heap) (locs : List Loc) (kc ks : Nat) (Q : State → Prop) (g : JFrame) : Prop :=
  W (xP X) (xLa X) (xE X) (xR X) (xS X) (xM X) (xArgs X) (xBel X) (xMeth X) (xC X) H locs kc ks Q g
def eLv (ad : Nat → Nat) (la : Array Slot) (nL : Nat) (ls : List (Option Value)) : Prop := la.size = nL ∧ lv_wf la ∧ ∀ (i : Nat) (v : Value), ls[i]? = some (some v) → la[i]? = some (.val (eV ad v))
/-- the String constants of the text, by their places: cells 1000 .., their bytes 1100 .. -/
def eLen : List Nat := [4, 4, 7, 3, 4]
def eByt : List (List Int32) := [[104, 105, 108, 108], [100, 97, 114, 107], [104, 101, 105, 103, 104, 116, 115], [111, 110, 101], [115, 101, 97, 116]]
def eS (ad : Nat → Nat) (A : Nat → Prop) (U : State) (H : Heap) : Prop :=
  vk_S 5 eLen eByt (fun i => ad (1000 + i)) (fun i => ad (1100 + i)) A U H ∧
  (vk_R "EclipseSeats$Text" 44 "hill" (ad 1000) U ∧ vk_R "EclipseSeats$Text" 54 "dark" (ad 1001) U ∧ vk_R "EclipseSeats$Text" 59 "heights" (ad 1002) U ∧ vk_R "EclipseSeats$Text" 64 "one" (ad 1003) U ∧ vk_R "EclipseSeats$Text" 69 "seat" (ad 1004) U) ∧
  va_Z "java/lang/String" "COMPACT_STRINGS" "Z" (.int 1) A U H ∧ va_Zq "jdk/internal/util/Preconditions" "SIOOBE_FORMATTER" "Ljava/util/function/BiFunction;" A U H ∧ va_Nw (.methodLinkNest "EclipseSeats$Hill" 64 yX6_darkFrom "EclipseSeats") U ∧ va_Nw (.methodLinkNest "EclipseSeats" 11 yX2_init "EclipseSeats") U
def CX (X : eX) (B : eB) (A : Nat → Prop) (R : Room) (own : String) (cc : ByteArray) (nL kc ks : Nat) : Prop :=
  (xP X).tables.exec = Jvm.exec ∧ (xC X).code = cc ∧ (xC X).maxLocals = nL ∧ (xS X).vm.findClass own = some (xM X).cls ∧ (∀ w ∈ eTb, w.before (xArgs X) (xS X) = true) ∧ va_K B.1 vwCl (eT B.2.1) (xS X) ∧ (∀ q, eAA B (xS X).heap.size q → A q) ∧ eS B.2.2 A (xS X) (xS X).heap ∧ kc ≤ R.cells ∧ ks ≤ R.slots ∧ xR X = R
def WW (X : eX) (B : eB) (A : Nat → Prop) (nL kc ks : Nat) (Q : State → Prop) (σ : eSt) (pc : Nat) (ls : List (Option Value)) (st : List Value) : Prop :=
  ∀ (H : Heap) (locs : List Loc) (la : Array Slot), va_P B.1 vwCl (eW B σ) H → va_D A (eW B σ) → va_S A (xS X).heap H locs → eLv B.2.2 la nL ls → eWm X H locs kc ks Q (F0 (xM X) pc la (st.map (eV B.2.2)))
/-- fewer locals known -/
theorem ww_weak {X : eX} {B : eB} {A : Nat → Prop} {nL kc ks : Nat} {Q : State → Prop} {σ : eSt} {pc : Nat} {ls ls' : List (Option Value)} {st : List Value} (h : ∀ (i : Nat) (v : Value), ls'[i]? = some (some v) → ls[i]? = some (some v)) (k : WW X B A nL kc ks Q σ pc ls' st) : WW X B A nL kc ks Q σ pc ls st :=
  fun H locs la hP hD hS hl => k H locs la hP hD hS ⟨hl.1, hl.2.1, fun i v hi => hl.2.2 i v (h i v hi)⟩
section EI
variable {X : eX} {B : eB} {A : Nat → Prop} {R : Room} {own : String} {cc : ByteArray} {nL kc ks : Nat} {Q : State → Prop} {σ : eSt} {pc nx : Nat} {ls : List (Option Value)} {st : List Value}

theorem ww_iconst {n : Int} {v : Int32} (C : CX X B A R own cc nL kc ks) (d : decode cc pc = .ok (.iconst n, 1)) (hv : Int32.ofInt n = v) (hn : pc + 1 = nx) (k : WW X B A nL kc ks Q σ nx ls (.int v :: st)) : WW X B A nL kc ks Q σ pc ls st := by
  subst hn
  intro H locs la hP hD hS hl
  exact lv_iconst C.1 C.2.1 d hv (k H locs la hP hD hS hl)
theorem ww_bipush {n : Int} {v : Int32} (C : CX X B A R own cc nL kc ks) (d : decode cc pc = .ok (.bipush n, 2)) (hv : (Int8.ofInt n).toInt32 = v) (hn : pc + 2 = nx) (k : WW X B A nL kc ks Q σ nx ls (.int v :: st)) : WW X B A nL kc ks Q σ pc ls st := by
  subst hn
  intro H locs la hP hD hS hl
  exact lv_bipush C.1 C.2.1 d hv (k H locs la hP hD hS hl)
theorem ww_sipush {n : Int} {v : Int32} (C : CX X B A R own cc nL kc ks) (d : decode cc pc = .ok (.sipush n, 3)) (hv : (Int16.ofInt n).toInt32 = v) (hn : pc + 3 = nx) (k : WW X B A nL kc ks Q σ nx ls (.int v :: st)) : WW X B A nL kc ks Q σ pc ls st := by
  subst hn
  intro H locs la hP hD hS hl
  exact lv_sipush C.1 C.2.1 d hv (k H locs la hP hD hS hl)
theorem ww_lconst {n : Fin 2} {v : Int64} (C : CX X B A R own cc nL kc ks) (d : decode cc pc = .ok (.lconst n, 1)) (hv : Int64.ofNat (n : Nat) = v) (hn : pc + 1 = nx) (k : WW X B A nL kc ks Q σ nx ls (.long v :: st)) : WW X B A nL kc ks Q σ pc ls st := by
  subst hn
  intro H locs la hP hD hS hl
  exact lv_lconst C.1 C.2.1 d hv (k H locs la hP hD hS hl)
theorem ww_ldc {i : Nat} {v : Int32} (C : CX X B A R own cc nL kc ks) (d : decode cc pc = .ok (.ldc i, 2)) (hc : Cond.constant own i v ∈ eTb) (hn : pc + 2 = nx) (k : WW X B A nL kc ks Q σ nx ls (.int v :: st)) : WW X B A nL kc ks Q σ pc ls st := by
  subst hn
  intro H locs la hP hD hS hl
  exact lv_ldc C.1 C.2.1 C.2.2.2.1 (C.2.2.2.2.1 _ hc) d (k H locs la hP hD hS hl)
theorem ww_ldcw {i : Nat} {v : Int32} (C : CX X B A R own cc nL kc ks) (d : decode cc pc = .ok (.ldc_w i, 3)) (hc : Cond.constant own i v ∈ eTb) (hn : pc + 3 = nx) (k : WW X B A nL kc ks Q σ nx ls (.int v :: st)) : WW X B A nL kc ks Q σ pc ls st := by
  subst hn
  intro H locs la hP hD hS hl
  exact lv_ldcw C.1 C.2.1 C.2.2.2.1 (C.2.2.2.2.1 _ hc) d (k H locs la hP hD hS hl)
theorem ww_ldc2 {i : Nat} {v : Int64} (C : CX X B A R own cc nL kc ks) (d : decode cc pc = .ok (.ldc2_w i, 3)) (hc : Cond.constantLong own i v ∈ eTb) (hn : pc + 3 = nx) (k : WW X B A nL kc ks Q σ nx ls (.long v :: st)) : WW X B A nL kc ks Q σ pc ls st := by
  subst hn
  intro H locs la hP hD hS hl
  exact lv_ldc2 C.1 C.2.1 C.2.2.2.1 (C.2.2.2.2.1 _ hc) d (k H locs la hP hD hS hl)
theorem ww_iload_n {j : Fin 4} {i : Nat} {x : Int32} (C : CX X B A R own cc nL kc ks) (d : decode cc pc = .ok (.iload_n j, 1)) (hj : (j : Nat) = i) (h : ls[i]? = some (some (.int x))) (hn : pc + 1 = nx) (k : WW X B A nL kc ks Q σ nx ls (.int x :: st)) : WW X B A nL kc ks Q σ pc ls st := by
  subst hn
  intro H locs la hP hD hS hl
  exact lv_iload_n C.1 C.2.1 d hj (hl.2.2 _ _ h) (k H locs la hP hD hS hl)
theorem ww_iload {i : Nat} {x : Int32} (C : CX X B A R own cc nL kc ks) (d : decode cc pc = .ok (.iload i, 2)) (h : ls[i]? = some (some (.int x))) (hn : pc + 2 = nx) (k : WW X B A nL kc ks Q σ nx ls (.int x :: st)) : WW X B A nL kc ks Q σ pc ls st := by
  subst hn
  intro H locs la hP hD hS hl
  exact lv_iload C.1 C.2.1 d (hl.2.2 _ _ h) (k H locs la hP hD hS hl)
theorem ww_lload_n {j : Fin 4} {i : Nat} {x : Int64} (C : CX X B A R own cc nL kc ks) (d : decode cc pc = .ok (.lload_n j, 1)) (hj : (j : Nat) = i) (h : ls[i]? = some (some (.long x))) (hn : pc + 1 = nx) (k : WW X B A nL kc ks Q σ nx ls (.long x :: st)) : WW X B A nL kc ks Q σ pc ls st := by
  subst hn
  intro H locs la hP hD hS hl
  exact lv_lload_n C.1 C.2.1 d hj (hl.2.2 _ _ h) (k H locs la hP hD hS hl)
theorem ww_lload {i : Nat} {x : Int64} (C : CX X B A R own cc nL kc ks) (d : decode cc pc = .ok (.lload i, 2)) (h : ls[i]? = some (some (.long x))) (hn : pc + 2 = nx) (k : WW X B A nL kc ks Q σ nx ls (.long x :: st)) : WW X B A nL kc ks Q σ pc ls st := by
  subst hn
  intro H locs la hP hD hS hl
  exact lv_lload C.1 C.2.1 d (hl.2.2 _ _ h) (k H locs la hP hD hS hl)
theorem ww_aload_n {j : Fin 4} {i x : Nat} (C : CX X B A R own cc nL kc ks) (d : decode cc pc = .ok (.aload_n j, 1)) (hj : (j : Nat) = i) (h : ls[i]? = some (some (.ref x))) (hn : pc + 1 = nx) (k : WW X B A nL kc ks Q σ nx ls (.ref x :: st)) : WW X B A nL kc ks Q σ pc ls st := by
  subst hn
  intro H locs la hP hD hS hl
  exact lv_aload_n C.1 C.2.1 d hj (hl.2.2 _ _ h) (k H locs la hP hD hS hl)
theorem ww_aload {i x : Nat} (C : CX X B A R own cc nL kc ks) (d : decode cc pc = .ok (.aload i, 2)) (h : ls[i]? = some (some (.ref x))) (hn : pc + 2 = nx) (k : WW X B A nL kc ks Q σ nx ls (.ref x :: st)) : WW X B A nL kc ks Q σ pc ls st := by
  subst hn
  intro H locs la hP hD hS hl
  exact lv_aload C.1 C.2.1 d (hl.2.2 _ _ h) (k H locs la hP hD hS hl)
theorem ww_aload_nN {j : Fin 4} {i : Nat} (C : CX X B A R own cc nL kc ks) (d : decode cc pc = .ok (.aload_n j, 1)) (hj : (j : Nat) = i) (h : ls[i]? = some (some .null)) (hn : pc + 1 = nx) (k : WW X B A nL kc ks Q σ nx ls (.null :: st)) : WW X B A nL kc ks Q σ pc ls st := by
  subst hn
  intro H locs la hP hD hS hl
  exact lv_aload_nN C.1 C.2.1 d hj (hl.2.2 _ _ h) (k H locs la hP hD hS hl)
theorem ww_ifnnN {off : Int} (C : CX X B A R own cc nL kc ks) (d : decode cc pc = .ok (.ifnonnull off, 3)) (hn : pc + 3 = nx) (k : WW X B A nL kc ks Q σ nx ls st) : WW X B A nL kc ks Q σ pc ls (.null :: st) := by
  subst hn
  intro H locs la hP hD hS hl
  exact lv_ifnonnullN C.1 C.2.1 d (k H locs la hP hD hS hl)
theorem ww_ifnn {x : Nat} {off : Int} (C : CX X B A R own cc nL kc ks) (d : decode cc pc = .ok (.ifnonnull off, 3)) (ht : (pc : Int) + off = (nx : Int)) (k : WW X B A nL kc ks Q σ nx ls st) : WW X B A nL kc ks Q σ pc ls (.ref x :: st) := by
  intro H locs la hP hD hS hl
  exact lv_ifnonnull C.1 C.2.1 d ht (k H locs la hP hD hS hl)
theorem ww_iadd {x y : Int32} (C : CX X B A R own cc nL kc ks) (d : decode cc pc = .ok (.iadd, 1)) (hn : pc + 1 = nx) (k : WW X B A nL kc ks Q σ nx ls (.int (x + y) :: st)) : WW X B A nL kc ks Q σ pc ls (.int y :: .int x :: st) := by
  subst hn
  intro H locs la hP hD hS hl
  exact lv_iadd C.1 C.2.1 d (k H locs la hP hD hS hl)
theorem ww_isub {x y : Int32} (C : CX X B A R own cc nL kc ks) (d : decode cc pc = .ok (.isub, 1)) (hn : pc + 1 = nx) (k : WW X B A nL kc ks Q σ nx ls (.int (x - y) :: st)) : WW X B A nL kc ks Q σ pc ls (.int y :: .int x :: st) := by
  subst hn
  intro H locs la hP hD hS hl
  exact lv_isub C.1 C.2.1 d (k H locs la hP hD hS hl)
theorem ww_imul {x y : Int32} (C : CX X B A R own cc nL kc ks) (d : decode cc pc = .ok (.imul, 1)) (hn : pc + 1 = nx) (k : WW X B A nL kc ks Q σ nx ls (.int (x * y) :: st)) : WW X B A nL kc ks Q σ pc ls (.int y :: .int x :: st) := by
  subst hn
  intro H locs la hP hD hS hl
  exact lv_imul C.1 C.2.1 d (k H locs la hP hD hS hl)
theorem ww_iand {x y : Int32} (C : CX X B A R own cc nL kc ks) (d : decode cc pc = .ok (.iand, 1)) (hn : pc + 1 = nx) (k : WW X B A nL kc ks Q σ nx ls (.int (x &&& y) :: st)) : WW X B A nL kc ks Q σ pc ls (.int y :: .int x :: st) := by
  subst hn
  intro H locs la hP hD hS hl
  exact lv_iand C.1 C.2.1 d (k H locs la hP hD hS hl)
theorem ww_ior {x y : Int32} (C : CX X B A R own cc nL kc ks) (d : decode cc pc = .ok (.ior, 1)) (hn : pc + 1 = nx) (k : WW X B A nL kc ks Q σ nx ls (.int (x ||| y) :: st)) : WW X B A nL kc ks Q σ pc ls (.int y :: .int x :: st) := by
  subst hn
  intro H locs la hP hD hS hl
  exact lv_ior C.1 C.2.1 d (k H locs la hP hD hS hl)
theorem ww_ishl {x y : Int32} (C : CX X B A R own cc nL kc ks) (d : decode cc pc = .ok (.ishl, 1)) (hn : pc + 1 = nx) (k : WW X B A nL kc ks Q σ nx ls (.int (x <<< (y &&& 31)) :: st)) : WW X B A nL kc ks Q σ pc ls (.int y :: .int x :: st) := by
  subst hn
  intro H locs la hP hD hS hl
  exact lv_ishl C.1 C.2.1 d (k H locs la hP hD hS hl)
theorem ww_ishr {x y : Int32} (C : CX X B A R own cc nL kc ks) (d : decode cc pc = .ok (.ishr, 1)) (hn : pc + 1 = nx) (k : WW X B A nL kc ks Q σ nx ls (.int (x >>> (y &&& 31)) :: st)) : WW X B A nL kc ks Q σ pc ls (.int y :: .int x :: st) := by
  subst hn
  intro H locs la hP hD hS hl
  exact lv_ishr C.1 C.2.1 d (k H locs la hP hD hS hl)
theorem ww_idiv {x y : Int32} (C : CX X B A R own cc nL kc ks) (d : decode cc pc = .ok (.idiv, 1)) (hne : ¬ y = 0) (hn : pc + 1 = nx) (k : WW X B A nL kc ks Q σ nx ls (.int (x / y) :: st)) : WW X B A nL kc ks Q σ pc ls (.int y :: .int x :: st) := by
  subst hn
  intro H locs la hP hD hS hl
  exact lv_idiv C.1 C.2.1 d hne (k H locs la hP hD hS hl)
theorem ww_irem {x y : Int32} (C : CX X B A R own cc nL kc ks) (d : decode cc pc = .ok (.irem, 1)) (hne : ¬ y = 0) (hn : pc + 1 = nx) (k : WW X B A nL kc ks Q σ nx ls (.int (x - x / y * y) :: st)) : WW X B A nL kc ks Q σ pc ls (.int y :: .int x :: st) := by
  subst hn
  intro H locs la hP hD hS hl
  exact lv_irem C.1 C.2.1 d hne (k H locs la hP hD hS hl)
theorem ww_ladd {x y : Int64} (C : CX X B A R own cc nL kc ks) (d : decode cc pc = .ok (.ladd, 1)) (hn : pc + 1 = nx) (k : WW X B A nL kc ks Q σ nx ls (.long (x + y) :: st)) : WW X B A nL kc ks Q σ pc ls (.long y :: .long x :: st) := by
  subst hn
  intro H locs la hP hD hS hl
  exact lv_ladd C.1 C.2.1 d (k H locs la hP hD hS hl)
theorem ww_lmul {x y : Int64} (C : CX X B A R own cc nL kc ks) (d : decode cc pc = .ok (.lmul, 1)) (hn : pc + 1 = nx) (k : WW X B A nL kc ks Q σ nx ls (.long (x * y) :: st)) : WW X B A nL kc ks Q σ pc ls (.long y :: .long x :: st) := by
  subst hn
  intro H locs la hP hD hS hl
  exact lv_lmul C.1 C.2.1 d (k H locs la hP hD hS hl)
theorem ww_lsub {x y : Int64} (C : CX X B A R own cc nL kc ks) (d : decode cc pc = .ok (.lsub, 1)) (hn : pc + 1 = nx) (k : WW X B A nL kc ks Q σ nx ls (.long (x - y) :: st)) : WW X B A nL kc ks Q σ pc ls (.long y :: .long x :: st) := by
  subst hn
  intro H locs la hP hD hS hl
  exact lv_lsub C.1 C.2.1 d (k H locs la hP hD hS hl)
theorem ww_ldiv {x y : Int64} (C : CX X B A R own cc nL kc ks) (d : decode cc pc = .ok (.ldiv, 1)) (hne : ¬ y = 0) (hn : pc + 1 = nx) (k : WW X B A nL kc ks Q σ nx ls (.long (x / y) :: st)) : WW X B A nL kc ks Q σ pc ls (.long y :: .long x :: st) := by
  subst hn
  intro H locs la hP hD hS hl
  exact lv_ldiv C.1 C.2.1 d hne (k H locs la hP hD hS hl)
theorem ww_lrem {x y : Int64} (C : CX X B A R own cc nL kc ks) (d : decode cc pc = .ok (.lrem, 1)) (hne : ¬ y = 0) (hn : pc + 1 = nx) (k : WW X B A nL kc ks Q σ nx ls (.long (x - x / y * y) :: st)) : WW X B A nL kc ks Q σ pc ls (.long y :: .long x :: st) := by
  subst hn
  intro H locs la hP hD hS hl
  exact lv_lrem C.1 C.2.1 d hne (k H locs la hP hD hS hl)
theorem ww_i2l {x : Int32} (C : CX X B A R own cc nL kc ks) (d : decode cc pc = .ok (.i2l, 1)) (hn : pc + 1 = nx) (k : WW X B A nL kc ks Q σ nx ls (.long x.toInt64 :: st)) : WW X B A nL kc ks Q σ pc ls (.int x :: st) := by
  subst hn
  intro H locs la hP hD hS hl
  exact lv_i2l C.1 C.2.1 d rfl (k H locs la hP hD hS hl)
theorem ww_l2i {x : Int64} (C : CX X B A R own cc nL kc ks) (d : decode cc pc = .ok (.l2i, 1)) (hn : pc + 1 = nx) (k : WW X B A nL kc ks Q σ nx ls (.int x.toInt32 :: st)) : WW X B A nL kc ks Q σ pc ls (.long x :: st) := by
  subst hn
  intro H locs la hP hD hS hl
  exact lv_l2i C.1 C.2.1 d rfl (k H locs la hP hD hS hl)
theorem ww_i2b {x : Int32} (C : CX X B A R own cc nL kc ks) (d : decode cc pc = .ok (.i2b, 1)) (hn : pc + 1 = nx) (k : WW X B A nL kc ks Q σ nx ls (.int x.toInt8.toInt32 :: st)) : WW X B A nL kc ks Q σ pc ls (.int x :: st) := by
  subst hn
  intro H locs la hP hD hS hl
  exact lv_i2b C.1 C.2.1 d rfl (k H locs la hP hD hS hl)
theorem ww_i2c {x : Int32} (C : CX X B A R own cc nL kc ks) (d : decode cc pc = .ok (.i2c, 1)) (hn : pc + 1 = nx) (k : WW X B A nL kc ks Q σ nx ls (.int (x.toUInt32 % 65536).toInt32 :: st)) : WW X B A nL kc ks Q σ pc ls (.int x :: st) := by
  subst hn
  intro H locs la hP hD hS hl
  exact lv_i2c C.1 C.2.1 d rfl (k H locs la hP hD hS hl)
theorem ww_lcmp {x y : Int64} (C : CX X B A R own cc nL kc ks) (d : decode cc pc = .ok (.lcmp, 1)) (hn : pc + 1 = nx) (k : WW X B A nL kc ks Q σ nx ls (.int (lg_cmp x y) :: st)) : WW X B A nL kc ks Q σ pc ls (.long y :: .long x :: st) := by
  subst hn
  intro H locs la hP hD hS hl
  exact W.lcmp C.1 C.2.1 d (k H locs la hP hD hS hl)
theorem ww_dup {v : Value} (C : CX X B A R own cc nL kc ks) (d : decode cc pc = .ok (.dup, 1)) (hc : v.category = 1) (hn : pc + 1 = nx) (k : WW X B A nL kc ks Q σ nx ls (v :: v :: st)) : WW X B A nL kc ks Q σ pc ls (v :: st) := by
  subst hn
  intro H locs la hP hD hS hl
  exact lv_dup C.1 C.2.1 d ((eV_cat _ v).trans hc) (k H locs la hP hD hS hl)
theorem ww_pop {v : Value} (C : CX X B A R own cc nL kc ks) (d : decode cc pc = .ok (.pop, 1)) (hc : v.category = 1) (hn : pc + 1 = nx) (k : WW X B A nL kc ks Q σ nx ls st) : WW X B A nL kc ks Q σ pc ls (v :: st) := by
  subst hn
  intro H locs la hP hD hS hl
  exact lv_pop C.1 C.2.1 d ((eV_cat _ v).trans hc) (k H locs la hP hD hS hl)
theorem ww_dup2 {v w : Value} (C : CX X B A R own cc nL kc ks) (d : decode cc pc = .ok (.dup2, 1)) (hc : v.category = 1) (hc2 : w.category = 1) (hn : pc + 1 = nx) (k : WW X B A nL kc ks Q σ nx ls (v :: w :: v :: w :: st)) : WW X B A nL kc ks Q σ pc ls (v :: w :: st) := by
  subst hn
  intro H locs la hP hD hS hl
  exact lv_dup2_11 C.1 C.2.1 d ((eV_cat _ v).trans hc) ((eV_cat _ w).trans hc2) (k H locs la hP hD hS hl)
theorem ww_icmp_eq {x y : Int32} {off : Int} {tgt : Nat} (C : CX X B A R own cc nL kc ks) (d : decode cc pc = .ok (.if_icmp .eq off, 3)) (ht : (pc : Int) + off = (tgt : Int)) (hn : pc + 3 = nx) (kt : x = y → WW X B A nL kc ks Q σ tgt ls st) (kf : ¬ x = y → WW X B A nL kc ks Q σ nx ls st) : WW X B A nL kc ks Q σ pc ls (.int y :: .int x :: st) := by
  subst hn
  intro H locs la hP hD hS hl
  exact lv_icmp_eq C.1 C.2.1 d ht (fun q => kt q H locs la hP hD hS hl) (fun q => kf q H locs la hP hD hS hl)
theorem ww_if_eq {x : Int32} {off : Int} {tgt : Nat} (C : CX X B A R own cc nL kc ks) (d : decode cc pc = .ok (.ifCond .eq off, 3)) (ht : (pc : Int) + off = (tgt : Int)) (hn : pc + 3 = nx) (kt : x = 0 → WW X B A nL kc ks Q σ tgt ls st) (kf : ¬ x = 0 → WW X B A nL kc ks Q σ nx ls st) : WW X B A nL kc ks Q σ pc ls (.int x :: st) := by
  subst hn
  intro H locs la hP hD hS hl
  exact lv_if_eq C.1 C.2.1 d ht (fun q => kt q H locs la hP hD hS hl) (fun q => kf q H locs la hP hD hS hl)
theorem ww_icmp_ne {x y : Int32} {off : Int} {tgt : Nat} (C : CX X B A R own cc nL kc ks) (d : decode cc pc = .ok (.if_icmp .ne off, 3)) (ht : (pc : Int) + off = (tgt : Int)) (hn : pc + 3 = nx) (kt : ¬ x = y → WW X B A nL kc ks Q σ tgt ls st) (kf : x = y → WW X B A nL kc ks Q σ nx ls st) : WW X B A nL kc ks Q σ pc ls (.int y :: .int x :: st) := by
  subst hn
  intro H locs la hP hD hS hl
  exact lv_icmp_ne C.1 C.2.1 d ht (fun q => kt q H locs la hP hD hS hl) (fun q => kf q H locs la hP hD hS hl)
theorem ww_if_ne {x : Int32} {off : Int} {tgt : Nat} (C : CX X B A R own cc nL kc ks) (d : decode cc pc = .ok (.ifCond .ne off, 3)) (ht : (pc : Int) + off = (tgt : Int)) (hn : pc + 3 = nx) (kt : ¬ x = 0 → WW X B A nL kc ks Q σ tgt ls st) (kf : x = 0 → WW X B A nL kc ks Q σ nx ls st) : WW X B A nL kc ks Q σ pc ls (.int x :: st) := by
  subst hn
  intro H locs la hP hD hS hl
  exact lv_if_ne C.1 C.2.1 d ht (fun q => kt q H locs la hP hD hS hl) (fun q => kf q H locs la hP hD hS hl)
theorem ww_icmp_lt {x y : Int32} {off : Int} {tgt : Nat} (C : CX X B A R own cc nL kc ks) (d : decode cc pc = .ok (.if_icmp .lt off, 3)) (ht : (pc : Int) + off = (tgt : Int)) (hn : pc + 3 = nx) (kt : x < y → WW X B A nL kc ks Q σ tgt ls st) (kf : ¬ x < y → WW X B A nL kc ks Q σ nx ls st) : WW X B A nL kc ks Q σ pc ls (.int y :: .int x :: st) := by
  subst hn
  intro H locs la hP hD hS hl
  exact lv_icmp_lt C.1 C.2.1 d ht (fun q => kt q H locs la hP hD hS hl) (fun q => kf q H locs la hP hD hS hl)
theorem ww_if_lt {x : Int32} {off : Int} {tgt : Nat} (C : CX X B A R own cc nL kc ks) (d : decode cc pc = .ok (.ifCond .lt off, 3)) (ht : (pc : Int) + off = (tgt : Int)) (hn : pc + 3 = nx) (kt : x < 0 → WW X B A nL kc ks Q σ tgt ls st) (kf : ¬ x < 0 → WW X B A nL kc ks Q σ nx ls st) : WW X B A nL kc ks Q σ pc ls (.int x :: st) := by
  subst hn
  intro H locs la hP hD hS hl
  exact lv_if_lt C.1 C.2.1 d ht (fun q => kt q H locs la hP hD hS hl) (fun q => kf q H locs la hP hD hS hl)
theorem ww_icmp_ge {x y : Int32} {off : Int} {tgt : Nat} (C : CX X B A R own cc nL kc ks) (d : decode cc pc = .ok (.if_icmp .ge off, 3)) (ht : (pc : Int) + off = (tgt : Int)) (hn : pc + 3 = nx) (kt : y ≤ x → WW X B A nL kc ks Q σ tgt ls st) (kf : ¬ y ≤ x → WW X B A nL kc ks Q σ nx ls st) : WW X B A nL kc ks Q σ pc ls (.int y :: .int x :: st) := by
  subst hn
  intro H locs la hP hD hS hl
  exact lv_icmp_ge C.1 C.2.1 d ht (fun q => kt q H locs la hP hD hS hl) (fun q => kf q H locs la hP hD hS hl)
theorem ww_if_ge {x : Int32} {off : Int} {tgt : Nat} (C : CX X B A R own cc nL kc ks) (d : decode cc pc = .ok (.ifCond .ge off, 3)) (ht : (pc : Int) + off = (tgt : Int)) (hn : pc + 3 = nx) (kt : 0 ≤ x → WW X B A nL kc ks Q σ tgt ls st) (kf : ¬ 0 ≤ x → WW X B A nL kc ks Q σ nx ls st) : WW X B A nL kc ks Q σ pc ls (.int x :: st) := by
  subst hn
  intro H locs la hP hD hS hl
  exact lv_if_ge C.1 C.2.1 d ht (fun q => kt q H locs la hP hD hS hl) (fun q => kf q H locs la hP hD hS hl)
theorem ww_icmp_gt {x y : Int32} {off : Int} {tgt : Nat} (C : CX X B A R own cc nL kc ks) (d : decode cc pc = .ok (.if_icmp .gt off, 3)) (ht : (pc : Int) + off = (tgt : Int)) (hn : pc + 3 = nx) (kt : y < x → WW X B A nL kc ks Q σ tgt ls st) (kf : ¬ y < x → WW X B A nL kc ks Q σ nx ls st) : WW X B A nL kc ks Q σ pc ls (.int y :: .int x :: st) := by
  subst hn
  intro H locs la hP hD hS hl
  exact lv_icmp_gt C.1 C.2.1 d ht (fun q => kt q H locs la hP hD hS hl) (fun q => kf q H locs la hP hD hS hl)
theorem ww_if_gt {x : Int32} {off : Int} {tgt : Nat} (C : CX X B A R own cc nL kc ks) (d : decode cc pc = .ok (.ifCond .gt off, 3)) (ht : (pc : Int) + off = (tgt : Int)) (hn : pc + 3 = nx) (kt : 0 < x → WW X B A nL kc ks Q σ tgt ls st) (kf : ¬ 0 < x → WW X B A nL kc ks Q σ nx ls st) : WW X B A nL kc ks Q σ pc ls (.int x :: st) := by
  subst hn
  intro H locs la hP hD hS hl
  exact lv_if_gt C.1 C.2.1 d ht (fun q => kt q H locs la hP hD hS hl) (fun q => kf q H locs la hP hD hS hl)
theorem ww_icmp_le {x y : Int32} {off : Int} {tgt : Nat} (C : CX X B A R own cc nL kc ks) (d : decode cc pc = .ok (.if_icmp .le off, 3)) (ht : (pc : Int) + off = (tgt : Int)) (hn : pc + 3 = nx) (kt : x ≤ y → WW X B A nL kc ks Q σ tgt ls st) (kf : ¬ x ≤ y → WW X B A nL kc ks Q σ nx ls st) : WW X B A nL kc ks Q σ pc ls (.int y :: .int x :: st) := by
  subst hn
  intro H locs la hP hD hS hl
  exact lv_icmp_le C.1 C.2.1 d ht (fun q => kt q H locs la hP hD hS hl) (fun q => kf q H locs la hP hD hS hl)
theorem ww_if_le {x : Int32} {off : Int} {tgt : Nat} (C : CX X B A R own cc nL kc ks) (d : decode cc pc = .ok (.ifCond .le off, 3)) (ht : (pc : Int) + off = (tgt : Int)) (hn : pc + 3 = nx) (kt : x ≤ 0 → WW X B A nL kc ks Q σ tgt ls st) (kf : ¬ x ≤ 0 → WW X B A nL kc ks Q σ nx ls st) : WW X B A nL kc ks Q σ pc ls (.int x :: st) := by
  subst hn
  intro H locs la hP hD hS hl
  exact lv_if_le C.1 C.2.1 d ht (fun q => kt q H locs la hP hD hS hl) (fun q => kf q H locs la hP hD hS hl)
theorem ww_goto {off : Int} (C : CX X B A R own cc nL kc ks) (d : decode cc pc = .ok (.goto off, 3)) (ht : (pc : Int) + off = (nx : Int)) (k : WW X B A nL kc ks Q σ nx ls st) : WW X B A nL kc ks Q σ pc ls st := by
  intro H locs la hP hD hS hl
  exact lv_goto C.1 C.2.1 d ht (k H locs la hP hD hS hl)
theorem ww_tableOut {dflt lo hi : Int} {offs : Array Int} {len : Nat} {x : Int32} (C : CX X B A R own cc nL kc ks) (d : decode cc pc = .ok (.tableswitch dflt lo hi offs, len)) (h : x.toInt < lo ∨ hi < x.toInt) (ht : (pc : Int) + dflt = (nx : Int)) (k : WW X B A nL kc ks Q σ nx ls st) : WW X B A nL kc ks Q σ pc ls (.int x :: st) := by
  intro H locs la hP hD hS hl
  exact lv_tableOut C.1 C.2.1 d h ht (k H locs la hP hD hS hl)
theorem ww_tableIn {dflt lo hi : Int} {offs : Array Int} {len : Nat} {x : Int32} {off : Int} (C : CX X B A R own cc nL kc ks) (d : decode cc pc = .ok (.tableswitch dflt lo hi offs, len)) (h1 : ¬ x.toInt < lo) (h2 : ¬ hi < x.toInt) (ho : offs[(x.toInt - lo).toNat]? = some off) (ht : (pc : Int) + off = (nx : Int)) (k : WW X B A nL kc ks Q σ nx ls st) : WW X B A nL kc ks Q σ pc ls (.int x :: st) := by
  intro H locs la hP hD hS hl
  exact lv_tableIn C.1 C.2.1 d h1 h2 ho ht (k H locs la hP hD hS hl)
theorem ww_lookup {dflt : Int} {ps : Array (Int × Int)} {len : Nat} {x : Int32} {off : Int} (C : CX X B A R own cc nL kc ks) (d : decode cc pc = .ok (.lookupswitch dflt ps, len)) (hp : (ps.toList.zip (ps.toList.drop 1)).all (fun (a, next) => a.1 < next.1) = true) (ho : Op.lookupswitch.offset ps.toList dflt x.toInt = off) (ht : (pc : Int) + off = (nx : Int)) (k : WW X B A nL kc ks Q σ nx ls st) : WW X B A nL kc ks Q σ pc ls (.int x :: st) := by
  intro H locs la hP hD hS hl
  exact lv_lookup C.1 C.2.1 d hp ho ht (k H locs la hP hD hS hl)

/-- a store of a value of one slot, into the list of locals -/
theorem eLv_has {ad : Nat → Nat} {la : Array Slot} {nL : Nat} {ls : List (Option Value)} (h : eLv ad la nL ls) : lv_has la nL ((List.range ls.length).filterMap (fun i => (ls[i]?.join).map (fun v => (i, eV ad v)))) := by
  refine ⟨h.1, h.2.1, fun q hq => ?_⟩
  obtain ⟨i, -, hi⟩ := List.mem_filterMap.mp hq
  cases hj : ls[i]? with
  | none => rw [hj] at hi; simp at hi
  | some o =>
    cases o with
    | none => rw [hj] at hi; simp at hi
    | some v =>
      rw [hj] at hi
      simp at hi
      subst hi
      exact h.2.2 i v hj
/-- is it no value of two slots -/
def eOne (o : Option Value) : Bool := match o with
  | some v => v.category == 1
  | none => true
theorem eLv_mem {ad : Nat → Nat} {ls : List (Option Value)} {i : Nat} {v : Value} (h : ls[i]? = some (some v)) : (i, eV ad v) ∈ (List.range ls.length).filterMap (fun i => (ls[i]?.join).map (fun v => (i, eV ad v))) := by
  refine List.mem_filterMap.mpr ⟨i, List.mem_range.mpr (List.getElem?_eq_some_iff.mp h).1, ?_⟩
  rw [h]; rfl
theorem eLv_set1 {ad : Nat → Nat} {la' : Array Slot} {nL : Nat} {ls : List (Option Value)} {i : Nat} {v : Value} (hp : ∀ j, j + 1 = i → eOne (ls[j]?.join) = true) (h : lv_has la' nL ((i, eV ad v) :: ((List.range ls.length).filterMap (fun i => (ls[i]?.join).map (fun v => (i, eV ad v)))).filter (fun q => !(q.1 == i) && !(q.1 + 1 == i && q.2.category == 2)))) : eLv ad la' nL (ls.set i (some v)) := by
  refine ⟨h.1, h.2.1, fun j w hj => ?_⟩
  rw [List.getElem?_set] at hj
  by_cases e : i = j
  · subst e
    rw [if_pos rfl] at hj
    split at hj
    · have : v = w := by simpa using hj
      subst this
      exact h.2.2 _ List.mem_cons_self
    · cases hj
  · rw [if_neg e] at hj
    refine h.2.2 _ (List.mem_cons_of_mem _ (List.mem_filter.mpr ⟨eLv_mem hj, ?_⟩))
    have h1 : ¬ (j = i) := fun q => e q.symm
    by_cases e2 : j + 1 = i
    · have hw := hp j e2
      rw [hj] at hw
      have hw2 : w.category = 1 := eq_of_beq hw
      simp [h1, eV_cat, hw2]
    · simp [h1, e2]
theorem eLv_set2 {ad : Nat → Nat} {la' : Array Slot} {nL : Nat} {ls : List (Option Value)} {i : Nat} {v : Value} (hp : ∀ j, j + 1 = i → eOne (ls[j]?.join) = true) (h : lv_has la' nL ((i, eV ad v) :: ((List.range ls.length).filterMap (fun i => (ls[i]?.join).map (fun v => (i, eV ad v)))).filter (fun q => !(q.1 == i) && (!(q.1 == i + 1) && !(q.1 + 1 == i && q.2.category == 2))))) : eLv ad la' nL ((ls.set i (some v)).set (i + 1) none) := by
  refine ⟨h.1, h.2.1, fun j w hj => ?_⟩
  rw [List.getElem?_set] at hj
  by_cases e0 : i + 1 = j
  · rw [if_pos e0] at hj
    split at hj
    · simp at hj
    · cases hj
  rw [if_neg e0, List.getElem?_set] at hj
  by_cases e : i = j
  · subst e
    rw [if_pos rfl] at hj
    split at hj
    · have : v = w := by simpa using hj
      subst this
      exact h.2.2 _ List.mem_cons_self
    · cases hj
  · rw [if_neg e] at hj
    refine h.2.2 _ (List.mem_cons_of_mem _ (List.mem_filter.mpr ⟨eLv_mem hj, ?_⟩))
    have h1 : ¬ (j = i) := fun q => e q.symm
    have h2 : ¬ (j = i + 1) := fun q => e0 q.symm
    by_cases e2 : j + 1 = i
    · have hw := hp j e2
      rw [hj] at hw
      have hw2 : w.category = 1 := eq_of_beq hw
      simp [h1, h2, eV_cat, hw2]
    · simp [h1, h2, e2]
def eIst (cc : ByteArray) (pc nx i : Nat) : Prop := (∃ j : Fin 4, (j : Nat) = i ∧ decode cc pc = .ok (.istore_n j, 1) ∧ pc + 1 = nx) ∨ (decode cc pc = .ok (.istore i, 2) ∧ pc + 2 = nx)
def eLst (cc : ByteArray) (pc nx i : Nat) : Prop := (∃ j : Fin 4, (j : Nat) = i ∧ decode cc pc = .ok (.lstore_n j, 1) ∧ pc + 1 = nx) ∨ (decode cc pc = .ok (.lstore i, 2) ∧ pc + 2 = nx)
theorem eIst_n {j : Fin 4} {i : Nat} (d : decode cc pc = .ok (.istore_n j, 1)) (hj : (j : Nat) = i) (hn : pc + 1 = nx) : eIst cc pc nx i := Or.inl ⟨j, hj, d, hn⟩
theorem eIst_w {i : Nat} (d : decode cc pc = .ok (.istore i, 2)) (hn : pc + 2 = nx) : eIst cc pc nx i := Or.inr ⟨d, hn⟩
theorem eLst_n {j : Fin 4} {i : Nat} (d : decode cc pc = .ok (.lstore_n j, 1)) (hj : (j : Nat) = i) (hn : pc + 1 = nx) : eLst cc pc nx i := Or.inl ⟨j, hj, d, hn⟩
theorem eLst_w {i : Nat} (d : decode cc pc = .ok (.lstore i, 2)) (hn : pc + 2 = nx) : eLst cc pc nx i := Or.inr ⟨d, hn⟩
theorem ww_istore {i : Nat} {x : Int32} (C : CX X B A R own cc nL kc ks) (d : eIst cc pc nx i) (hi : i < nL) (hp : ∀ j, j + 1 = i → eOne (ls[j]?.join) = true) (k : WW X B A nL kc ks Q σ nx (ls.set i (some (.int x))) st) : WW X B A nL kc ks Q σ pc ls (.int x :: st) := by
  intro H locs la hP hD hS hl
  rcases d with ⟨j, hj, d, rfl⟩ | ⟨d, rfl⟩
  · exact lv_istore_n C.1 C.2.1 d hj (eLv_has hl) hi rfl (fun la' h' => k H locs la' hP hD hS (eLv_set1 (v := .int x) hp h'))
  · exact lv_istore C.1 C.2.1 d (eLv_has hl) hi rfl (fun la' h' => k H locs la' hP hD hS (eLv_set1 (v := .int x) hp h'))
theorem ww_lstore {i : Nat} {x : Int64} (C : CX X B A R own cc nL kc ks) (d : eLst cc pc nx i) (hi : i + 1 < nL) (hp : ∀ j, j + 1 = i → eOne (ls[j]?.join) = true) (k : WW X B A nL kc ks Q σ nx ((ls.set i (some (.long x))).set (i + 1) none) st) : WW X B A nL kc ks Q σ pc ls (.long x :: st) := by
  intro H locs la hP hD hS hl
  rcases d with ⟨j, hj, d, rfl⟩ | ⟨d, rfl⟩
  · exact lv_lstore_n C.1 C.2.1 d hj (eLv_has hl) hi rfl (fun la' h' => k H locs la' hP hD hS (eLv_set2 (v := .long x) hp h'))
  · exact lv_lstore C.1 C.2.1 d (eLv_has hl) hi rfl (fun la' h' => k H locs la' hP hD hS (eLv_set2 (v := .long x) hp h'))
theorem ww_iinc {i : Nat} {n : Int} {x v : Int32} (C : CX X B A R own cc nL kc ks) (d : decode cc pc = .ok (.iinc i n, 3)) (hn : pc + 3 = nx) (hx : ls[i]? = some (some (.int x))) (hv : Int32.ofInt n = v) (hi : i < nL) (hp : ∀ j, j + 1 = i → eOne (ls[j]?.join) = true) (k : WW X B A nL kc ks Q σ nx (ls.set i (some (.int (x + v)))) st) : WW X B A nL kc ks Q σ pc ls st := by
  subst hn
  intro H locs la hP hD hS hl
  obtain ⟨k0, hk0⟩ := List.getElem?_of_mem (eLv_mem (ad := B.2.2) hx)
  exact lv_iinc C.1 C.2.1 d (eLv_has hl) hk0 (by rw [hv]) hi rfl (fun la' h' => k H locs la' hP hD hS (eLv_set1 (v := .int (x + v)) hp h'))

theorem ww_ast2 {x0 x1 x2 : Option Value} {r : List (Option Value)} {x : Nat} (C : CX X B A R own cc nL kc ks) (d : decode cc pc = .ok (.astore_n 2, 1)) (hn : pc + 1 = nx) (hi : 2 < nL) (ho : eOne x1 = true) (k : WW X B A nL kc ks Q σ nx (x0 :: x1 :: some (.ref x) :: r) st) : WW X B A nL kc ks Q σ pc (x0 :: x1 :: x2 :: r) (.ref x :: st) := by
  subst hn
  intro H locs la hP hD hS hl
  exact lv_astore_n C.1 C.2.1 d rfl (eLv_has hl) hi rfl (fun la' h' => k H locs la' hP hD hS (eLv_set1 (v := .ref x) (fun j hj => by cases hj; exact ho) h'))
theorem ww_ast2N {x0 x1 x2 : Option Value} {r : List (Option Value)} (C : CX X B A R own cc nL kc ks) (d : decode cc pc = .ok (.astore_n 2, 1)) (hn : pc + 1 = nx) (hi : 2 < nL) (ho : eOne x1 = true) (k : WW X B A nL kc ks Q σ nx (x0 :: x1 :: some .null :: r) st) : WW X B A nL kc ks Q σ pc (x0 :: x1 :: x2 :: r) (.null :: st) := by
  subst hn
  intro H locs la hP hD hS hl
  exact lv_astore_nN C.1 C.2.1 d rfl (eLv_has hl) hi rfl (fun la' h' => k H locs la' hP hD hS (eLv_set1 (v := .null) (fun j hj => by cases hj; exact ho) h'))
theorem ww_ist0 {x0 : Option Value} {r : List (Option Value)} {x : Int32} (C : CX X B A R own cc nL kc ks) (d : eIst cc pc nx 0) (hi : 0 < nL) (k : WW X B A nL kc ks Q σ nx (some (.int x) :: r) st) : WW X B A nL kc ks Q σ pc (x0 :: r) (.int x :: st) := ww_istore C d hi (fun j hj => by cases hj) k
theorem ww_iinc0 {r : List (Option Value)} {n : Int} {x v : Int32} (C : CX X B A R own cc nL kc ks) (d : decode cc pc = .ok (.iinc 0 n, 3)) (hn : pc + 3 = nx) (hv : Int32.ofInt n = v) (hi : 0 < nL) (k : WW X B A nL kc ks Q σ nx (some (.int (x + v)) :: r) st) : WW X B A nL kc ks Q σ pc (some (.int x) :: r) st := ww_iinc C d hn rfl hv hi (fun j hj => by cases hj) k
theorem ww_lst0 {x0 y : Option Value} {r : List (Option Value)} {x : Int64} (C : CX X B A R own cc nL kc ks) (d : eLst cc pc nx 0) (hi : 0 + 1 < nL) (k : WW X B A nL kc ks Q σ nx (some (.long x) :: none :: r) st) : WW X B A nL kc ks Q σ pc (x0 :: y :: r) (.long x :: st) := ww_lstore C d hi (fun j hj => by cases hj) k
theorem ww_ist1 {x0 x1 : Option Value} {r : List (Option Value)} {x : Int32} (C : CX X B A R own cc nL kc ks) (d : eIst cc pc nx 1) (hi : 1 < nL) (ho : eOne x0 = true) (k : WW X B A nL kc ks Q σ nx (x0 :: some (.int x) :: r) st) : WW X B A nL kc ks Q σ pc (x0 :: x1 :: r) (.int x :: st) := ww_istore C d hi (fun j hj => by cases hj; exact ho) k
theorem ww_iinc1 {x0 : Option Value} {r : List (Option Value)} {n : Int} {x v : Int32} (C : CX X B A R own cc nL kc ks) (d : decode cc pc = .ok (.iinc 1 n, 3)) (hn : pc + 3 = nx) (hv : Int32.ofInt n = v) (hi : 1 < nL) (ho : eOne x0 = true) (k : WW X B A nL kc ks Q σ nx (x0 :: some (.int (x + v)) :: r) st) : WW X B A nL kc ks Q σ pc (x0 :: some (.int x) :: r) st := ww_iinc C d hn rfl hv hi (fun j hj => by cases hj; exact ho) k
theorem ww_lst1 {x0 x1 y : Option Value} {r : List (Option Value)} {x : Int64} (C : CX X B A R own cc nL kc ks) (d : eLst cc pc nx 1) (hi : 1 + 1 < nL) (ho : eOne x0 = true) (k : WW X B A nL kc ks Q σ nx (x0 :: some (.long x) :: none :: r) st) : WW X B A nL kc ks Q σ pc (x0 :: x1 :: y :: r) (.long x :: st) := ww_lstore C d hi (fun j hj => by cases hj; exact ho) k
theorem ww_ist2 {x0 x1 x2 : Option Value} {r : List (Option Value)} {x : Int32} (C : CX X B A R own cc nL kc ks) (d : eIst cc pc nx 2) (hi : 2 < nL) (ho : eOne x1 = true) (k : WW X B A nL kc ks Q σ nx (x0 :: x1 :: some (.int x) :: r) st) : WW X B A nL kc ks Q σ pc (x0 :: x1 :: x2 :: r) (.int x :: st) := ww_istore C d hi (fun j hj => by cases hj; exact ho) k
theorem ww_iinc2 {x0 x1 : Option Value} {r : List (Option Value)} {n : Int} {x v : Int32} (C : CX X B A R own cc nL kc ks) (d : decode cc pc = .ok (.iinc 2 n, 3)) (hn : pc + 3 = nx) (hv : Int32.ofInt n = v) (hi : 2 < nL) (ho : eOne x1 = true) (k : WW X B A nL kc ks Q σ nx (x0 :: x1 :: some (.int (x + v)) :: r) st) : WW X B A nL kc ks Q σ pc (x0 :: x1 :: some (.int x) :: r) st := ww_iinc C d hn rfl hv hi (fun j hj => by cases hj; exact ho) k
theorem ww_lst2 {x0 x1 x2 y : Option Value} {r : List (Option Value)} {x : Int64} (C : CX X B A R own cc nL kc ks) (d : eLst cc pc nx 2) (hi : 2 + 1 < nL) (ho : eOne x1 = true) (k : WW X B A nL kc ks Q σ nx (x0 :: x1 :: some (.long x) :: none :: r) st) : WW X B A nL kc ks Q σ pc (x0 :: x1 :: x2 :: y :: r) (.long x :: st) := ww_lstore C d hi (fun j hj => by cases hj; exact ho) k
theorem ww_ist3 {x0 x1 x2 x3 : Option Value} {r : List (Option Value)} {x : Int32} (C : CX X B A R own cc nL kc ks) (d : eIst cc pc nx 3) (hi : 3 < nL) (ho : eOne x2 = true) (k : WW X B A nL kc ks Q σ nx (x0 :: x1 :: x2 :: some (.int x) :: r) st) : WW X B A nL kc ks Q σ pc (x0 :: x1 :: x2 :: x3 :: r) (.int x :: st) := ww_istore C d hi (fun j hj => by cases hj; exact ho) k
theorem ww_iinc3 {x0 x1 x2 : Option Value} {r : List (Option Value)} {n : Int} {x v : Int32} (C : CX X B A R own cc nL kc ks) (d : decode cc pc = .ok (.iinc 3 n, 3)) (hn : pc + 3 = nx) (hv : Int32.ofInt n = v) (hi : 3 < nL) (ho : eOne x2 = true) (k : WW X B A nL kc ks Q σ nx (x0 :: x1 :: x2 :: some (.int (x + v)) :: r) st) : WW X B A nL kc ks Q σ pc (x0 :: x1 :: x2 :: some (.int x) :: r) st := ww_iinc C d hn rfl hv hi (fun j hj => by cases hj; exact ho) k
theorem ww_lst3 {x0 x1 x2 x3 y : Option Value} {r : List (Option Value)} {x : Int64} (C : CX X B A R own cc nL kc ks) (d : eLst cc pc nx 3) (hi : 3 + 1 < nL) (ho : eOne x2 = true) (k : WW X B A nL kc ks Q σ nx (x0 :: x1 :: x2 :: some (.long x) :: none :: r) st) : WW X B A nL kc ks Q σ pc (x0 :: x1 :: x2 :: x3 :: y :: r) (.long x :: st) := ww_lstore C d hi (fun j hj => by cases hj; exact ho) k
theorem ww_ist4 {x0 x1 x2 x3 x4 : Option Value} {r : List (Option Value)} {x : Int32} (C : CX X B A R own cc nL kc ks) (d : eIst cc pc nx 4) (hi : 4 < nL) (ho : eOne x3 = true) (k : WW X B A nL kc ks Q σ nx (x0 :: x1 :: x2 :: x3 :: some (.int x) :: r) st) : WW X B A nL kc ks Q σ pc (x0 :: x1 :: x2 :: x3 :: x4 :: r) (.int x :: st) := ww_istore C d hi (fun j hj => by cases hj; exact ho) k
theorem ww_iinc4 {x0 x1 x2 x3 : Option Value} {r : List (Option Value)} {n : Int} {x v : Int32} (C : CX X B A R own cc nL kc ks) (d : decode cc pc = .ok (.iinc 4 n, 3)) (hn : pc + 3 = nx) (hv : Int32.ofInt n = v) (hi : 4 < nL) (ho : eOne x3 = true) (k : WW X B A nL kc ks Q σ nx (x0 :: x1 :: x2 :: x3 :: some (.int (x + v)) :: r) st) : WW X B A nL kc ks Q σ pc (x0 :: x1 :: x2 :: x3 :: some (.int x) :: r) st := ww_iinc C d hn rfl hv hi (fun j hj => by cases hj; exact ho) k
theorem ww_lst4 {x0 x1 x2 x3 x4 y : Option Value} {r : List (Option Value)} {x : Int64} (C : CX X B A R own cc nL kc ks) (d : eLst cc pc nx 4) (hi : 4 + 1 < nL) (ho : eOne x3 = true) (k : WW X B A nL kc ks Q σ nx (x0 :: x1 :: x2 :: x3 :: some (.long x) :: none :: r) st) : WW X B A nL kc ks Q σ pc (x0 :: x1 :: x2 :: x3 :: x4 :: y :: r) (.long x :: st) := ww_lstore C d hi (fun j hj => by cases hj; exact ho) k
theorem ww_ist5 {x0 x1 x2 x3 x4 x5 : Option Value} {r : List (Option Value)} {x : Int32} (C : CX X B A R own cc nL kc ks) (d : eIst cc pc nx 5) (hi : 5 < nL) (ho : eOne x4 = true) (k : WW X B A nL kc ks Q σ nx (x0 :: x1 :: x2 :: x3 :: x4 :: some (.int x) :: r) st) : WW X B A nL kc ks Q σ pc (x0 :: x1 :: x2 :: x3 :: x4 :: x5 :: r) (.int x :: st) := ww_istore C d hi (fun j hj => by cases hj; exact ho) k
theorem ww_iinc5 {x0 x1 x2 x3 x4 : Option Value} {r : List (Option Value)} {n : Int} {x v : Int32} (C : CX X B A R own cc nL kc ks) (d : decode cc pc = .ok (.iinc 5 n, 3)) (hn : pc + 3 = nx) (hv : Int32.ofInt n = v) (hi : 5 < nL) (ho : eOne x4 = true) (k : WW X B A nL kc ks Q σ nx (x0 :: x1 :: x2 :: x3 :: x4 :: some (.int (x + v)) :: r) st) : WW X B A nL kc ks Q σ pc (x0 :: x1 :: x2 :: x3 :: x4 :: some (.int x) :: r) st := ww_iinc C d hn rfl hv hi (fun j hj => by cases hj; exact ho) k
theorem ww_lst5 {x0 x1 x2 x3 x4 x5 y : Option Value} {r : List (Option Value)} {x : Int64} (C : CX X B A R own cc nL kc ks) (d : eLst cc pc nx 5) (hi : 5 + 1 < nL) (ho : eOne x4 = true) (k : WW X B A nL kc ks Q σ nx (x0 :: x1 :: x2 :: x3 :: x4 :: some (.long x) :: none :: r) st) : WW X B A nL kc ks Q σ pc (x0 :: x1 :: x2 :: x3 :: x4 :: x5 :: y :: r) (.long x :: st) := ww_lstore C d hi (fun j hj => by cases hj; exact ho) k
theorem ww_ist6 {x0 x1 x2 x3 x4 x5 x6 : Option Value} {r : List (Option Value)} {x : Int32} (C : CX X B A R own cc nL kc ks) (d : eIst cc pc nx 6) (hi : 6 < nL) (ho : eOne x5 = true) (k : WW X B A nL kc ks Q σ nx (x0 :: x1 :: x2 :: x3 :: x4 :: x5 :: some (.int x) :: r) st) : WW X B A nL kc ks Q σ pc (x0 :: x1 :: x2 :: x3 :: x4 :: x5 :: x6 :: r) (.int x :: st) := ww_istore C d hi (fun j hj => by cases hj; exact ho) k
theorem ww_iinc6 {x0 x1 x2 x3 x4 x5 : Option Value} {r : List (Option Value)} {n : Int} {x v : Int32} (C : CX X B A R own cc nL kc ks) (d : decode cc pc = .ok (.iinc 6 n, 3)) (hn : pc + 3 = nx) (hv : Int32.ofInt n = v) (hi : 6 < nL) (ho : eOne x5 = true) (k : WW X B A nL kc ks Q σ nx (x0 :: x1 :: x2 :: x3 :: x4 :: x5 :: some (.int (x + v)) :: r) st) : WW X B A nL kc ks Q σ pc (x0 :: x1 :: x2 :: x3 :: x4 :: x5 :: some (.int x) :: r) st := ww_iinc C d hn rfl hv hi (fun j hj => by cases hj; exact ho) k
theorem ww_lst6 {x0 x1 x2 x3 x4 x5 x6 y : Option Value} {r : List (Option Value)} {x : Int64} (C : CX X B A R own cc nL kc ks) (d : eLst cc pc nx 6) (hi : 6 + 1 < nL) (ho : eOne x5 = true) (k : WW X B A nL kc ks Q σ nx (x0 :: x1 :: x2 :: x3 :: x4 :: x5 :: some (.long x) :: none :: r) st) : WW X B A nL kc ks Q σ pc (x0 :: x1 :: x2 :: x3 :: x4 :: x5 :: x6 :: y :: r) (.long x :: st) := ww_lstore C d hi (fun j hj => by cases hj; exact ho) k
theorem ww_ist7 {x0 x1 x2 x3 x4 x5 x6 x7 : Option Value} {r : List (Option Value)} {x : Int32} (C : CX X B A R own cc nL kc ks) (d : eIst cc pc nx 7) (hi : 7 < nL) (ho : eOne x6 = true) (k : WW X B A nL kc ks Q σ nx (x0 :: x1 :: x2 :: x3 :: x4 :: x5 :: x6 :: some (.int x) :: r) st) : WW X B A nL kc ks Q σ pc (x0 :: x1 :: x2 :: x3 :: x4 :: x5 :: x6 :: x7 :: r) (.int x :: st) := ww_istore C d hi (fun j hj => by cases hj; exact ho) k
theorem ww_iinc7 {x0 x1 x2 x3 x4 x5 x6 : Option Value} {r : List (Option Value)} {n : Int} {x v : Int32} (C : CX X B A R own cc nL kc ks) (d : decode cc pc = .ok (.iinc 7 n, 3)) (hn : pc + 3 = nx) (hv : Int32.ofInt n = v) (hi : 7 < nL) (ho : eOne x6 = true) (k : WW X B A nL kc ks Q σ nx (x0 :: x1 :: x2 :: x3 :: x4 :: x5 :: x6 :: some (.int (x + v)) :: r) st) : WW X B A nL kc ks Q σ pc (x0 :: x1 :: x2 :: x3 :: x4 :: x5 :: x6 :: some (.int x) :: r) st := ww_iinc C d hn rfl hv hi (fun j hj => by cases hj; exact ho) k
theorem ww_lst7 {x0 x1 x2 x3 x4 x5 x6 x7 y : Option Value} {r : List (Option Value)} {x : Int64} (C : CX X B A R own cc nL kc ks) (d : eLst cc pc nx 7) (hi : 7 + 1 < nL) (ho : eOne x6 = true) (k : WW X B A nL kc ks Q σ nx (x0 :: x1 :: x2 :: x3 :: x4 :: x5 :: x6 :: some (.long x) :: none :: r) st) : WW X B A nL kc ks Q σ pc (x0 :: x1 :: x2 :: x3 :: x4 :: x5 :: x6 :: x7 :: y :: r) (.long x :: st) := ww_lstore C d hi (fun j hj => by cases hj; exact ho) k
theorem ww_ist8 {x0 x1 x2 x3 x4 x5 x6 x7 x8 : Option Value} {r : List (Option Value)} {x : Int32} (C : CX X B A R own cc nL kc ks) (d : eIst cc pc nx 8) (hi : 8 < nL) (ho : eOne x7 = true) (k : WW X B A nL kc ks Q σ nx (x0 :: x1 :: x2 :: x3 :: x4 :: x5 :: x6 :: x7 :: some (.int x) :: r) st) : WW X B A nL kc ks Q σ pc (x0 :: x1 :: x2 :: x3 :: x4 :: x5 :: x6 :: x7 :: x8 :: r) (.int x :: st) := ww_istore C d hi (fun j hj => by cases hj; exact ho) k
theorem ww_iinc8 {x0 x1 x2 x3 x4 x5 x6 x7 : Option Value} {r : List (Option Value)} {n : Int} {x v : Int32} (C : CX X B A R own cc nL kc ks) (d : decode cc pc = .ok (.iinc 8 n, 3)) (hn : pc + 3 = nx) (hv : Int32.ofInt n = v) (hi : 8 < nL) (ho : eOne x7 = true) (k : WW X B A nL kc ks Q σ nx (x0 :: x1 :: x2 :: x3 :: x4 :: x5 :: x6 :: x7 :: some (.int (x + v)) :: r) st) : WW X B A nL kc ks Q σ pc (x0 :: x1 :: x2 :: x3 :: x4 :: x5 :: x6 :: x7 :: some (.int x) :: r) st := ww_iinc C d hn rfl hv hi (fun j hj => by cases hj; exact ho) k
theorem ww_lst8 {x0 x1 x2 x3 x4 x5 x6 x7 x8 y : Option Value} {r : List (Option Value)} {x : Int64} (C : CX X B A R own cc nL kc ks) (d : eLst cc pc nx 8) (hi : 8 + 1 < nL) (ho : eOne x7 = true) (k : WW X B A nL kc ks Q σ nx (x0 :: x1 :: x2 :: x3 :: x4 :: x5 :: x6 :: x7 :: some (.long x) :: none :: r) st) : WW X B A nL kc ks Q σ pc (x0 :: x1 :: x2 :: x3 :: x4 :: x5 :: x6 :: x7 :: x8 :: y :: r) (.long x :: st) := ww_lstore C d hi (fun j hj => by cases hj; exact ho) k
theorem ww_ist9 {x0 x1 x2 x3 x4 x5 x6 x7 x8 x9 : Option Value} {r : List (Option Value)} {x : Int32} (C : CX X B A R own cc nL kc ks) (d : eIst cc pc nx 9) (hi : 9 < nL) (ho : eOne x8 = true) (k : WW X B A nL kc ks Q σ nx (x0 :: x1 :: x2 :: x3 :: x4 :: x5 :: x6 :: x7 :: x8 :: some (.int x) :: r) st) : WW X B A nL kc ks Q σ pc (x0 :: x1 :: x2 :: x3 :: x4 :: x5 :: x6 :: x7 :: x8 :: x9 :: r) (.int x :: st) := ww_istore C d hi (fun j hj => by cases hj; exact ho) k
theorem ww_iinc9 {x0 x1 x2 x3 x4 x5 x6 x7 x8 : Option Value} {r : List (Option Value)} {n : Int} {x v : Int32} (C : CX X B A R own cc nL kc ks) (d : decode cc pc = .ok (.iinc 9 n, 3)) (hn : pc + 3 = nx) (hv : Int32.ofInt n = v) (hi : 9 < nL) (ho : eOne x8 = true) (k : WW X B A nL kc ks Q σ nx (x0 :: x1 :: x2 :: x3 :: x4 :: x5 :: x6 :: x7 :: x8 :: some (.int (x + v)) :: r) st) : WW X B A nL kc ks Q σ pc (x0 :: x1 :: x2 :: x3 :: x4 :: x5 :: x6 :: x7 :: x8 :: some (.int x) :: r) st := ww_iinc C d hn rfl hv hi (fun j hj => by cases hj; exact ho) k
theorem ww_lst9 {x0 x1 x2 x3 x4 x5 x6 x7 x8 x9 y : Option Value} {r : List (Option Value)} {x : Int64} (C : CX X B A R own cc nL kc ks) (d : eLst cc pc nx 9) (hi : 9 + 1 < nL) (ho : eOne x8 = true) (k : WW X B A nL kc ks Q σ nx (x0 :: x1 :: x2 :: x3 :: x4 :: x5 :: x6 :: x7 :: x8 :: some (.long x) :: none :: r) st) : WW X B A nL kc ks Q σ pc (x0 :: x1 :: x2 :: x3 :: x4 :: x5 :: x6 :: x7 :: x8 :: x9 :: y :: r) (.long x :: st) := ww_lstore C d hi (fun j hj => by cases hj; exact ho) k
theorem ww_ist10 {x0 x1 x2 x3 x4 x5 x6 x7 x8 x9 x10 : Option Value} {r : List (Option Value)} {x : Int32} (C : CX X B A R own cc nL kc ks) (d : eIst cc pc nx 10) (hi : 10 < nL) (ho : eOne x9 = true) (k : WW X B A nL kc ks Q σ nx (x0 :: x1 :: x2 :: x3 :: x4 :: x5 :: x6 :: x7 :: x8 :: x9 :: some (.int x) :: r) st) : WW X B A nL kc ks Q σ pc (x0 :: x1 :: x2 :: x3 :: x4 :: x5 :: x6 :: x7 :: x8 :: x9 :: x10 :: r) (.int x :: st) := ww_istore C d hi (fun j hj => by cases hj; exact ho) k
theorem ww_iinc10 {x0 x1 x2 x3 x4 x5 x6 x7 x8 x9 : Option Value} {r : List (Option Value)} {n : Int} {x v : Int32} (C : CX X B A R own cc nL kc ks) (d : decode cc pc = .ok (.iinc 10 n, 3)) (hn : pc + 3 = nx) (hv : Int32.ofInt n = v) (hi : 10 < nL) (ho : eOne x9 = true) (k : WW X B A nL kc ks Q σ nx (x0 :: x1 :: x2 :: x3 :: x4 :: x5 :: x6 :: x7 :: x8 :: x9 :: some (.int (x + v)) :: r) st) : WW X B A nL kc ks Q σ pc (x0 :: x1 :: x2 :: x3 :: x4 :: x5 :: x6 :: x7 :: x8 :: x9 :: some (.int x) :: r) st := ww_iinc C d hn rfl hv hi (fun j hj => by cases hj; exact ho) k
theorem ww_lst10 {x0 x1 x2 x3 x4 x5 x6 x7 x8 x9 x10 y : Option Value} {r : List (Option Value)} {x : Int64} (C : CX X B A R own cc nL kc ks) (d : eLst cc pc nx 10) (hi : 10 + 1 < nL) (ho : eOne x9 = true) (k : WW X B A nL kc ks Q σ nx (x0 :: x1 :: x2 :: x3 :: x4 :: x5 :: x6 :: x7 :: x8 :: x9 :: some (.long x) :: none :: r) st) : WW X B A nL kc ks Q σ pc (x0 :: x1 :: x2 :: x3 :: x4 :: x5 :: x6 :: x7 :: x8 :: x9 :: x10 :: y :: r) (.long x :: st) := ww_lstore C d hi (fun j hj => by cases hj; exact ho) k
theorem ww_ist11 {x0 x1 x2 x3 x4 x5 x6 x7 x8 x9 x10 x11 : Option Value} {r : List (Option Value)} {x : Int32} (C : CX X B A R own cc nL kc ks) (d : eIst cc pc nx 11) (hi : 11 < nL) (ho : eOne x10 = true) (k : WW X B A nL kc ks Q σ nx (x0 :: x1 :: x2 :: x3 :: x4 :: x5 :: x6 :: x7 :: x8 :: x9 :: x10 :: some (.int x) :: r) st) : WW X B A nL kc ks Q σ pc (x0 :: x1 :: x2 :: x3 :: x4 :: x5 :: x6 :: x7 :: x8 :: x9 :: x10 :: x11 :: r) (.int x :: st) := ww_istore C d hi (fun j hj => by cases hj; exact ho) k
theorem ww_iinc11 {x0 x1 x2 x3 x4 x5 x6 x7 x8 x9 x10 : Option Value} {r : List (Option Value)} {n : Int} {x v : Int32} (C : CX X B A R own cc nL kc ks) (d : decode cc pc = .ok (.iinc 11 n, 3)) (hn : pc + 3 = nx) (hv : Int32.ofInt n = v) (hi : 11 < nL) (ho : eOne x10 = true) (k : WW X B A nL kc ks Q σ nx (x0 :: x1 :: x2 :: x3 :: x4 :: x5 :: x6 :: x7 :: x8 :: x9 :: x10 :: some (.int (x + v)) :: r) st) : WW X B A nL kc ks Q σ pc (x0 :: x1 :: x2 :: x3 :: x4 :: x5 :: x6 :: x7 :: x8 :: x9 :: x10 :: some (.int x) :: r) st := ww_iinc C d hn rfl hv hi (fun j hj => by cases hj; exact ho) k
theorem ww_lst11 {x0 x1 x2 x3 x4 x5 x6 x7 x8 x9 x10 x11 y : Option Value} {r : List (Option Value)} {x : Int64} (C : CX X B A R own cc nL kc ks) (d : eLst cc pc nx 11) (hi : 11 + 1 < nL) (ho : eOne x10 = true) (k : WW X B A nL kc ks Q σ nx (x0 :: x1 :: x2 :: x3 :: x4 :: x5 :: x6 :: x7 :: x8 :: x9 :: x10 :: some (.long x) :: none :: r) st) : WW X B A nL kc ks Q σ pc (x0 :: x1 :: x2 :: x3 :: x4 :: x5 :: x6 :: x7 :: x8 :: x9 :: x10 :: x11 :: y :: r) (.long x :: st) := ww_lstore C d hi (fun j hj => by cases hj; exact ho) k
theorem ww_ist12 {x0 x1 x2 x3 x4 x5 x6 x7 x8 x9 x10 x11 x12 : Option Value} {r : List (Option Value)} {x : Int32} (C : CX X B A R own cc nL kc ks) (d : eIst cc pc nx 12) (hi : 12 < nL) (ho : eOne x11 = true) (k : WW X B A nL kc ks Q σ nx (x0 :: x1 :: x2 :: x3 :: x4 :: x5 :: x6 :: x7 :: x8 :: x9 :: x10 :: x11 :: some (.int x) :: r) st) : WW X B A nL kc ks Q σ pc (x0 :: x1 :: x2 :: x3 :: x4 :: x5 :: x6 :: x7 :: x8 :: x9 :: x10 :: x11 :: x12 :: r) (.int x :: st) := ww_istore C d hi (fun j hj => by cases hj; exact ho) k
theorem ww_iinc12 {x0 x1 x2 x3 x4 x5 x6 x7 x8 x9 x10 x11 : Option Value} {r : List (Option Value)} {n : Int} {x v : Int32} (C : CX X B A R own cc nL kc ks) (d : decode cc pc = .ok (.iinc 12 n, 3)) (hn : pc + 3 = nx) (hv : Int32.ofInt n = v) (hi : 12 < nL) (ho : eOne x11 = true) (k : WW X B A nL kc ks Q σ nx (x0 :: x1 :: x2 :: x3 :: x4 :: x5 :: x6 :: x7 :: x8 :: x9 :: x10 :: x11 :: some (.int (x + v)) :: r) st) : WW X B A nL kc ks Q σ pc (x0 :: x1 :: x2 :: x3 :: x4 :: x5 :: x6 :: x7 :: x8 :: x9 :: x10 :: x11 :: some (.int x) :: r) st := ww_iinc C d hn rfl hv hi (fun j hj => by cases hj; exact ho) k
theorem ww_lst12 {x0 x1 x2 x3 x4 x5 x6 x7 x8 x9 x10 x11 x12 y : Option Value} {r : List (Option Value)} {x : Int64} (C : CX X B A R own cc nL kc ks) (d : eLst cc pc nx 12) (hi : 12 + 1 < nL) (ho : eOne x11 = true) (k : WW X B A nL kc ks Q σ nx (x0 :: x1 :: x2 :: x3 :: x4 :: x5 :: x6 :: x7 :: x8 :: x9 :: x10 :: x11 :: some (.long x) :: none :: r) st) : WW X B A nL kc ks Q σ pc (x0 :: x1 :: x2 :: x3 :: x4 :: x5 :: x6 :: x7 :: x8 :: x9 :: x10 :: x11 :: x12 :: y :: r) (.long x :: st) := ww_lstore C d hi (fun j hj => by cases hj; exact ho) k
end EI
