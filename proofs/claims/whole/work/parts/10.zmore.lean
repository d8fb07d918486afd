/-! booleans on the stack -/
def b2i (b : Bool) : Int := match b with
  | true => 1
  | false => 0
theorem b2i_nar (b : Bool) : narrow .boolean (zi (b2i b)) = zi (b2i b) := by cases b <;> rfl
section ZB
variable {X : eX} {B : eB} {A : Nat → Prop} {R : Room} {own : String} {cc : ByteArray} {nL kc ks : Nat} {Q : State → Prop} {ζ τ : zSt} {pc nx : Nat} {ls : List (Option Value)} {st : List Value} {r : Option Value}
theorem zw_ifb_eq {b : Bool} {off : Int} {tgt : Nat} (C : CX X B A R own cc nL kc ks) (d : decode cc pc = .ok (.ifCond .eq off, 3)) (ht : (pc : Int) + off = (tgt : Int)) (hn : pc + 3 = nx) (kt : b = false → ZW X B A nL kc ks Q ζ tgt ls st) (kf : b = true → ZW X B A nL kc ks Q ζ nx ls st) : ZW X B A nL kc ks Q ζ pc ls (zi (b2i b) :: st) := by
  cases b with
  | true => exact zw_if_eq (a := 1) C d ht hn (by omega) (fun h => by omega) (fun _ => kf rfl)
  | false => exact zw_if_eq (a := 0) C d ht hn (by omega) (fun _ => kt rfl) (fun h => by omega)
theorem zw_ifb_ne {b : Bool} {off : Int} {tgt : Nat} (C : CX X B A R own cc nL kc ks) (d : decode cc pc = .ok (.ifCond .ne off, 3)) (ht : (pc : Int) + off = (tgt : Int)) (hn : pc + 3 = nx) (kt : b = true → ZW X B A nL kc ks Q ζ tgt ls st) (kf : b = false → ZW X B A nL kc ks Q ζ nx ls st) : ZW X B A nL kc ks Q ζ pc ls (zi (b2i b) :: st) := by
  cases b with
  | true => exact zw_if_ne (a := 1) C d ht hn (by omega) (fun _ => kt rfl) (fun h => by omega)
  | false => exact zw_if_ne (a := 0) C d ht hn (by omega) (fun h => by omega) (fun _ => kf rfl)
theorem zw_bret {v : Int} {b : Bool} (C : CX X B A R own cc nL 0 0) (hA : A = eAA B (xS X).heap.size) (hr : (xMeth X).sig.returnType = some .boolean) (hk : (xMeth X).locks = false) (d : decode cc pc = .ok (.ireturn, 1)) (e0 : v = b2i b) (e : r = some (zi (b2i b))) (e2 : τ = ζ) : ZW X B A nL 0 0 (eFin X B r (zz τ)) ζ pc ls [zi v] := by
  subst e0
  exact zw_zret C hA hr hk d (b2i_nar b) e e2
end ZB
theorem zr {a b : Int} (h : a = b) : some (zi a) = some (zi b) := by rw [h]
theorem zrl {a b : Int} (h : a = b) : some (zl a) = some (zl b) := by rw [h]
theorem zU_at (ζ : zSt) (k i : Nat) (x : Int) (a b : Nat) : (zU ζ k i x).1 a b = if a = k ∧ b = i then x else ζ.1 a b := rfl
theorem zU_l (ζ : zSt) (k i : Nat) (x : Int) : (zU ζ k i x).2 = ζ.2 := rfl
theorem zR_at (ζ : zSt) (k : Nat) (f : Nat → Int) (a b : Nat) : (zR ζ k f).1 a b = if a = k then f b else ζ.1 a b := rfl
theorem zCp_at (ζ : zSt) (k0 k1 sp dp n a b : Nat) : (zCp ζ k0 k1 sp dp n).1 a b = if a = k1 then (if dp ≤ b ∧ b < dp + n then ζ.1 k0 (sp + (b - dp)) else ζ.1 k1 b) else ζ.1 a b := rfl
theorem zCp_l (ζ : zSt) (k0 k1 sp dp n : Nat) : (zCp ζ k0 k1 sp dp n).2 = ζ.2 := rfl
theorem zL_at (ζ : zSt) (i : Nat) (x : Int) (b : Nat) : (zL ζ i x).2 b = if b = i then x else ζ.2 b := rfl
theorem zL_1 (ζ : zSt) (i : Nat) (x : Int) : (zL ζ i x).1 = ζ.1 := rfl
def zFill (ζ : zSt) (k : Nat) (x : Int) : Nat → zSt
  | 0 => ζ
  | n + 1 => zU (zFill ζ k x n) k n x
theorem zFill_at (ζ : zSt) (k : Nat) (x : Int) (a b : Nat) : ∀ n, (zFill ζ k x n).1 a b = if a = k ∧ b < n then x else ζ.1 a b
  | 0 => by rw [if_neg (by omega)]; rfl
  | n + 1 => by
    show (if a = k ∧ b = n then x else (zFill ζ k x n).1 a b) = _
    rw [zFill_at ζ k x a b n]
    by_cases h : a = k
    · by_cases h2 : b < n
      · rw [if_neg (by omega), if_pos (by omega), if_pos (by omega)]
      · by_cases h3 : b = n
        · rw [if_pos (by omega), if_pos (by omega)]
        · rw [if_neg (by omega), if_neg (by omega), if_neg (by omega)]
    · rw [if_neg (by omega), if_neg (by omega), if_neg (by omega)]
theorem zFill_l (ζ : zSt) (k : Nat) (x : Int) : ∀ n, (zFill ζ k x n).2 = ζ.2
  | 0 => rfl
  | n + 1 => zFill_l ζ k x n
theorem zU_back (ζ : zSt) (k i : Nat) (x y : Int) (h : y = ζ.1 k i) : zU (zU ζ k i x) k i y = ζ := by
  refine Prod.ext (funext fun a => funext fun b => ?_) rfl
  show (if a = k ∧ b = i then y else if a = k ∧ b = i then x else ζ.1 a b) = ζ.1 a b
  split
  · rename_i hh; rw [hh.1, hh.2]; exact h
  · rfl
theorem zU_over (ζ : zSt) (k i : Nat) (x y : Int) : zU (zU ζ k i x) k i y = zU ζ k i y := by
  refine Prod.ext (funext fun a => funext fun b => ?_) rfl
  show (if a = k ∧ b = i then y else if a = k ∧ b = i then x else ζ.1 a b) = if a = k ∧ b = i then y else ζ.1 a b
  split <;> rfl
