/-! references that may be null: the row of images -/
section ZN
variable {X : eX} {B : eB} {A : Nat → Prop} {R : Room} {own : String} {cc : ByteArray} {nL kc ks : Nat} {Q : State → Prop} {ζ : zSt} {pc nx : Nat} {ls : List (Option Value)} {st : List Value}
theorem zw_aald0 {k0 n : Nat} {g : Nat → Nat} {z : Int} (i : Nat) (C : CX X B A R own cc nL kc ks) (d : decode cc pc = .ok (.aaload, 1)) (hn : pc + 1 = nx) (hk : eIn (zz ζ) k0 = true) (hs : eSh k0 = .inl (3, n, g)) (hb : Nat.ble n 2147483647 = true) (h : z = i ∧ i < n) (h0 : ζ.1 k0 i = 0) (k : ZW X B A nL kc ks Q ζ nx ls (.null :: st)) : ZW X B A nL kc ks Q ζ pc ls (zi z :: .ref k0 :: st) := by
  have hz := iI_in h (Nat.le_of_ble_eq_true hb)
  refine ww_aald0 C d hn hk hs hz.1 ?_ k
  rw [hz.2]
  show ¬ iI (ζ.1 k0 i) = 1
  rw [h0]
  decide
theorem zw_aald1 {k0 n : Nat} {g : Nat → Nat} {z : Int} (i : Nat) (C : CX X B A R own cc nL kc ks) (d : decode cc pc = .ok (.aaload, 1)) (hn : pc + 1 = nx) (hk : eIn (zz ζ) k0 = true) (hs : eSh k0 = .inl (3, n, g)) (hb : Nat.ble n 2147483647 = true) (h : z = i ∧ i < n) (h1 : ζ.1 k0 i = 1) (k : ZW X B A nL kc ks Q ζ nx ls (.ref (g i) :: st)) : ZW X B A nL kc ks Q ζ pc ls (zi z :: .ref k0 :: st) := by
  have hz := iI_in h (Nat.le_of_ble_eq_true hb)
  refine ww_aald1 C d hn hk hs hz.1 ?_ ?_
  · rw [hz.2]
    show iI (ζ.1 k0 i) = 1
    rw [h1]
    rfl
  · rw [hz.2]
    exact k
theorem zw_aast {z : Int} {m N : Nat} {fd : Nat → Nat × Nat} (i : Nat) (C : CX X B A R own cc nL kc ks) (d : decode cc pc = .ok (.aastore, 1)) (hn : pc + 1 = nx) (h : z = i ∧ i < 2) (hm : eIm i = m) (hk : eIn (zz ζ) m = true) (hs : eSh m = .inr (2, N, fd)) (h2 : ζ.1 38 i = 2) (k : ZW X B A nL kc ks Q (zU ζ 38 i 1) nx ls st) : ZW X B A nL kc ks Q ζ pc ls (.ref m :: zi z :: .ref 38 :: st) := by
  have hz := iI_in h (by decide)
  refine ww_aast C d hn hz.1 hz.2 hm hk hs ?_ ?_
  · show ¬ iI (ζ.1 38 i) = 0
    rw [h2]
    decide
  · rw [show (1 : Int32) = iI 1 from rfl, zz_U]
    exact k
theorem zw_ast2 {x0 x1 x2 : Option Value} {r : List (Option Value)} {x : Nat} (C : CX X B A R own cc nL kc ks) (d : decode cc pc = .ok (.astore_n 2, 1)) (hn : pc + 1 = nx) (hi : 2 < nL) (ho : eOne x1 = true) (k : ZW X B A nL kc ks Q ζ nx (x0 :: x1 :: some (.ref x) :: r) st) : ZW X B A nL kc ks Q ζ pc (x0 :: x1 :: x2 :: r) (.ref x :: st) := ww_ast2 C d hn hi ho k
theorem zw_ast2N {x0 x1 x2 : Option Value} {r : List (Option Value)} (C : CX X B A R own cc nL kc ks) (d : decode cc pc = .ok (.astore_n 2, 1)) (hn : pc + 1 = nx) (hi : 2 < nL) (ho : eOne x1 = true) (k : ZW X B A nL kc ks Q ζ nx (x0 :: x1 :: some .null :: r) st) : ZW X B A nL kc ks Q ζ pc (x0 :: x1 :: x2 :: r) (.null :: st) := ww_ast2N C d hn hi ho k
theorem zw_aload_nN {j : Fin 4} {i : Nat} (C : CX X B A R own cc nL kc ks) (d : decode cc pc = .ok (.aload_n j, 1)) (hj : (j : Nat) = i) (h : ls[i]? = some (some .null)) (hn : pc + 1 = nx) (k : ZW X B A nL kc ks Q ζ nx ls (.null :: st)) : ZW X B A nL kc ks Q ζ pc ls st := ww_aload_nN C d hj h hn k
theorem zw_ifnnN {off : Int} (C : CX X B A R own cc nL kc ks) (d : decode cc pc = .ok (.ifnonnull off, 3)) (hn : pc + 3 = nx) (k : ZW X B A nL kc ks Q ζ nx ls st) : ZW X B A nL kc ks Q ζ pc ls (.null :: st) := ww_ifnnN C d hn k
theorem zw_ifnn {x : Nat} {off : Int} (C : CX X B A R own cc nL kc ks) (d : decode cc pc = .ok (.ifnonnull off, 3)) (ht : (pc : Int) + off = (nx : Int)) (k : ZW X B A nL kc ks Q ζ nx ls st) : ZW X B A nL kc ks Q ζ pc ls (.ref x :: st) := ww_ifnn C d ht k
end ZN
