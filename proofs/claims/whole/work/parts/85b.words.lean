/-! the reference's words -/
section TextMb
variable {l : Launch} {B : eB} {ζ : zSt} {t : Nat} {T : Nat → Int}
/-- the five words, letter by letter -/
theorem wE_0 {s : Nat} : wE T t s 0 = true ↔ lE T t s - s = 4 ∧ (T s = 104 ∧ T (s + 1) = 105 ∧ T (s + 2) = 108 ∧ T (s + 3) = 108) := by
  unfold wE wQ; simp [mch, eLen, eChr, eWrd]
theorem wE_1 {s : Nat} : wE T t s 1 = true ↔ lE T t s - s = 4 ∧ (T s = 100 ∧ T (s + 1) = 97 ∧ T (s + 2) = 114 ∧ T (s + 3) = 107) := by
  unfold wE wQ; simp [mch, eLen, eChr, eWrd]
theorem wE_2 {s : Nat} : wE T t s 2 = true ↔ lE T t s - s = 7 ∧ (T s = 104 ∧ T (s + 1) = 101 ∧ T (s + 2) = 105 ∧ T (s + 3) = 103) ∧ T (s + 4) = 104 ∧ T (s + 5) = 116 ∧ T (s + 6) = 115 := by
  unfold wE wQ; simp [mch, eLen, eChr, eWrd, and_assoc]
theorem wE_3 {s : Nat} : wE T t s 3 = true ↔ lE T t s - s = 3 ∧ T s = 111 ∧ T (s + 1) = 110 ∧ T (s + 2) = 101 := by
  unfold wE wQ; simp [mch, eLen, eChr, eWrd]
theorem wE_4 {s : Nat} : wE T t s 4 = true ↔ lE T t s - s = 4 ∧ (T s = 115 ∧ T (s + 1) = 101 ∧ T (s + 2) = 97 ∧ T (s + 3) = 116) := by
  unfold wE wQ; simp [mch, eLen, eChr, eWrd]
end TextMb
