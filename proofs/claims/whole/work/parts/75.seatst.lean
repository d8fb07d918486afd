/-! all seated anew: a step of both -/
section SeaS
variable {l : Launch} {B : eB} {ζ : zSt}
theorem st_all (hR : Rel ζ) {p : Int} (hp : -2147483648 ≤ p ∧ p ≤ 2147483647) : eStep l B mX6_all mX7_all [zi p] ζ := by
  obtain ⟨n, c, s, hN⟩ := hR.1
  have hn := hN.2.1.1
  by_cases h : p = -1 ∨ (0 ≤ p ∧ p < n)
  · have hok := vA_ok hN.cOk.1
    have hfV := vA_for hN.cOk.1
    have hf := aFor_c hN.cOk hfV
    have hE : (2 ^ n - 1) + 1 = 2 ^ (vA (cV ζ) n).1 := by
      have : 0 < 2 ^ n := Nat.two_pow_pos n
      show 2 ^ n - 1 + 1 = 2 ^ n
      omega
    have hw := run_X4_work (l := l) (B := B) hN.cOk hok hf hE
    have hm := spM_way hok hE (dI_spY hok hE (a0_dI hok (ζ.1 42)) 8 (by omega))
    generalize spM (2 ^ n - 1) (spY (vA (cV ζ) n) (2 ^ n - 1) (a0R (ζ.1 42)) 8) 11 = sc at hw hm
    generalize hτ : zU (sS ζ (spY (vA (cV ζ) n) (2 ^ n - 1) (a0R (ζ.1 42)) 8) (rwR (vA (cV ζ) n).2.2.2 n (ζ.1 43) 8) (rwR (fun p y => ((vA (cV ζ) n).2.2.1 p y : Int)) n (ζ.1 44) 8)) 41 3 sc = τ at hw
    have ro : ∀ a, a ∉ [41, 42, 43, 44] → τ.1 a = ζ.1 a := fun a ha => by
      rw [← hτ]
      funext b
      have h1 : a ≠ 41 := fun e => by subst e; revert ha; decide
      have h2 : a ≠ 42 := fun e => by subst e; revert ha; decide
      have h3 : a ≠ 43 := fun e => by subst e; revert ha; decide
      have h4 : a ≠ 44 := fun e => by subst e; revert ha; decide
      rw [zU_at, if_neg (fun q => h1 q.1), sS_at, if_neg h4, if_neg h3, if_neg h2]
    have rl : τ.2 = ζ.2 := by rw [← hτ]; rfl
    have hsc : τ.1 41 3 = sc := by rw [← hτ]; rfl
    have hR2 : Rel τ := hR.off (fun a ha => ro a (by revert a; decide)) rl
    have hN2 : RelN τ n c s := hN.tr (fun a ha => ro a (by revert a; decide))
    have ag : Agr (cV ζ) (mV τ) n := by
      have e : ∀ a b, a < 6 → mV τ a b = mV ζ a b := by
        intro a b ha
        match a, ha with
        | 0, _ => cases b <;> exact congrFun (ro 52 (by decide)) _
        | 1, _ => exact congrFun (ro 54 (by decide)) b
        | 2, _ => exact congrFun (ro 55 (by decide)) b
        | 3, _ => exact congrFun (ro 56 (by decide)) b
        | 4, _ => exact congrFun (ro 57 (by decide)) b
        | 5, _ => exact congrFun (ro 58 (by decide)) b
      have a := hN.agr
      exact ⟨⟨(e 0 0 (by decide)).trans a.1.1, (e 0 1 (by decide)).trans a.1.2⟩, fun y hy => (e 1 y (by decide)).trans (a.2.1 y hy), fun p hp => ⟨(e 2 p (by decide)).trans (a.2.2 p hp).1, (e 3 p (by decide)).trans (a.2.2 p hp).2.1, (e 4 p (by decide)).trans (a.2.2 p hp).2.2.1, (e 5 p (by decide)).trans (a.2.2 p hp).2.2.2⟩⟩
    have hfM := ag.aFor hfV
    have rm := run_X7_all_ok (l := l) (B := B) hN2.mOk hok hfM h
    have h1 : (vA (cV ζ) n).1 = n := rfl
    generalize vA (cV ζ) n = H at hok hm rm h1
    have sq := score_eq hok hm (o := fun c => sbO c n 0) (fun c _ => by rw [h1]; exact sbO_way) rfl (fun c hc => (wS_bd hok (by rw [h1]; exact sbO_way.mp hc)).1)
    have hb := bR_ok (n := n) (h := H) h1 (g := τ.1 58) (b := τ.1 68) (8 ^ n)
    unfold aAns at rm
    rw [h1] at sq
    rw [h1] at hb rm
    generalize hz : bW (fun c => sbO c n 0) (fun c => wS H (fc n c)) (8 ^ n) = z at sq hb rm
    obtain ⟨s1, s2, s3, s4⟩ := sq
    have hWb := wS_bd hok (f := fc n z.2) (by rw [h1]; exact s2)
    rw [← s3] at hWb
    obtain ⟨W, hW⟩ := Int.eq_ofNat_of_zero_le hWb.1
    have hy : z.2 * 8 ^ (5 - n) < 32768 := by
      have hp8 : 0 < 8 ^ (5 - n) := Nat.pow_pos (by decide)
      have e1 : z.2 * 8 ^ (5 - n) < 8 ^ n * 8 ^ (5 - n) := Nat.mul_lt_mul_of_pos_right s1 hp8
      rw [← Nat.pow_add, show n + (5 - n) = 5 by omega] at e1
      exact e1
    have hs : τ.1 41 3 = 32768 * (W : Int) - ((z.2 * 8 ^ (5 - n) : Nat) : Int) := by rw [hsc, s4, hW]
    have hRf : ∀ b, Rel (mS τ (τ.1 58) (hF (τ.1 58) (τ.1 67) n) b) := fun b => hR2.off (fun a ha => by
      funext i
      have h2 : a ≠ 67 := fun e => by subst e; revert ha; decide
      have h3 : a ≠ 68 := fun e => by subst e; revert ha; decide
      rw [mS_at, if_neg h2, if_neg h3]
      by_cases e : a = 58
      · rw [if_pos e, e]
      · rw [if_neg e]) rfl
    by_cases hp1 : p = -1
    · subst hp1
      refine ⟨_, _, _, run_X6_all_tot (n := n) hw (W := W) (by omega) hy hs, ?_, hRf (bR n H (τ.1 58) (τ.1 68) (8 ^ n))⟩
      rw [if_pos rfl, hW] at rm
      exact rm
    · obtain ⟨k, rfl⟩ := Int.eq_ofNat_of_zero_le (show 0 ≤ p by omega)
      have hk : k < n := by omega
      refine ⟨_, _, _, run_X6_all_one hn hN.1.1 hk hw (W := W) (by omega) hy hs, ?_, hRf (bR n H (τ.1 58) (τ.1 68) (8 ^ n))⟩
      rw [if_neg hp1, Int.toNat_natCast] at rm
      rcases hb with hb | hb
      · omega
      · rw [hb k hk] at rm
        rw [way_dj hn hk]
        exact rm
  · exact ⟨_, _, _, run_X6_all_bad hn hN.1.1 hp h, run_X7_all_bad (ζ := bdS ζ) hn hN.1.2.2.2.1 hp h, rel_bad hR⟩
end SeaS
