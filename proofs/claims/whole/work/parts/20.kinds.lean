/-! Kinds, Hill's reads: first try -/
section HillReads
variable {l : Launch} {B : eB}
def hd_of (k : Int32) : Int32 := if k = 1 then 3 else if k = 3 then 0 else if k = 4 then 4 else if k = 5 then 0 else 1
theorem run_X2_holder_try (σ : eSt) (y : Int32) (n : Nat) (hn : σ.1 1 3 = nI n) (hN : n ≤ 5) : ∃ r, Run l B mX2_holder [.ref 1, .int y] σ (some (.int r)) σ := by
  have loop : ∀ (X : eX) (A : Nat → Prop) (r : Int32), CX X B A mX2_holder.2.2.2.2 RX2 cX2_holder 3 0 0 → A = eAA B (xS X).heap.size → (xMeth X).sig.returnType = some .int → (xMeth X).locks = false → WW X B A 3 0 0 (eFin X B (some (.int r)) σ) σ 2 [some (.ref 1), some (.int y), some (.int 0)] [] := by
    intro X A r C hA hr hk
    refine ww_iload_n (i := 2) (nx := 3) C dX2_holder_2 rfl rfl rfl ?_
    refine ww_aload_n (i := 0) (nx := 4) C dX2_holder_3 rfl rfl rfl ?_
    refine ww_geti (nx := 7) C dX2_holder_4 rfl flX2_22 iq2 rfl rfl rfl rfl ?_
    refine ww_icmp_ge (tgt := 28) (nx := 10) C dX2_holder_7 rfl rfl (fun hc => ?_) (fun hc => ?_)
    · sorry
    · refine ww_aload_n (i := 0) (nx := 11) C dX2_holder_10 rfl rfl rfl ?_
      refine ww_getr (nx := 14) C dX2_holder_11 rfl flX2_37 iq2 rfl rfl rfl rfl ?_
      refine ww_iload_n (i := 2) (nx := 15) C dX2_holder_14 rfl rfl rfl ?_
      refine ww_iald (nx := 16) C dX2_holder_15 rfl rfl rfl sorry ?_
      refine ww_iload_n (i := 1) (nx := 17) C dX2_holder_16 rfl rfl rfl ?_
      refine ww_icmp_ne (tgt := 22) (nx := 20) C dX2_holder_17 rfl rfl (fun hc => ?_) (fun hc => ?_)
      · sorry
      · sorry
  sorry
end HillReads
