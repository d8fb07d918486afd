/-! digest -/
def dgF (f : Nat → Int) (h : Int) : Nat → Int
  | 0 => h
  | k + 1 => 31 * dgF f h k + f k
def dgB (a b c d : Nat → Int) (h : Int) : Nat → Int
  | 0 => h
  | k + 1 => 31 * (31 * (31 * (31 * dgB a b c d h k + a k) + b k) + c k) + d k
theorem dgF_cg {f g : Nat → Int} (h : Int) : ∀ k, (∀ i, i < k → f i = g i) → dgF f h k = dgF g h k
  | 0, _ => rfl
  | k + 1, e => by
    show 31 * dgF f h k + f k = 31 * dgF g h k + g k
    rw [dgF_cg h k (fun i hi => e i (by omega)), e k (by omega)]
theorem dgB_cg {a b c d a' b' c' d' : Nat → Int} (h : Int) : ∀ k, (∀ i, i < k → a i = a' i ∧ b i = b' i ∧ c i = c' i ∧ d i = d' i) → dgB a b c d h k = dgB a' b' c' d' h k
  | 0, _ => rfl
  | k + 1, e => by
    obtain ⟨e1, e2, e3, e4⟩ := e k (by omega)
    show 31 * (31 * (31 * (31 * dgB a b c d h k + a k) + b k) + c k) + d k = 31 * (31 * (31 * (31 * dgB a' b' c' d' h k + a' k) + b' k) + c' k) + d' k
    rw [dgB_cg h k (fun i hi => e i (by omega)), e1, e2, e3, e4]
theorem dgF_four (f : Nat → Int) (h : Int) : ∀ c, dgF f h (4 * c) = dgB (fun i => f (4 * i)) (fun i => f (4 * i + 1)) (fun i => f (4 * i + 2)) (fun i => f (4 * i + 3)) h c
  | 0 => rfl
  | c + 1 => by
    show dgF f h (4 * c + 3 + 1) = 31 * (31 * (31 * (31 * dgB (fun i => f (4 * i)) (fun i => f (4 * i + 1)) (fun i => f (4 * i + 2)) (fun i => f (4 * i + 3)) h c + f (4 * c)) + f (4 * c + 1)) + f (4 * c + 2)) + f (4 * c + 3)
    rw [← dgF_four f h c]
    rfl
def cDg3 (ζ : zSt) (n : Nat) : Int := dgF (ζ.1 2) (31 * (31 * dgF (cCnt ζ n) 1327 7 + ζ.1 1 0) + ζ.1 1 1) 8
def cDg4 (ζ : zSt) (n : Nat) : Int := dgB (ζ.1 3) (ζ.1 5) (ζ.1 6) (ζ.1 7) (cDg3 ζ n) n
def cDig (ζ : zSt) (n c : Nat) : Int := 31 * (31 * dgF (ζ.1 8) (cDg4 ζ n) (4 * c) + ζ.1 0 7) + ζ.1 0 8
def mDg3 (ζ : zSt) (n : Nat) : Int := dgF (ζ.1 54) (31 * (31 * dgF (mCnt ζ n) 1327 7 + ζ.1 52 2) + ζ.1 52 3) 8
def mDg4 (ζ : zSt) (n : Nat) : Int := dgB (ζ.1 55) (ζ.1 56) (ζ.1 57) (ζ.1 58) (mDg3 ζ n) n
def mDg5 (ζ : zSt) (n c : Nat) : Int := dgB (ζ.1 59) (ζ.1 60) (ζ.1 61) (ζ.1 62) (mDg4 ζ n) c
def mDig (ζ : zSt) (n c : Nat) : Int := 31 * (31 * mDg5 ζ n c + ζ.2 0) + ζ.2 1
section Dig
variable {l : Launch} {B : eB} {ζ : zSt}
set_option maxHeartbeats 8000000 in
theorem run_X6_digest {n c : Nat} (hc : cOk ζ n) (hcc : ζ.1 1 9 = c) (hc6 : c ≤ 6) (hN : ∀ i, i < 4 * c → -2147483648 ≤ ζ.1 8 i ∧ ζ.1 8 i ≤ 2147483647) (hcb : ∀ k, k < 7 → -2147483648 ≤ cCnt ζ n k ∧ cCnt ζ n k ≤ 2147483647) (h8 : -2147483648 ≤ ζ.1 0 7 ∧ ζ.1 0 7 ≤ 2147483647) (h9 : -2147483648 ≤ ζ.1 0 8 ∧ ζ.1 0 8 ≤ 2147483647) : zRun l B mX6_digest [.ref 0] ζ (some (zl (cDig ζ n c))) ζ := by
  have hc' := hc
  obtain ⟨⟨hn, h0, h1, hh, hp⟩, hn3, hhd⟩ := hc'
  have h0 : 0 ≤ ζ.1 1 0 ∧ ζ.1 1 0 ≤ 7 := h0
  have h1 : 0 ≤ ζ.1 1 1 ∧ ζ.1 1 1 ≤ 240 := h1
  refine zrun_intro (M := mX6_digest) (ls := [some (.ref 0), none, none, none]) (by decide) rfl rfl rfl (Nat.le_of_ble_eq_true rfl) ?_
  intro X A C hX hA hr hk
  replace C : CX X B A mX6_digest.2.2.2.2 RX6 cX6_digest 4 0 0 := C
  have hr : (xMeth X).sig.returnType = (some .long) := hr
  change ZW X B A 4 0 0 _ _ 0 [some (.ref 0), none, none, none] []
  have l5 : ∀ k i : Nat, i + k = 4 * c → ZW X B A 4 0 0 (eFin X B (some (zl (cDig ζ n c))) (zz ζ)) ζ 181 [some (.ref 0), some (zl (dgF (ζ.1 8) (cDg4 ζ n) i)), none, some (zi i)] [] := by
    intro k
    induction k with
    | zero =>
      intro i hik
      have e : i = 4 * c := by omega
      subst e
      refine zw_iload_n (i := 3) (nx := 182) C dX6_digest_181 rfl rfl rfl ?_
      refine zw_aload_n (i := 0) (nx := 183) C dX6_digest_182 rfl rfl rfl ?_
      refine zw_getr (nx := 186) C dX6_digest_183 rfl flX6_12 iq5 rfl rfl rfl rfl ?_
      refine zw_geti (nx := 189) C dX6_digest_186 rfl flX6_196 iq2 rfl rfl rfl rfl ?_
      refine zw_iconst (nx := 190) C dX6_digest_189 rfl ?_
      refine zw_imul (nx := 191) C dX6_digest_190 rfl ?_
      refine zw_icmp_ge (tgt := 217) (nx := 194) C dX6_digest_191 rfl rfl (by omega) (fun h191 => ?_) (fun h191 => by exfalso; omega)
      refine zw_ldc2 (v := 31) (nx := 220) C dX6_digest_217 klX6_248 (by decide) rfl ?_
      refine zw_lload_n (i := 1) (nx := 221) C dX6_digest_220 rfl rfl rfl ?_
      refine zw_lmul (nx := 222) C dX6_digest_221 rfl ?_
      refine zw_aload_n (i := 0) (nx := 223) C dX6_digest_222 rfl rfl rfl ?_
      refine zw_geti (nx := 226) C dX6_digest_223 rfl flX6_51 iq5 rfl rfl rfl rfl ?_
      refine zw_i2l (nx := 227) C dX6_digest_226 (by omega) rfl ?_
      refine zw_ladd (nx := 228) C dX6_digest_227 rfl ?_
      refine zw_lst1 (nx := 229) C (eLst_n dX6_digest_228 rfl rfl) (Nat.le_of_ble_eq_true rfl) rfl ?_
      refine zw_ldc2 (v := 31) (nx := 232) C dX6_digest_229 klX6_248 (by decide) rfl ?_
      refine zw_lload_n (i := 1) (nx := 233) C dX6_digest_232 rfl rfl rfl ?_
      refine zw_lmul (nx := 234) C dX6_digest_233 rfl ?_
      refine zw_aload_n (i := 0) (nx := 235) C dX6_digest_234 rfl rfl rfl ?_
      refine zw_geti (nx := 238) C dX6_digest_235 rfl flX6_55 iq5 rfl rfl rfl rfl ?_
      refine zw_i2l (nx := 239) C dX6_digest_238 (by omega) rfl ?_
      refine zw_ladd (nx := 240) C dX6_digest_239 rfl ?_
      exact zw_lret C hA hr hk dX6_digest_240 rfl rfl
    | succ k ih =>
      intro i hik
      have := hN i (by omega)
      refine zw_iload_n (i := 3) (nx := 182) C dX6_digest_181 rfl rfl rfl ?_
      refine zw_aload_n (i := 0) (nx := 183) C dX6_digest_182 rfl rfl rfl ?_
      refine zw_getr (nx := 186) C dX6_digest_183 rfl flX6_12 iq5 rfl rfl rfl rfl ?_
      refine zw_geti (nx := 189) C dX6_digest_186 rfl flX6_196 iq2 rfl rfl rfl rfl ?_
      refine zw_iconst (nx := 190) C dX6_digest_189 rfl ?_
      refine zw_imul (nx := 191) C dX6_digest_190 rfl ?_
      refine zw_icmp_ge (tgt := 217) (nx := 194) C dX6_digest_191 rfl rfl (by omega) (fun h191 => by exfalso; omega) (fun h191 => ?_)
      refine zw_ldc2 (v := 31) (nx := 197) C dX6_digest_194 klX6_248 (by decide) rfl ?_
      refine zw_lload_n (i := 1) (nx := 198) C dX6_digest_197 rfl rfl rfl ?_
      refine zw_lmul (nx := 199) C dX6_digest_198 rfl ?_
      refine zw_aload_n (i := 0) (nx := 200) C dX6_digest_199 rfl rfl rfl ?_
      refine zw_getr (nx := 203) C dX6_digest_200 rfl flX6_12 iq5 rfl rfl rfl rfl ?_
      refine zw_getr (nx := 206) C dX6_digest_203 rfl flX6_199 iq2 rfl rfl rfl rfl ?_
      refine zw_iload_n (i := 3) (nx := 207) C dX6_digest_206 rfl rfl rfl ?_
      refine zw_iald (i) (nx := 208) C dX6_digest_207 rfl rfl rfl rfl (by omega) ?_
      refine zw_i2l (nx := 209) C dX6_digest_208 (by omega) rfl ?_
      refine zw_ladd (nx := 210) C dX6_digest_209 rfl ?_
      refine zw_lst1 (nx := 211) C (eLst_n dX6_digest_210 rfl rfl) (Nat.le_of_ble_eq_true rfl) rfl ?_
      refine zw_iinc3 (nx := 214) C dX6_digest_211 rfl (Nat.le_of_ble_eq_true rfl) rfl ?_
      refine zw_goto (nx := 181) C dX6_digest_214 rfl ?_
      exact ih (i + 1) (by omega)
  have l4 : ∀ k p : Nat, p + k = n → ZW X B A 4 0 0 (eFin X B (some (zl (cDig ζ n c))) (zz ζ)) ζ 94 [some (.ref 0), some (zl (dgB (ζ.1 3) (ζ.1 5) (ζ.1 6) (ζ.1 7) (cDg3 ζ n) p)), none, some (zi p)] [] := by
    intro k
    induction k with
    | zero =>
      intro p hpk
      have e : p = n := by omega
      subst e
      refine zw_iload_n (i := 3) (nx := 95) C dX6_digest_94 rfl rfl rfl ?_
      refine zw_aload_n (i := 0) (nx := 96) C dX6_digest_95 rfl rfl rfl ?_
      refine zw_getr (nx := 99) C dX6_digest_96 rfl flX6_12 iq5 rfl rfl rfl rfl ?_
      refine zw_geti (nx := 102) C dX6_digest_99 rfl flX6_75 iq2 rfl rfl rfl rfl ?_
      refine zw_icmp_ge (tgt := 179) (nx := 105) C dX6_digest_102 rfl rfl (by omega) (fun h102 => ?_) (fun h102 => by exfalso; omega)
      refine zw_iconst (nx := 180) C dX6_digest_179 rfl ?_
      refine zw_ist3 (nx := 181) C (eIst_n dX6_digest_180 rfl rfl) (Nat.le_of_ble_eq_true rfl) rfl ?_
      exact l5 (4 * c) 0 (by omega)
    | succ k ih =>
      intro p hpk
      have a1 : 0 ≤ ζ.1 3 p ∧ ζ.1 3 p ≤ 5 := (hp p (by omega)).1
      have a2 : 0 ≤ ζ.1 5 p ∧ ζ.1 5 p ≤ 500 := (hp p (by omega)).2.1
      have a3 : 0 ≤ ζ.1 6 p ∧ ζ.1 6 p ≤ 500 := (hp p (by omega)).2.2.1
      have a4 : -1 ≤ ζ.1 7 p ∧ ζ.1 7 p ≤ 7 := (hp p (by omega)).2.2.2
      refine zw_iload_n (i := 3) (nx := 95) C dX6_digest_94 rfl rfl rfl ?_
      refine zw_aload_n (i := 0) (nx := 96) C dX6_digest_95 rfl rfl rfl ?_
      refine zw_getr (nx := 99) C dX6_digest_96 rfl flX6_12 iq5 rfl rfl rfl rfl ?_
      refine zw_geti (nx := 102) C dX6_digest_99 rfl flX6_75 iq2 rfl rfl rfl rfl ?_
      refine zw_icmp_ge (tgt := 179) (nx := 105) C dX6_digest_102 rfl rfl (by omega) (fun h102 => by exfalso; omega) (fun h102 => ?_)
      refine zw_ldc2 (v := 31) (nx := 108) C dX6_digest_105 klX6_248 (by decide) rfl ?_
      refine zw_lload_n (i := 1) (nx := 109) C dX6_digest_108 rfl rfl rfl ?_
      refine zw_lmul (nx := 110) C dX6_digest_109 rfl ?_
      refine zw_aload_n (i := 0) (nx := 111) C dX6_digest_110 rfl rfl rfl ?_
      refine zw_getr (nx := 114) C dX6_digest_111 rfl flX6_12 iq5 rfl rfl rfl rfl ?_
      refine zw_getr (nx := 117) C dX6_digest_114 rfl flX6_160 iq2 rfl rfl rfl rfl ?_
      refine zw_iload_n (i := 3) (nx := 118) C dX6_digest_117 rfl rfl rfl ?_
      refine zw_iald (p) (nx := 119) C dX6_digest_118 rfl rfl rfl rfl (by omega) ?_
      refine zw_i2l (nx := 120) C dX6_digest_119 (by omega) rfl ?_
      refine zw_ladd (nx := 121) C dX6_digest_120 rfl ?_
      refine zw_lst1 (nx := 122) C (eLst_n dX6_digest_121 rfl rfl) (Nat.le_of_ble_eq_true rfl) rfl ?_
      refine zw_ldc2 (v := 31) (nx := 125) C dX6_digest_122 klX6_248 (by decide) rfl ?_
      refine zw_lload_n (i := 1) (nx := 126) C dX6_digest_125 rfl rfl rfl ?_
      refine zw_lmul (nx := 127) C dX6_digest_126 rfl ?_
      refine zw_aload_n (i := 0) (nx := 128) C dX6_digest_127 rfl rfl rfl ?_
      refine zw_getr (nx := 131) C dX6_digest_128 rfl flX6_12 iq5 rfl rfl rfl rfl ?_
      refine zw_getr (nx := 134) C dX6_digest_131 rfl flX6_142 iq2 rfl rfl rfl rfl ?_
      refine zw_iload_n (i := 3) (nx := 135) C dX6_digest_134 rfl rfl rfl ?_
      refine zw_iald (p) (nx := 136) C dX6_digest_135 rfl rfl rfl rfl (by omega) ?_
      refine zw_i2l (nx := 137) C dX6_digest_136 (by omega) rfl ?_
      refine zw_ladd (nx := 138) C dX6_digest_137 rfl ?_
      refine zw_lst1 (nx := 139) C (eLst_n dX6_digest_138 rfl rfl) (Nat.le_of_ble_eq_true rfl) rfl ?_
      refine zw_ldc2 (v := 31) (nx := 142) C dX6_digest_139 klX6_248 (by decide) rfl ?_
      refine zw_lload_n (i := 1) (nx := 143) C dX6_digest_142 rfl rfl rfl ?_
      refine zw_lmul (nx := 144) C dX6_digest_143 rfl ?_
      refine zw_aload_n (i := 0) (nx := 145) C dX6_digest_144 rfl rfl rfl ?_
      refine zw_getr (nx := 148) C dX6_digest_145 rfl flX6_12 iq5 rfl rfl rfl rfl ?_
      refine zw_getr (nx := 151) C dX6_digest_148 rfl flX6_145 iq2 rfl rfl rfl rfl ?_
      refine zw_iload_n (i := 3) (nx := 152) C dX6_digest_151 rfl rfl rfl ?_
      refine zw_iald (p) (nx := 153) C dX6_digest_152 rfl rfl rfl rfl (by omega) ?_
      refine zw_i2l (nx := 154) C dX6_digest_153 (by omega) rfl ?_
      refine zw_ladd (nx := 155) C dX6_digest_154 rfl ?_
      refine zw_lst1 (nx := 156) C (eLst_n dX6_digest_155 rfl rfl) (Nat.le_of_ble_eq_true rfl) rfl ?_
      refine zw_ldc2 (v := 31) (nx := 159) C dX6_digest_156 klX6_248 (by decide) rfl ?_
      refine zw_lload_n (i := 1) (nx := 160) C dX6_digest_159 rfl rfl rfl ?_
      refine zw_lmul (nx := 161) C dX6_digest_160 rfl ?_
      refine zw_aload_n (i := 0) (nx := 162) C dX6_digest_161 rfl rfl rfl ?_
      refine zw_getr (nx := 165) C dX6_digest_162 rfl flX6_12 iq5 rfl rfl rfl rfl ?_
      refine zw_getr (nx := 168) C dX6_digest_165 rfl flX6_148 iq2 rfl rfl rfl rfl ?_
      refine zw_iload_n (i := 3) (nx := 169) C dX6_digest_168 rfl rfl rfl ?_
      refine zw_iald (p) (nx := 170) C dX6_digest_169 rfl rfl rfl rfl (by omega) ?_
      refine zw_i2l (nx := 171) C dX6_digest_170 (by omega) rfl ?_
      refine zw_ladd (nx := 172) C dX6_digest_171 rfl ?_
      refine zw_lst1 (nx := 173) C (eLst_n dX6_digest_172 rfl rfl) (Nat.le_of_ble_eq_true rfl) rfl ?_
      refine zw_iinc3 (nx := 176) C dX6_digest_173 rfl (Nat.le_of_ble_eq_true rfl) rfl ?_
      refine zw_goto (nx := 94) C dX6_digest_176 rfl ?_
      exact ih (p + 1) (by omega)
  have l3 : ∀ k y : Nat, y + k = 8 → ZW X B A 4 0 0 (eFin X B (some (zl (cDig ζ n c))) (zz ζ)) ζ 63 [some (.ref 0), some (zl (dgF (ζ.1 2) (31 * (31 * dgF (cCnt ζ n) 1327 7 + ζ.1 1 0) + ζ.1 1 1) y)), none, some (zi y)] [] := by
    intro k
    induction k with
    | zero =>
      intro y hyk
      have e : y = 8 := by omega
      subst e
      refine zw_iload_n (i := 3) (nx := 64) C dX6_digest_63 rfl rfl rfl ?_
      refine zw_bipush (v := 8) (nx := 66) C dX6_digest_64 (by decide) rfl ?_
      refine zw_icmp_ge (tgt := 92) (nx := 69) C dX6_digest_66 rfl rfl (by omega) (fun h66 => ?_) (fun h66 => by exfalso; omega)
      refine zw_iconst (nx := 93) C dX6_digest_92 rfl ?_
      refine zw_ist3 (nx := 94) C (eIst_n dX6_digest_93 rfl rfl) (Nat.le_of_ble_eq_true rfl) rfl ?_
      exact l4 n 0 (by omega)
    | succ k ih =>
      intro y hyk
      have a1 : 0 ≤ ζ.1 2 y ∧ ζ.1 2 y ≤ 9 := hh y (by omega)
      refine zw_iload_n (i := 3) (nx := 64) C dX6_digest_63 rfl rfl rfl ?_
      refine zw_bipush (v := 8) (nx := 66) C dX6_digest_64 (by decide) rfl ?_
      refine zw_icmp_ge (tgt := 92) (nx := 69) C dX6_digest_66 rfl rfl (by omega) (fun h66 => by exfalso; omega) (fun h66 => ?_)
      refine zw_ldc2 (v := 31) (nx := 72) C dX6_digest_69 klX6_248 (by decide) rfl ?_
      refine zw_lload_n (i := 1) (nx := 73) C dX6_digest_72 rfl rfl rfl ?_
      refine zw_lmul (nx := 74) C dX6_digest_73 rfl ?_
      refine zw_aload_n (i := 0) (nx := 75) C dX6_digest_74 rfl rfl rfl ?_
      refine zw_getr (nx := 78) C dX6_digest_75 rfl flX6_12 iq5 rfl rfl rfl rfl ?_
      refine zw_getr (nx := 81) C dX6_digest_78 rfl flX6_98 iq2 rfl rfl rfl rfl ?_
      refine zw_iload_n (i := 3) (nx := 82) C dX6_digest_81 rfl rfl rfl ?_
      refine zw_iald (y) (nx := 83) C dX6_digest_82 rfl rfl rfl rfl (by omega) ?_
      refine zw_i2l (nx := 84) C dX6_digest_83 (by omega) rfl ?_
      refine zw_ladd (nx := 85) C dX6_digest_84 rfl ?_
      refine zw_lst1 (nx := 86) C (eLst_n dX6_digest_85 rfl rfl) (Nat.le_of_ble_eq_true rfl) rfl ?_
      refine zw_iinc3 (nx := 89) C dX6_digest_86 rfl (Nat.le_of_ble_eq_true rfl) rfl ?_
      refine zw_goto (nx := 63) C dX6_digest_89 rfl ?_
      exact ih (y + 1) (by omega)
  have l1 : ∀ k w : Nat, w + k = 7 → ZW X B A 4 0 0 (eFin X B (some (zl (cDig ζ n c))) (zz ζ)) ζ 6 [some (.ref 0), some (zl (dgF (cCnt ζ n) 1327 w)), none, some (zi w)] [] := by
    intro k
    induction k with
    | zero =>
      intro w hwk
      have e : w = 7 := by omega
      subst e
      refine zw_iload_n (i := 3) (nx := 7) C dX6_digest_6 rfl rfl rfl ?_
      refine zw_bipush (v := 7) (nx := 9) C dX6_digest_7 (by decide) rfl ?_
      refine zw_icmp_ge (tgt := 31) (nx := 12) C dX6_digest_9 rfl rfl (by omega) (fun h9 => ?_) (fun h9 => by exfalso; omega)
      refine zw_ldc2 (v := 31) (nx := 34) C dX6_digest_31 klX6_248 (by decide) rfl ?_
      refine zw_lload_n (i := 1) (nx := 35) C dX6_digest_34 rfl rfl rfl ?_
      refine zw_lmul (nx := 36) C dX6_digest_35 rfl ?_
      refine zw_aload_n (i := 0) (nx := 37) C dX6_digest_36 rfl rfl rfl ?_
      refine zw_getr (nx := 40) C dX6_digest_37 rfl flX6_12 iq5 rfl rfl rfl rfl ?_
      refine zw_geti (nx := 43) C dX6_digest_40 rfl flX6_82 iq2 rfl rfl rfl rfl ?_
      refine zw_i2l (nx := 44) C dX6_digest_43 (by omega) rfl ?_
      refine zw_ladd (nx := 45) C dX6_digest_44 rfl ?_
      refine zw_lst1 (nx := 46) C (eLst_n dX6_digest_45 rfl rfl) (Nat.le_of_ble_eq_true rfl) rfl ?_
      refine zw_ldc2 (v := 31) (nx := 49) C dX6_digest_46 klX6_248 (by decide) rfl ?_
      refine zw_lload_n (i := 1) (nx := 50) C dX6_digest_49 rfl rfl rfl ?_
      refine zw_lmul (nx := 51) C dX6_digest_50 rfl ?_
      refine zw_aload_n (i := 0) (nx := 52) C dX6_digest_51 rfl rfl rfl ?_
      refine zw_getr (nx := 55) C dX6_digest_52 rfl flX6_12 iq5 rfl rfl rfl rfl ?_
      refine zw_geti (nx := 58) C dX6_digest_55 rfl flX6_85 iq2 rfl rfl rfl rfl ?_
      refine zw_i2l (nx := 59) C dX6_digest_58 (by omega) rfl ?_
      refine zw_ladd (nx := 60) C dX6_digest_59 rfl ?_
      refine zw_lst1 (nx := 61) C (eLst_n dX6_digest_60 rfl rfl) (Nat.le_of_ble_eq_true rfl) rfl ?_
      refine zw_iconst (nx := 62) C dX6_digest_61 rfl ?_
      refine zw_ist3 (nx := 63) C (eIst_n dX6_digest_62 rfl rfl) (Nat.le_of_ble_eq_true rfl) rfl ?_
      exact l3 8 0 (by omega)
    | succ k ih =>
      intro w hwk
      have := hcb w (by omega)
      refine zw_iload_n (i := 3) (nx := 7) C dX6_digest_6 rfl rfl rfl ?_
      refine zw_bipush (v := 7) (nx := 9) C dX6_digest_7 (by decide) rfl ?_
      refine zw_icmp_ge (tgt := 31) (nx := 12) C dX6_digest_9 rfl rfl (by omega) (fun h9 => by exfalso; omega) (fun h9 => ?_)
      refine zw_ldc2 (v := 31) (nx := 15) C dX6_digest_12 klX6_248 (by decide) rfl ?_
      refine zw_lload_n (i := 1) (nx := 16) C dX6_digest_15 rfl rfl rfl ?_
      refine zw_lmul (nx := 17) C dX6_digest_16 rfl ?_
      refine zw_aload_n (i := 0) (nx := 18) C dX6_digest_17 rfl rfl rfl ?_
      refine zw_iload_n (i := 3) (nx := 19) C dX6_digest_18 rfl rfl rfl ?_
      refine zw_cV11 (nx := 22) C dX6_digest_19 rfl cvX6_243 rfl rfl ⟨Nat.le_of_ble_eq_true rfl, Nat.le_of_ble_eq_true rfl⟩ rfl rfl (Nat.le_of_ble_eq_true rfl) (run_X6_howMany hc (by omega)) ?_
      refine zw_i2l (nx := 23) C dX6_digest_22 (by omega) rfl ?_
      refine zw_ladd (nx := 24) C dX6_digest_23 rfl ?_
      refine zw_lst1 (nx := 25) C (eLst_n dX6_digest_24 rfl rfl) (Nat.le_of_ble_eq_true rfl) rfl ?_
      refine zw_iinc3 (nx := 28) C dX6_digest_25 rfl (Nat.le_of_ble_eq_true rfl) rfl ?_
      refine zw_goto (nx := 6) C dX6_digest_28 rfl ?_
      exact ih (w + 1) (by omega)
  refine zw_ldc2 (v := 1327) (nx := 3) C dX6_digest_0 klX6_246 (by decide) rfl ?_
  refine zw_lst1 (nx := 4) C (eLst_n dX6_digest_3 rfl rfl) (Nat.le_of_ble_eq_true rfl) rfl ?_
  refine zw_iconst (nx := 5) C dX6_digest_4 rfl ?_
  refine zw_ist3 (nx := 6) C (eIst_n dX6_digest_5 rfl rfl) (Nat.le_of_ble_eq_true rfl) rfl ?_
  exact l1 7 0 (by omega)
theorem zL_mix (ζ : zSt) (h v : Int) : zL (zL ζ 2 h) 2 (31 * (zL ζ 2 h).2 2 + v) = zL ζ 2 (31 * h + v) := by
  refine Prod.ext rfl (funext fun b => ?_)
  show (if b = 2 then _ else if b = 2 then _ else _) = if b = 2 then _ else _
  by_cases e : b = 2
  · rw [if_pos e, if_pos e]; rfl
  · rw [if_neg e, if_neg e, if_neg e]
theorem run_X7_mix {h v : Int} : zRun l B mX7_mix [.ref 52, .long (lI v)] (zL ζ 2 h) none (zL ζ 2 (31 * h + v)) := by
  refine zrun_intro (M := mX7_mix) (ls := [some (.ref 52), some (.long (lI v)), none]) (by decide) rfl rfl rfl (Nat.le_of_ble_eq_true rfl) ?_
  intro X A C hX hA hr hk
  replace C : CX X B A mX7_mix.2.2.2.2 RX7 cX7_mix 3 0 0 := C
  have hr : (xMeth X).sig.returnType = none := hr
  change ZW X B A 3 0 0 _ _ 0 [some (.ref 52), some (.long (lI v)), none] []
  refine zw_aload_n (i := 0) (nx := 1) C dX7_mix_0 rfl rfl rfl ?_
  refine zw_ldc2 (v := 31) (nx := 4) C dX7_mix_1 klX7_298 (by decide) rfl ?_
  refine zw_aload_n (i := 0) (nx := 5) C dX7_mix_4 rfl rfl rfl ?_
  refine zw_getl (nx := 8) C dX7_mix_5 rfl flX7_300 iq6 rfl rfl rfl rfl ?_
  refine zw_lmul (nx := 9) C dX7_mix_8 rfl ?_
  refine zw_lload_n (i := 1) (nx := 10) C dX7_mix_9 rfl rfl rfl ?_
  refine zw_ladd (nx := 11) C dX7_mix_10 rfl ?_
  refine zw_putl (nx := 14) C dX7_mix_11 rfl flX7_300 ic6 nf6_31 rfl rfl rfl rfl hu_31 hv_long rfl ?_
  exact zw_vret C hA hr hk dX7_mix_14 rfl (zL_mix ζ h v).symm
theorem mOk_L {n : Nat} (h : mOk ζ n) (i : Nat) (x : Int) : mOk (zL ζ i x) n := h
set_option maxHeartbeats 8000000 in
theorem run_X7_digest {n c : Nat} (hc : mOk ζ n) (hcc : ζ.1 52 4 = c) (hc6 : c ≤ 6) (hN : ∀ i, i < c → (-2147483648 ≤ ζ.1 59 i ∧ ζ.1 59 i ≤ 2147483647) ∧ (-2147483648 ≤ ζ.1 60 i ∧ ζ.1 60 i ≤ 2147483647) ∧ (-2147483648 ≤ ζ.1 61 i ∧ ζ.1 61 i ≤ 2147483647) ∧ (-2147483648 ≤ ζ.1 62 i ∧ ζ.1 62 i ≤ 2147483647)) (hcb : ∀ k, k < 7 → -2147483648 ≤ mCnt ζ n k ∧ mCnt ζ n k ≤ 2147483647) : zRun l B mX7_digest [.ref 52] ζ (some (zl (mDig ζ n c))) (zL ζ 2 (mDig ζ n c)) := by
  have hc' := hc
  obtain ⟨⟨hn, h0, h1, hh, hp⟩, hn3⟩ := hc'
  have h0 : 0 ≤ ζ.1 52 2 ∧ ζ.1 52 2 ≤ 7 := h0
  have h1 : 0 ≤ ζ.1 52 3 ∧ ζ.1 52 3 ≤ 240 := h1
  refine zrun_intro (M := mX7_digest) (ls := [some (.ref 52), none]) (by decide) rfl rfl rfl (Nat.le_of_ble_eq_true rfl) ?_
  intro X A C hX hA hr hk
  replace C : CX X B A mX7_digest.2.2.2.2 RX7 cX7_digest 2 0 0 := C
  have hr : (xMeth X).sig.returnType = (some .long) := hr
  change ZW X B A 2 0 0 _ _ 0 [some (.ref 52), none] []
  have l5 : ∀ k i : Nat, i + k = c → ZW X B A 2 0 0 (eFin X B (some (zl (mDig ζ n c))) (zz (zL ζ 2 (mDig ζ n c)))) (zL ζ 2 (dgB (ζ.1 59) (ζ.1 60) (ζ.1 61) (ζ.1 62) (mDg4 ζ n) i)) 136 [some (.ref 52), some (zi i)] [] := by
    intro k
    induction k with
    | zero =>
      intro i hik
      have e : i = c := by omega
      subst e
      refine zw_iload_n (i := 1) (nx := 137) C dX7_digest_136 rfl rfl rfl ?_
      refine zw_aload_n (i := 0) (nx := 138) C dX7_digest_137 rfl rfl rfl ?_
      refine zw_geti (nx := 141) C dX7_digest_138 rfl flX7_82 iq6 rfl rfl rfl rfl ?_
      refine zw_icmp_ge (tgt := 194) (nx := 144) C dX7_digest_141 rfl rfl (by first | omega | (simp only [zL_1]; omega)) (fun h141 => ?_) (fun h141 => by exfalso; simp only [zL_1] at h141; omega)
      refine zw_aload_n (i := 0) (nx := 195) C dX7_digest_194 rfl rfl rfl ?_
      refine zw_aload_n (i := 0) (nx := 196) C dX7_digest_195 rfl rfl rfl ?_
      refine zw_getl (nx := 199) C dX7_digest_196 rfl flX7_268 iq6 rfl rfl rfl rfl ?_
      refine zw_cV10 (nx := 202) C dX7_digest_199 rfl cvX7_305 rfl rfl ⟨Nat.le_of_ble_eq_true rfl, Nat.le_of_ble_eq_true rfl⟩ rfl rfl (Nat.le_of_ble_eq_true rfl) (run_X7_mix (v := ζ.2 0)) ?_
      refine zw_aload_n (i := 0) (nx := 203) C dX7_digest_202 rfl rfl rfl ?_
      refine zw_aload_n (i := 0) (nx := 204) C dX7_digest_203 rfl rfl rfl ?_
      refine zw_getl (nx := 207) C dX7_digest_204 rfl flX7_65 iq6 rfl rfl rfl rfl ?_
      refine zw_cV10 (nx := 210) C dX7_digest_207 rfl cvX7_305 rfl rfl ⟨Nat.le_of_ble_eq_true rfl, Nat.le_of_ble_eq_true rfl⟩ rfl rfl (Nat.le_of_ble_eq_true rfl) (run_X7_mix (v := ζ.2 1)) ?_
      refine zw_aload_n (i := 0) (nx := 211) C dX7_digest_210 rfl rfl rfl ?_
      refine zw_getl (nx := 214) C dX7_digest_211 rfl flX7_300 iq6 rfl rfl rfl rfl ?_
      exact zw_lret C hA hr hk dX7_digest_214 rfl rfl
    | succ k ih =>
      intro i hik
      obtain ⟨b1, b2, b3, b4⟩ := hN i (by omega)
      refine zw_iload_n (i := 1) (nx := 137) C dX7_digest_136 rfl rfl rfl ?_
      refine zw_aload_n (i := 0) (nx := 138) C dX7_digest_137 rfl rfl rfl ?_
      refine zw_geti (nx := 141) C dX7_digest_138 rfl flX7_82 iq6 rfl rfl rfl rfl ?_
      refine zw_icmp_ge (tgt := 194) (nx := 144) C dX7_digest_141 rfl rfl (by first | omega | (simp only [zL_1]; omega)) (fun h141 => by exfalso; simp only [zL_1] at h141; omega) (fun h141 => ?_)
      refine zw_aload_n (i := 0) (nx := 145) C dX7_digest_144 rfl rfl rfl ?_
      refine zw_aload_n (i := 0) (nx := 146) C dX7_digest_145 rfl rfl rfl ?_
      refine zw_getr (nx := 149) C dX7_digest_146 rfl flX7_35 iq6 rfl rfl rfl rfl ?_
      refine zw_iload_n (i := 1) (nx := 150) C dX7_digest_149 rfl rfl rfl ?_
      refine zw_iald (i) (nx := 151) C dX7_digest_150 rfl rfl rfl rfl (by first | omega | (simp only [zL_1]; omega)) ?_
      refine zw_i2l (nx := 152) C dX7_digest_151 (by first | omega | (simp only [zL_1]; omega)) rfl ?_
      refine zw_cV10 (nx := 155) C dX7_digest_152 rfl cvX7_305 rfl rfl ⟨Nat.le_of_ble_eq_true rfl, Nat.le_of_ble_eq_true rfl⟩ rfl rfl (Nat.le_of_ble_eq_true rfl) (run_X7_mix (v := ζ.1 59 i)) ?_
      refine zw_aload_n (i := 0) (nx := 156) C dX7_digest_155 rfl rfl rfl ?_
      refine zw_aload_n (i := 0) (nx := 157) C dX7_digest_156 rfl rfl rfl ?_
      refine zw_getr (nx := 160) C dX7_digest_157 rfl flX7_38 iq6 rfl rfl rfl rfl ?_
      refine zw_iload_n (i := 1) (nx := 161) C dX7_digest_160 rfl rfl rfl ?_
      refine zw_iald (i) (nx := 162) C dX7_digest_161 rfl rfl rfl rfl (by first | omega | (simp only [zL_1]; omega)) ?_
      refine zw_i2l (nx := 163) C dX7_digest_162 (by first | omega | (simp only [zL_1]; omega)) rfl ?_
      refine zw_cV10 (nx := 166) C dX7_digest_163 rfl cvX7_305 rfl rfl ⟨Nat.le_of_ble_eq_true rfl, Nat.le_of_ble_eq_true rfl⟩ rfl rfl (Nat.le_of_ble_eq_true rfl) (run_X7_mix (v := ζ.1 60 i)) ?_
      refine zw_aload_n (i := 0) (nx := 167) C dX7_digest_166 rfl rfl rfl ?_
      refine zw_aload_n (i := 0) (nx := 168) C dX7_digest_167 rfl rfl rfl ?_
      refine zw_getr (nx := 171) C dX7_digest_168 rfl flX7_41 iq6 rfl rfl rfl rfl ?_
      refine zw_iload_n (i := 1) (nx := 172) C dX7_digest_171 rfl rfl rfl ?_
      refine zw_iald (i) (nx := 173) C dX7_digest_172 rfl rfl rfl rfl (by first | omega | (simp only [zL_1]; omega)) ?_
      refine zw_i2l (nx := 174) C dX7_digest_173 (by first | omega | (simp only [zL_1]; omega)) rfl ?_
      refine zw_cV10 (nx := 177) C dX7_digest_174 rfl cvX7_305 rfl rfl ⟨Nat.le_of_ble_eq_true rfl, Nat.le_of_ble_eq_true rfl⟩ rfl rfl (Nat.le_of_ble_eq_true rfl) (run_X7_mix (v := ζ.1 61 i)) ?_
      refine zw_aload_n (i := 0) (nx := 178) C dX7_digest_177 rfl rfl rfl ?_
      refine zw_aload_n (i := 0) (nx := 179) C dX7_digest_178 rfl rfl rfl ?_
      refine zw_getr (nx := 182) C dX7_digest_179 rfl flX7_44 iq6 rfl rfl rfl rfl ?_
      refine zw_iload_n (i := 1) (nx := 183) C dX7_digest_182 rfl rfl rfl ?_
      refine zw_iald (i) (nx := 184) C dX7_digest_183 rfl rfl rfl rfl (by first | omega | (simp only [zL_1]; omega)) ?_
      refine zw_i2l (nx := 185) C dX7_digest_184 (by first | omega | (simp only [zL_1]; omega)) rfl ?_
      refine zw_cV10 (nx := 188) C dX7_digest_185 rfl cvX7_305 rfl rfl ⟨Nat.le_of_ble_eq_true rfl, Nat.le_of_ble_eq_true rfl⟩ rfl rfl (Nat.le_of_ble_eq_true rfl) (run_X7_mix (v := ζ.1 62 i)) ?_
      refine zw_iinc1 (nx := 191) C dX7_digest_188 rfl (Nat.le_of_ble_eq_true rfl) rfl ?_
      refine zw_goto (nx := 136) C dX7_digest_191 rfl ?_
      exact ih (i + 1) (by omega)
  have l4 : ∀ k p : Nat, p + k = n → ZW X B A 2 0 0 (eFin X B (some (zl (mDig ζ n c))) (zz (zL ζ 2 (mDig ζ n c)))) (zL ζ 2 (dgB (ζ.1 55) (ζ.1 56) (ζ.1 57) (ζ.1 58) (mDg3 ζ n) p)) 76 [some (.ref 52), some (zi p)] [] := by
    intro k
    induction k with
    | zero =>
      intro p hpk
      have e : p = n := by omega
      subst e
      refine zw_iload_n (i := 1) (nx := 77) C dX7_digest_76 rfl rfl rfl ?_
      refine zw_aload_n (i := 0) (nx := 78) C dX7_digest_77 rfl rfl rfl ?_
      refine zw_geti (nx := 81) C dX7_digest_78 rfl flX7_79 iq6 rfl rfl rfl rfl ?_
      refine zw_icmp_ge (tgt := 134) (nx := 84) C dX7_digest_81 rfl rfl (by first | omega | (simp only [zL_1]; omega)) (fun h81 => ?_) (fun h81 => by exfalso; simp only [zL_1] at h81; omega)
      refine zw_iconst (nx := 135) C dX7_digest_134 rfl ?_
      refine zw_ist1 (nx := 136) C (eIst_n dX7_digest_135 rfl rfl) (Nat.le_of_ble_eq_true rfl) rfl ?_
      exact l5 c 0 (by omega)
    | succ k ih =>
      intro p hpk
      have a1 : 0 ≤ ζ.1 55 p ∧ ζ.1 55 p ≤ 5 := (hp p (by omega)).1
      have a2 : 0 ≤ ζ.1 56 p ∧ ζ.1 56 p ≤ 500 := (hp p (by omega)).2.1
      have a3 : 0 ≤ ζ.1 57 p ∧ ζ.1 57 p ≤ 500 := (hp p (by omega)).2.2.1
      have a4 : -1 ≤ ζ.1 58 p ∧ ζ.1 58 p ≤ 7 := (hp p (by omega)).2.2.2
      refine zw_iload_n (i := 1) (nx := 77) C dX7_digest_76 rfl rfl rfl ?_
      refine zw_aload_n (i := 0) (nx := 78) C dX7_digest_77 rfl rfl rfl ?_
      refine zw_geti (nx := 81) C dX7_digest_78 rfl flX7_79 iq6 rfl rfl rfl rfl ?_
      refine zw_icmp_ge (tgt := 134) (nx := 84) C dX7_digest_81 rfl rfl (by first | omega | (simp only [zL_1]; omega)) (fun h81 => by exfalso; simp only [zL_1] at h81; omega) (fun h81 => ?_)
      refine zw_aload_n (i := 0) (nx := 85) C dX7_digest_84 rfl rfl rfl ?_
      refine zw_aload_n (i := 0) (nx := 86) C dX7_digest_85 rfl rfl rfl ?_
      refine zw_getr (nx := 89) C dX7_digest_86 rfl flX7_23 iq6 rfl rfl rfl rfl ?_
      refine zw_iload_n (i := 1) (nx := 90) C dX7_digest_89 rfl rfl rfl ?_
      refine zw_iald (p) (nx := 91) C dX7_digest_90 rfl rfl rfl rfl (by first | omega | (simp only [zL_1]; omega)) ?_
      refine zw_i2l (nx := 92) C dX7_digest_91 (by first | omega | (simp only [zL_1]; omega)) rfl ?_
      refine zw_cV10 (nx := 95) C dX7_digest_92 rfl cvX7_305 rfl rfl ⟨Nat.le_of_ble_eq_true rfl, Nat.le_of_ble_eq_true rfl⟩ rfl rfl (Nat.le_of_ble_eq_true rfl) (run_X7_mix (v := ζ.1 55 p)) ?_
      refine zw_aload_n (i := 0) (nx := 96) C dX7_digest_95 rfl rfl rfl ?_
      refine zw_aload_n (i := 0) (nx := 97) C dX7_digest_96 rfl rfl rfl ?_
      refine zw_getr (nx := 100) C dX7_digest_97 rfl flX7_26 iq6 rfl rfl rfl rfl ?_
      refine zw_iload_n (i := 1) (nx := 101) C dX7_digest_100 rfl rfl rfl ?_
      refine zw_iald (p) (nx := 102) C dX7_digest_101 rfl rfl rfl rfl (by first | omega | (simp only [zL_1]; omega)) ?_
      refine zw_i2l (nx := 103) C dX7_digest_102 (by first | omega | (simp only [zL_1]; omega)) rfl ?_
      refine zw_cV10 (nx := 106) C dX7_digest_103 rfl cvX7_305 rfl rfl ⟨Nat.le_of_ble_eq_true rfl, Nat.le_of_ble_eq_true rfl⟩ rfl rfl (Nat.le_of_ble_eq_true rfl) (run_X7_mix (v := ζ.1 56 p)) ?_
      refine zw_aload_n (i := 0) (nx := 107) C dX7_digest_106 rfl rfl rfl ?_
      refine zw_aload_n (i := 0) (nx := 108) C dX7_digest_107 rfl rfl rfl ?_
      refine zw_getr (nx := 111) C dX7_digest_108 rfl flX7_29 iq6 rfl rfl rfl rfl ?_
      refine zw_iload_n (i := 1) (nx := 112) C dX7_digest_111 rfl rfl rfl ?_
      refine zw_iald (p) (nx := 113) C dX7_digest_112 rfl rfl rfl rfl (by first | omega | (simp only [zL_1]; omega)) ?_
      refine zw_i2l (nx := 114) C dX7_digest_113 (by first | omega | (simp only [zL_1]; omega)) rfl ?_
      refine zw_cV10 (nx := 117) C dX7_digest_114 rfl cvX7_305 rfl rfl ⟨Nat.le_of_ble_eq_true rfl, Nat.le_of_ble_eq_true rfl⟩ rfl rfl (Nat.le_of_ble_eq_true rfl) (run_X7_mix (v := ζ.1 57 p)) ?_
      refine zw_aload_n (i := 0) (nx := 118) C dX7_digest_117 rfl rfl rfl ?_
      refine zw_aload_n (i := 0) (nx := 119) C dX7_digest_118 rfl rfl rfl ?_
      refine zw_getr (nx := 122) C dX7_digest_119 rfl flX7_32 iq6 rfl rfl rfl rfl ?_
      refine zw_iload_n (i := 1) (nx := 123) C dX7_digest_122 rfl rfl rfl ?_
      refine zw_iald (p) (nx := 124) C dX7_digest_123 rfl rfl rfl rfl (by first | omega | (simp only [zL_1]; omega)) ?_
      refine zw_i2l (nx := 125) C dX7_digest_124 (by first | omega | (simp only [zL_1]; omega)) rfl ?_
      refine zw_cV10 (nx := 128) C dX7_digest_125 rfl cvX7_305 rfl rfl ⟨Nat.le_of_ble_eq_true rfl, Nat.le_of_ble_eq_true rfl⟩ rfl rfl (Nat.le_of_ble_eq_true rfl) (run_X7_mix (v := ζ.1 58 p)) ?_
      refine zw_iinc1 (nx := 131) C dX7_digest_128 rfl (Nat.le_of_ble_eq_true rfl) rfl ?_
      refine zw_goto (nx := 76) C dX7_digest_131 rfl ?_
      exact ih (p + 1) (by omega)
  have l3 : ∀ k y : Nat, y + k = 8 → ZW X B A 2 0 0 (eFin X B (some (zl (mDig ζ n c))) (zz (zL ζ 2 (mDig ζ n c)))) (zL ζ 2 (dgF (ζ.1 54) (31 * (31 * dgF (mCnt ζ n) 1327 7 + ζ.1 52 2) + ζ.1 52 3) y)) 51 [some (.ref 52), some (zi y)] [] := by
    intro k
    induction k with
    | zero =>
      intro y hyk
      have e : y = 8 := by omega
      subst e
      refine zw_iload_n (i := 1) (nx := 52) C dX7_digest_51 rfl rfl rfl ?_
      refine zw_bipush (v := 8) (nx := 54) C dX7_digest_52 (by decide) rfl ?_
      refine zw_icmp_ge (tgt := 74) (nx := 57) C dX7_digest_54 rfl rfl (by first | omega | (simp only [zL_1]; omega)) (fun h54 => ?_) (fun h54 => by exfalso; omega)
      refine zw_iconst (nx := 75) C dX7_digest_74 rfl ?_
      refine zw_ist1 (nx := 76) C (eIst_n dX7_digest_75 rfl rfl) (Nat.le_of_ble_eq_true rfl) rfl ?_
      exact l4 n 0 (by omega)
    | succ k ih =>
      intro y hyk
      have a1 : 0 ≤ ζ.1 54 y ∧ ζ.1 54 y ≤ 9 := hh y (by omega)
      refine zw_iload_n (i := 1) (nx := 52) C dX7_digest_51 rfl rfl rfl ?_
      refine zw_bipush (v := 8) (nx := 54) C dX7_digest_52 (by decide) rfl ?_
      refine zw_icmp_ge (tgt := 74) (nx := 57) C dX7_digest_54 rfl rfl (by first | omega | (simp only [zL_1]; omega)) (fun h54 => by exfalso; omega) (fun h54 => ?_)
      refine zw_aload_n (i := 0) (nx := 58) C dX7_digest_57 rfl rfl rfl ?_
      refine zw_aload_n (i := 0) (nx := 59) C dX7_digest_58 rfl rfl rfl ?_
      refine zw_getr (nx := 62) C dX7_digest_59 rfl flX7_20 iq6 rfl rfl rfl rfl ?_
      refine zw_iload_n (i := 1) (nx := 63) C dX7_digest_62 rfl rfl rfl ?_
      refine zw_iald (y) (nx := 64) C dX7_digest_63 rfl rfl rfl rfl (by first | omega | (simp only [zL_1]; omega)) ?_
      refine zw_i2l (nx := 65) C dX7_digest_64 (by first | omega | (simp only [zL_1]; omega)) rfl ?_
      refine zw_cV10 (nx := 68) C dX7_digest_65 rfl cvX7_305 rfl rfl ⟨Nat.le_of_ble_eq_true rfl, Nat.le_of_ble_eq_true rfl⟩ rfl rfl (Nat.le_of_ble_eq_true rfl) (run_X7_mix (v := ζ.1 54 y)) ?_
      refine zw_iinc1 (nx := 71) C dX7_digest_68 rfl (Nat.le_of_ble_eq_true rfl) rfl ?_
      refine zw_goto (nx := 51) C dX7_digest_71 rfl ?_
      exact ih (y + 1) (by omega)
  have l1 : ∀ k w : Nat, w + k = 7 → ZW X B A 2 0 0 (eFin X B (some (zl (mDig ζ n c))) (zz (zL ζ 2 (mDig ζ n c)))) (zL ζ 2 (dgF (mCnt ζ n) 1327 w)) 9 [some (.ref 52), some (zi w)] [] := by
    intro k
    induction k with
    | zero =>
      intro w hwk
      have e : w = 7 := by omega
      subst e
      refine zw_iload_n (i := 1) (nx := 10) C dX7_digest_9 rfl rfl rfl ?_
      refine zw_bipush (v := 6) (nx := 12) C dX7_digest_10 (by decide) rfl ?_
      refine zw_icmp_gt (tgt := 31) (nx := 15) C dX7_digest_12 rfl rfl (by first | omega | (simp only [zL_1]; omega)) (fun h12 => ?_) (fun h12 => by exfalso; omega)
      refine zw_aload_n (i := 0) (nx := 32) C dX7_digest_31 rfl rfl rfl ?_
      refine zw_aload_n (i := 0) (nx := 33) C dX7_digest_32 rfl rfl rfl ?_
      refine zw_geti (nx := 36) C dX7_digest_33 rfl flX7_13 iq6 rfl rfl rfl rfl ?_
      refine zw_i2l (nx := 37) C dX7_digest_36 (by first | omega | (simp only [zL_1]; omega)) rfl ?_
      refine zw_cV10 (nx := 40) C dX7_digest_37 rfl cvX7_305 rfl rfl ⟨Nat.le_of_ble_eq_true rfl, Nat.le_of_ble_eq_true rfl⟩ rfl rfl (Nat.le_of_ble_eq_true rfl) (run_X7_mix (v := ζ.1 52 2)) ?_
      refine zw_aload_n (i := 0) (nx := 41) C dX7_digest_40 rfl rfl rfl ?_
      refine zw_aload_n (i := 0) (nx := 42) C dX7_digest_41 rfl rfl rfl ?_
      refine zw_geti (nx := 45) C dX7_digest_42 rfl flX7_17 iq6 rfl rfl rfl rfl ?_
      refine zw_i2l (nx := 46) C dX7_digest_45 (by first | omega | (simp only [zL_1]; omega)) rfl ?_
      refine zw_cV10 (nx := 49) C dX7_digest_46 rfl cvX7_305 rfl rfl ⟨Nat.le_of_ble_eq_true rfl, Nat.le_of_ble_eq_true rfl⟩ rfl rfl (Nat.le_of_ble_eq_true rfl) (run_X7_mix (v := ζ.1 52 3)) ?_
      refine zw_iconst (nx := 50) C dX7_digest_49 rfl ?_
      refine zw_ist1 (nx := 51) C (eIst_n dX7_digest_50 rfl rfl) (Nat.le_of_ble_eq_true rfl) rfl ?_
      exact l3 8 0 (by omega)
    | succ k ih =>
      intro w hwk
      have hw7 := hcb w (by omega)
      refine zw_iload_n (i := 1) (nx := 10) C dX7_digest_9 rfl rfl rfl ?_
      refine zw_bipush (v := 6) (nx := 12) C dX7_digest_10 (by decide) rfl ?_
      refine zw_icmp_gt (tgt := 31) (nx := 15) C dX7_digest_12 rfl rfl (by first | omega | (simp only [zL_1]; omega)) (fun h12 => by exfalso; omega) (fun h12 => ?_)
      refine zw_aload_n (i := 0) (nx := 16) C dX7_digest_15 rfl rfl rfl ?_
      refine zw_aload_n (i := 0) (nx := 17) C dX7_digest_16 rfl rfl rfl ?_
      refine zw_iload_n (i := 1) (nx := 18) C dX7_digest_17 rfl rfl rfl ?_
      refine zw_cV11 (nx := 21) C dX7_digest_18 rfl cvX7_295 rfl rfl ⟨Nat.le_of_ble_eq_true rfl, Nat.le_of_ble_eq_true rfl⟩ rfl rfl (Nat.le_of_ble_eq_true rfl) (run_X7_countOf (mOk_L hc 2 _) (by omega)) ?_
      change ZW X B A 2 0 0 _ _ 21 _ [zi (mCnt ζ n w), _]
      refine zw_i2l (nx := 22) C dX7_digest_21 (by first | omega | (simp only [zL_1]; omega)) rfl ?_
      refine zw_cV10 (nx := 25) C dX7_digest_22 rfl cvX7_305 rfl rfl ⟨Nat.le_of_ble_eq_true rfl, Nat.le_of_ble_eq_true rfl⟩ rfl rfl (Nat.le_of_ble_eq_true rfl) (run_X7_mix (v := mCnt ζ n w)) ?_
      refine zw_iinc1 (nx := 28) C dX7_digest_25 rfl (Nat.le_of_ble_eq_true rfl) rfl ?_
      refine zw_goto (nx := 9) C dX7_digest_28 rfl ?_
      exact ih (w + 1) (by omega)
  refine zw_aload_n (i := 0) (nx := 1) C dX7_digest_0 rfl rfl rfl ?_
  refine zw_ldc2 (v := 1327) (nx := 4) C dX7_digest_1 klX7_303 (by decide) rfl ?_
  refine zw_putl (nx := 7) C dX7_digest_4 rfl flX7_300 ic6 nf6_31 rfl rfl rfl rfl hu_31 hv_long rfl ?_
  refine zw_iconst (nx := 8) C dX7_digest_7 rfl ?_
  refine zw_ist1 (nx := 9) C (eIst_n dX7_digest_8 rfl rfl) (Nat.le_of_ble_eq_true rfl) rfl ?_
  exact l1 7 0 (by omega)
end Dig
