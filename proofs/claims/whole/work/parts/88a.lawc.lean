/-! the law: its own rules, its cases -/
theorem i32_bd (x : Int32) : -2147483648 ≤ x.toInt ∧ x.toInt ≤ 2147483647 := by
  have h1 := Int32.le_toInt x
  have h2 := Int32.toInt_lt x
  omega
/-- the script, at the cell 2000 -/
def SX (X : eX) (B : eB) (A : Nat → Prop) (L : Nat) (xs : Nat → Int32) : Prop := (va_X (B.2.2 2000) L xs (xS X) (xS X).heap ∧ B.2.2 2000 < (xS X).heap.size ∧ ¬ A (B.2.2 2000)) ∧ L ≤ 2560
theorem SX.grow {X : eX} {B B' : eB} {A : Nat → Prop} {L n : Nat} {xs : Nat → Int32} (h : SX X B A L xs) (hg : eGr B B' n) : SX X B' A L xs := by
  unfold SX at h ⊢
  rw [hg.2.1 2000 (by omega)]
  exact h
theorem ni_law (i : Nat) : ∀ (j : Nat) (v : Value), ([some (.ref 2000), some (.ref 0), some (.ref 52), some (zi i)] : List (Option Value))[j]? = some (some v) → eNi v := by
  intro j v h
  match j, h with
  | 0, h => cases h; exact (by decide : ¬ (20 ≤ 2000 ∧ 2000 ≤ 37))
  | 1, h => cases h; exact (by decide : ¬ (20 ≤ 0 ∧ 0 ≤ 37))
  | 2, h => cases h; exact (by decide : ¬ (20 ≤ 52 ∧ 52 ≤ 37))
  | 3, h => cases h; trivial
  | j + 4, h => simp at h
theorem lg_self (x : Int64) : lg_cmp x x = 0 := by simp [lg_cmp]
section LawR
variable {X : eX} {B : eB} {A : Nat → Prop} {R : Room} {own : String} {cc : ByteArray} {nL kc ks : Nat} {Q : State → Prop} {ζ : zSt} {pc nx : Nat} {ls : List (Option Value)} {st : List Value}
theorem zw_sld {L : Nat} {xs : Nat → Int32} {z : Int} (i : Nat) (S : SX X B A L xs) (C : CX X B A R own cc nL kc ks) (d : decode cc pc = .ok (.iaload, 1)) (hn : pc + 1 = nx) (h : z = i ∧ i < L) (k : ZW X B A nL kc ks Q ζ nx ls (zi (xs i).toInt :: st)) : ZW X B A nL kc ks Q ζ pc ls (zi z :: .ref 2000 :: st) := by
  have hz := iI_in h (by have := S.2; omega)
  subst hn
  have k' : ZW X B A nL kc ks Q ζ (pc + 1) ls (.int (iI (xs i).toInt) :: st) := k
  rw [iI_of] at k'
  intro H locs la hP hD hS hl
  refine va_sld C.1 C.2.1 S.1.1 S.1.2.1 S.1.2.2 hS hz.1 d ?_
  rw [hz.2]
  exact k' H locs la hP hD hS hl
theorem zw_slen {L : Nat} {xs : Nat → Int32} (S : SX X B A L xs) (C : CX X B A R own cc nL kc ks) (d : decode cc pc = .ok (.arraylength, 1)) (hn : pc + 1 = nx) (k : ZW X B A nL kc ks Q ζ nx ls (zi L :: st)) : ZW X B A nL kc ks Q ζ pc ls (.ref 2000 :: st) := by
  subst hn
  have k' : ZW X B A nL kc ks Q ζ (pc + 1) ls (.int (iI (L : Int)) :: st) := k
  rw [iI_n] at k'
  intro H locs la hP hD hS hl
  exact va_slen C.1 C.2.1 S.1.1 S.1.2.1 S.1.2.2 hS d (k' H locs la hP hD hS hl)
theorem zw_eqq {z : Int} {off : Int} {tgt : Nat} (C : CX X B A R own cc nL kc ks) (d : decode cc pc = .ok (.if_icmp .eq off, 3)) (ht : (pc : Int) + off = (tgt : Int)) (k : ZW X B A nL kc ks Q ζ tgt ls st) : ZW X B A nL kc ks Q ζ pc ls (zi z :: zi z :: st) := ww_icmp_eq C d ht rfl (fun _ => k) (fun q => absurd rfl q)
theorem zw_lqq {z : Int} {off : Int} {tgt p1 : Nat} (C : CX X B A R own cc nL kc ks) (d : decode cc pc = .ok (.lcmp, 1)) (h1 : pc + 1 = p1) (d2 : decode cc p1 = .ok (.ifCond .eq off, 3)) (ht : (p1 : Int) + off = (tgt : Int)) (k : ZW X B A nL kc ks Q ζ tgt ls st) : ZW X B A nL kc ks Q ζ pc ls (zl z :: zl z :: st) := ww_lcmp C d h1 (by
  rw [lg_self]
  exact ww_if_eq C d2 ht rfl (fun _ => k) (fun q => absurd rfl q))
end LawR
section LawC
variable {X : eX} {B : eB} {A : Nat → Prop} {kc ks L : Nat} {xs : Nat → Int32} {Q : State → Prop} {ζ : zSt}
theorem lc_0 (C : CX X B A room_1 RL cL_law 4 kc ks) (S : SX X B A L xs) (i : Nat) (hi : i + 5 ≤ L) (hR : Rel ζ) (hcs : kc + 9 ≤ room_1.cells ∧ ks + 190 ≤ room_1.slots) (nxt : ∀ (B : eB) (kc' ks' : Nat) (η : zSt), CX X B A room_1 RL cL_law 4 kc' ks' → SX X B A L xs → kc' ≤ kc + 9 → ks' ≤ ks + 190 → Rel η → ZW X B A 4 kc' ks' Q η 1071 [some (.ref 2000), some (.ref 0), some (.ref 52), some (zi i)] []) : ZW X B A 4 kc ks Q ζ 180 [some (.ref 2000), some (.ref 0), some (.ref 52), some (zi i)] [] := by
  obtain ⟨z, ζ1, ζ2, r1, r2, hR2⟩ := st_hill (l := xLa X) (B := B) hR (i32_bd (xs (i + 1))) (i32_bd (xs (i + 2)))
  refine zw_aload_n (i := 1) (nx := 181) C dL_law_180 rfl rfl rfl ?_
  refine zw_aload_n (i := 0) (nx := 182) C dL_law_181 rfl rfl rfl ?_
  refine zw_iload_n (i := 3) (nx := 183) C dL_law_182 rfl rfl rfl ?_
  refine zw_iconst (nx := 184) C dL_law_183 rfl ?_
  refine zw_iadd (nx := 185) C dL_law_184 rfl ?_
  refine zw_sld (i + 1) (nx := 186) S C dL_law_185 rfl (by omega) ?_
  refine zw_aload_n (i := 0) (nx := 187) C dL_law_186 rfl rfl rfl ?_
  refine zw_iload_n (i := 3) (nx := 188) C dL_law_187 rfl rfl rfl ?_
  refine zw_iconst (nx := 189) C dL_law_188 rfl ?_
  refine zw_iadd (nx := 190) C dL_law_189 rfl ?_
  refine zw_sld (i + 2) (nx := 191) S C dL_law_190 rfl (by omega) ?_
  refine zw_cV21 (nx := 194) C dL_law_191 rfl cvL_13 rfl rfl ⟨Nat.le_of_ble_eq_true rfl, Nat.le_of_ble_eq_true rfl⟩ rfl rfl (Nat.le_of_ble_eq_true rfl) r1 ?_
  refine zw_aload_n (i := 2) (nx := 195) C dL_law_194 rfl rfl rfl ?_
  refine zw_aload_n (i := 0) (nx := 196) C dL_law_195 rfl rfl rfl ?_
  refine zw_iload_n (i := 3) (nx := 197) C dL_law_196 rfl rfl rfl ?_
  refine zw_iconst (nx := 198) C dL_law_197 rfl ?_
  refine zw_iadd (nx := 199) C dL_law_198 rfl ?_
  refine zw_sld (i + 1) (nx := 200) S C dL_law_199 rfl (by omega) ?_
  refine zw_aload_n (i := 0) (nx := 201) C dL_law_200 rfl rfl rfl ?_
  refine zw_iload_n (i := 3) (nx := 202) C dL_law_201 rfl rfl rfl ?_
  refine zw_iconst (nx := 203) C dL_law_202 rfl ?_
  refine zw_iadd (nx := 204) C dL_law_203 rfl ?_
  refine zw_sld (i + 2) (nx := 205) S C dL_law_204 rfl (by omega) ?_
  refine zw_cV21 (nx := 208) C dL_law_205 rfl cvL_17 rfl rfl ⟨Nat.le_of_ble_eq_true rfl, Nat.le_of_ble_eq_true rfl⟩ rfl rfl (Nat.le_of_ble_eq_true rfl) r2 ?_
  refine zw_eqq (tgt := 1071) C dL_law_208 rfl ?_
  exact nxt _ _ _ ζ2 C S (Nat.le_add_right _ _) (Nat.le_add_right _ _) hR2
theorem lc_1 (C : CX X B A room_1 RL cL_law 4 kc ks) (S : SX X B A L xs) (i : Nat) (hi : i + 5 ≤ L) (hR : Rel ζ) (hcs : kc + 9 ≤ room_1.cells ∧ ks + 190 ≤ room_1.slots) (nxt : ∀ (B : eB) (kc' ks' : Nat) (η : zSt), CX X B A room_1 RL cL_law 4 kc' ks' → SX X B A L xs → kc' ≤ kc + 9 → ks' ≤ ks + 190 → Rel η → ZW X B A 4 kc' ks' Q η 1071 [some (.ref 2000), some (.ref 0), some (.ref 52), some (zi i)] []) : ZW X B A 4 kc ks Q ζ 213 [some (.ref 2000), some (.ref 0), some (.ref 52), some (zi i)] [] := by
  obtain ⟨z, ζ1, ζ2, r1, r2, hR2⟩ := st_track (l := xLa X) (B := B) hR (i32_bd (xs (i + 1))) (i32_bd (xs (i + 2)))
  refine zw_aload_n (i := 1) (nx := 214) C dL_law_213 rfl rfl rfl ?_
  refine zw_aload_n (i := 0) (nx := 215) C dL_law_214 rfl rfl rfl ?_
  refine zw_iload_n (i := 3) (nx := 216) C dL_law_215 rfl rfl rfl ?_
  refine zw_iconst (nx := 217) C dL_law_216 rfl ?_
  refine zw_iadd (nx := 218) C dL_law_217 rfl ?_
  refine zw_sld (i + 1) (nx := 219) S C dL_law_218 rfl (by omega) ?_
  refine zw_aload_n (i := 0) (nx := 220) C dL_law_219 rfl rfl rfl ?_
  refine zw_iload_n (i := 3) (nx := 221) C dL_law_220 rfl rfl rfl ?_
  refine zw_iconst (nx := 222) C dL_law_221 rfl ?_
  refine zw_iadd (nx := 223) C dL_law_222 rfl ?_
  refine zw_sld (i + 2) (nx := 224) S C dL_law_223 rfl (by omega) ?_
  refine zw_cV21 (nx := 227) C dL_law_224 rfl cvL_18 rfl rfl ⟨Nat.le_of_ble_eq_true rfl, Nat.le_of_ble_eq_true rfl⟩ rfl rfl (Nat.le_of_ble_eq_true rfl) r1 ?_
  refine zw_aload_n (i := 2) (nx := 228) C dL_law_227 rfl rfl rfl ?_
  refine zw_aload_n (i := 0) (nx := 229) C dL_law_228 rfl rfl rfl ?_
  refine zw_iload_n (i := 3) (nx := 230) C dL_law_229 rfl rfl rfl ?_
  refine zw_iconst (nx := 231) C dL_law_230 rfl ?_
  refine zw_iadd (nx := 232) C dL_law_231 rfl ?_
  refine zw_sld (i + 1) (nx := 233) S C dL_law_232 rfl (by omega) ?_
  refine zw_aload_n (i := 0) (nx := 234) C dL_law_233 rfl rfl rfl ?_
  refine zw_iload_n (i := 3) (nx := 235) C dL_law_234 rfl rfl rfl ?_
  refine zw_iconst (nx := 236) C dL_law_235 rfl ?_
  refine zw_iadd (nx := 237) C dL_law_236 rfl ?_
  refine zw_sld (i + 2) (nx := 238) S C dL_law_237 rfl (by omega) ?_
  refine zw_cV21 (nx := 241) C dL_law_238 rfl cvL_21 rfl rfl ⟨Nat.le_of_ble_eq_true rfl, Nat.le_of_ble_eq_true rfl⟩ rfl rfl (Nat.le_of_ble_eq_true rfl) r2 ?_
  refine zw_eqq (tgt := 1071) C dL_law_241 rfl ?_
  exact nxt _ _ _ ζ2 C S (Nat.le_add_right _ _) (Nat.le_add_right _ _) hR2
theorem lc_2 (C : CX X B A room_1 RL cL_law 4 kc ks) (S : SX X B A L xs) (i : Nat) (hi : i + 5 ≤ L) (hR : Rel ζ) (hcs : kc + 9 ≤ room_1.cells ∧ ks + 190 ≤ room_1.slots) (nxt : ∀ (B : eB) (kc' ks' : Nat) (η : zSt), CX X B A room_1 RL cL_law 4 kc' ks' → SX X B A L xs → kc' ≤ kc + 9 → ks' ≤ ks + 190 → Rel η → ZW X B A 4 kc' ks' Q η 1071 [some (.ref 2000), some (.ref 0), some (.ref 52), some (zi i)] []) : ZW X B A 4 kc ks Q ζ 246 [some (.ref 2000), some (.ref 0), some (.ref 52), some (zi i)] [] := by
  obtain ⟨z, ζ1, ζ2, r1, r2, hR2⟩ := st_height (l := xLa X) (B := B) hR (i32_bd (xs (i + 1))) (i32_bd (xs (i + 2)))
  refine zw_aload_n (i := 1) (nx := 247) C dL_law_246 rfl rfl rfl ?_
  refine zw_aload_n (i := 0) (nx := 248) C dL_law_247 rfl rfl rfl ?_
  refine zw_iload_n (i := 3) (nx := 249) C dL_law_248 rfl rfl rfl ?_
  refine zw_iconst (nx := 250) C dL_law_249 rfl ?_
  refine zw_iadd (nx := 251) C dL_law_250 rfl ?_
  refine zw_sld (i + 1) (nx := 252) S C dL_law_251 rfl (by omega) ?_
  refine zw_aload_n (i := 0) (nx := 253) C dL_law_252 rfl rfl rfl ?_
  refine zw_iload_n (i := 3) (nx := 254) C dL_law_253 rfl rfl rfl ?_
  refine zw_iconst (nx := 255) C dL_law_254 rfl ?_
  refine zw_iadd (nx := 256) C dL_law_255 rfl ?_
  refine zw_sld (i + 2) (nx := 257) S C dL_law_256 rfl (by omega) ?_
  refine zw_cV21 (nx := 260) C dL_law_257 rfl cvL_22 rfl rfl ⟨Nat.le_of_ble_eq_true rfl, Nat.le_of_ble_eq_true rfl⟩ rfl rfl (Nat.le_of_ble_eq_true rfl) r1 ?_
  refine zw_aload_n (i := 2) (nx := 261) C dL_law_260 rfl rfl rfl ?_
  refine zw_aload_n (i := 0) (nx := 262) C dL_law_261 rfl rfl rfl ?_
  refine zw_iload_n (i := 3) (nx := 263) C dL_law_262 rfl rfl rfl ?_
  refine zw_iconst (nx := 264) C dL_law_263 rfl ?_
  refine zw_iadd (nx := 265) C dL_law_264 rfl ?_
  refine zw_sld (i + 1) (nx := 266) S C dL_law_265 rfl (by omega) ?_
  refine zw_aload_n (i := 0) (nx := 267) C dL_law_266 rfl rfl rfl ?_
  refine zw_iload_n (i := 3) (nx := 268) C dL_law_267 rfl rfl rfl ?_
  refine zw_iconst (nx := 269) C dL_law_268 rfl ?_
  refine zw_iadd (nx := 270) C dL_law_269 rfl ?_
  refine zw_sld (i + 2) (nx := 271) S C dL_law_270 rfl (by omega) ?_
  refine zw_cV21 (nx := 274) C dL_law_271 rfl cvL_25 rfl rfl ⟨Nat.le_of_ble_eq_true rfl, Nat.le_of_ble_eq_true rfl⟩ rfl rfl (Nat.le_of_ble_eq_true rfl) r2 ?_
  refine zw_eqq (tgt := 1071) C dL_law_274 rfl ?_
  exact nxt _ _ _ ζ2 C S (Nat.le_add_right _ _) (Nat.le_add_right _ _) hR2
theorem lc_3 (C : CX X B A room_1 RL cL_law 4 kc ks) (S : SX X B A L xs) (i : Nat) (hi : i + 5 ≤ L) (hR : Rel ζ) (hcs : kc + 9 ≤ room_1.cells ∧ ks + 190 ≤ room_1.slots) (nxt : ∀ (B : eB) (kc' ks' : Nat) (η : zSt), CX X B A room_1 RL cL_law 4 kc' ks' → SX X B A L xs → kc' ≤ kc + 9 → ks' ≤ ks + 190 → Rel η → ZW X B A 4 kc' ks' Q η 1071 [some (.ref 2000), some (.ref 0), some (.ref 52), some (zi i)] []) : ZW X B A 4 kc ks Q ζ 279 [some (.ref 2000), some (.ref 0), some (.ref 52), some (zi i)] [] := by
  obtain ⟨z, ζ1, ζ2, r1, r2, hR2⟩ := st_one (l := xLa X) (B := B) hR (i32_bd (xs (i + 1))) (i32_bd (xs (i + 2)))
  refine zw_aload_n (i := 1) (nx := 280) C dL_law_279 rfl rfl rfl ?_
  refine zw_aload_n (i := 0) (nx := 281) C dL_law_280 rfl rfl rfl ?_
  refine zw_iload_n (i := 3) (nx := 282) C dL_law_281 rfl rfl rfl ?_
  refine zw_iconst (nx := 283) C dL_law_282 rfl ?_
  refine zw_iadd (nx := 284) C dL_law_283 rfl ?_
  refine zw_sld (i + 1) (nx := 285) S C dL_law_284 rfl (by omega) ?_
  refine zw_aload_n (i := 0) (nx := 286) C dL_law_285 rfl rfl rfl ?_
  refine zw_iload_n (i := 3) (nx := 287) C dL_law_286 rfl rfl rfl ?_
  refine zw_iconst (nx := 288) C dL_law_287 rfl ?_
  refine zw_iadd (nx := 289) C dL_law_288 rfl ?_
  refine zw_sld (i + 2) (nx := 290) S C dL_law_289 rfl (by omega) ?_
  refine zw_cV21 (nx := 293) C dL_law_290 rfl cvL_26 rfl rfl ⟨Nat.le_of_ble_eq_true rfl, Nat.le_of_ble_eq_true rfl⟩ rfl rfl (Nat.le_of_ble_eq_true rfl) r1 ?_
  refine zw_aload_n (i := 2) (nx := 294) C dL_law_293 rfl rfl rfl ?_
  refine zw_aload_n (i := 0) (nx := 295) C dL_law_294 rfl rfl rfl ?_
  refine zw_iload_n (i := 3) (nx := 296) C dL_law_295 rfl rfl rfl ?_
  refine zw_iconst (nx := 297) C dL_law_296 rfl ?_
  refine zw_iadd (nx := 298) C dL_law_297 rfl ?_
  refine zw_sld (i + 1) (nx := 299) S C dL_law_298 rfl (by omega) ?_
  refine zw_aload_n (i := 0) (nx := 300) C dL_law_299 rfl rfl rfl ?_
  refine zw_iload_n (i := 3) (nx := 301) C dL_law_300 rfl rfl rfl ?_
  refine zw_iconst (nx := 302) C dL_law_301 rfl ?_
  refine zw_iadd (nx := 303) C dL_law_302 rfl ?_
  refine zw_sld (i + 2) (nx := 304) S C dL_law_303 rfl (by omega) ?_
  refine zw_cV21 (nx := 307) C dL_law_304 rfl cvL_29 rfl rfl ⟨Nat.le_of_ble_eq_true rfl, Nat.le_of_ble_eq_true rfl⟩ rfl rfl (Nat.le_of_ble_eq_true rfl) r2 ?_
  refine zw_eqq (tgt := 1071) C dL_law_307 rfl ?_
  exact nxt _ _ _ ζ2 C S (Nat.le_add_right _ _) (Nat.le_add_right _ _) hR2
theorem lc_4 (C : CX X B A room_1 RL cL_law 4 kc ks) (S : SX X B A L xs) (i : Nat) (hi : i + 5 ≤ L) (hR : Rel ζ) (hcs : kc + 9 ≤ room_1.cells ∧ ks + 190 ≤ room_1.slots) (nxt : ∀ (B : eB) (kc' ks' : Nat) (η : zSt), CX X B A room_1 RL cL_law 4 kc' ks' → SX X B A L xs → kc' ≤ kc + 9 → ks' ≤ ks + 190 → Rel η → ZW X B A 4 kc' ks' Q η 1071 [some (.ref 2000), some (.ref 0), some (.ref 52), some (zi i)] []) : ZW X B A 4 kc ks Q ζ 312 [some (.ref 2000), some (.ref 0), some (.ref 52), some (zi i)] [] := by
  obtain ⟨z, ζ1, ζ2, r1, r2, hR2⟩ := st_type (l := xLa X) (B := B) hR (i32_bd (xs (i + 1)))
  refine zw_aload_n (i := 1) (nx := 313) C dL_law_312 rfl rfl rfl ?_
  refine zw_aload_n (i := 0) (nx := 314) C dL_law_313 rfl rfl rfl ?_
  refine zw_iload_n (i := 3) (nx := 315) C dL_law_314 rfl rfl rfl ?_
  refine zw_iconst (nx := 316) C dL_law_315 rfl ?_
  refine zw_iadd (nx := 317) C dL_law_316 rfl ?_
  refine zw_sld (i + 1) (nx := 318) S C dL_law_317 rfl (by omega) ?_
  refine zw_cV11 (nx := 321) C dL_law_318 rfl cvL_30 rfl rfl ⟨Nat.le_of_ble_eq_true rfl, Nat.le_of_ble_eq_true rfl⟩ rfl rfl (Nat.le_of_ble_eq_true rfl) r1 ?_
  refine zw_aload_n (i := 2) (nx := 322) C dL_law_321 rfl rfl rfl ?_
  refine zw_aload_n (i := 0) (nx := 323) C dL_law_322 rfl rfl rfl ?_
  refine zw_iload_n (i := 3) (nx := 324) C dL_law_323 rfl rfl rfl ?_
  refine zw_iconst (nx := 325) C dL_law_324 rfl ?_
  refine zw_iadd (nx := 326) C dL_law_325 rfl ?_
  refine zw_sld (i + 1) (nx := 327) S C dL_law_326 rfl (by omega) ?_
  refine zw_cV11 (nx := 330) C dL_law_327 rfl cvL_34 rfl rfl ⟨Nat.le_of_ble_eq_true rfl, Nat.le_of_ble_eq_true rfl⟩ rfl rfl (Nat.le_of_ble_eq_true rfl) r2 ?_
  refine zw_eqq (tgt := 1071) C dL_law_330 rfl ?_
  exact nxt _ _ _ ζ2 C S (Nat.le_add_right _ _) (Nat.le_add_right _ _) hR2
theorem lc_5 (C : CX X B A room_1 RL cL_law 4 kc ks) (S : SX X B A L xs) (i : Nat) (hi : i + 5 ≤ L) (hR : Rel ζ) (hcs : kc + 9 ≤ room_1.cells ∧ ks + 190 ≤ room_1.slots) (nxt : ∀ (B : eB) (kc' ks' : Nat) (η : zSt), CX X B A room_1 RL cL_law 4 kc' ks' → SX X B A L xs → kc' ≤ kc + 9 → ks' ≤ ks + 190 → Rel η → ZW X B A 4 kc' ks' Q η 1071 [some (.ref 2000), some (.ref 0), some (.ref 52), some (zi i)] []) : ZW X B A 4 kc ks Q ζ 335 [some (.ref 2000), some (.ref 0), some (.ref 52), some (zi i)] [] := by
  obtain ⟨z, ζ1, ζ2, r1, r2, hR2⟩ := st_clear (l := xLa X) (B := B) hR
  refine zw_aload_n (i := 1) (nx := 336) C dL_law_335 rfl rfl rfl ?_
  refine zw_cV01 (nx := 339) C dL_law_336 rfl cvL_35 rfl rfl ⟨Nat.le_of_ble_eq_true rfl, Nat.le_of_ble_eq_true rfl⟩ rfl rfl (Nat.le_of_ble_eq_true rfl) r1 ?_
  refine zw_aload_n (i := 2) (nx := 340) C dL_law_339 rfl rfl rfl ?_
  refine zw_cV01 (nx := 343) C dL_law_340 rfl cvL_39 rfl rfl ⟨Nat.le_of_ble_eq_true rfl, Nat.le_of_ble_eq_true rfl⟩ rfl rfl (Nat.le_of_ble_eq_true rfl) r2 ?_
  refine zw_eqq (tgt := 1071) C dL_law_343 rfl ?_
  exact nxt _ _ _ ζ2 C S (Nat.le_add_right _ _) (Nat.le_add_right _ _) hR2
theorem lc_6 (C : CX X B A room_1 RL cL_law 4 kc ks) (S : SX X B A L xs) (i : Nat) (hi : i + 5 ≤ L) (hR : Rel ζ) (hcs : kc + 9 ≤ room_1.cells ∧ ks + 190 ≤ room_1.slots) (nxt : ∀ (B : eB) (kc' ks' : Nat) (η : zSt), CX X B A room_1 RL cL_law 4 kc' ks' → SX X B A L xs → kc' ≤ kc + 9 → ks' ≤ ks + 190 → Rel η → ZW X B A 4 kc' ks' Q η 1071 [some (.ref 2000), some (.ref 0), some (.ref 52), some (zi i)] []) : ZW X B A 4 kc ks Q ζ 348 [some (.ref 2000), some (.ref 0), some (.ref 52), some (zi i)] [] := by
  obtain ⟨z, ζ1, ζ2, r1, r2, hR2⟩ := st_read (l := xLa X) (B := B) hR
  refine zw_aload_n (i := 1) (nx := 349) C dL_law_348 rfl rfl rfl ?_
  refine zw_cV01 (nx := 352) C dL_law_349 rfl cvL_40 rfl rfl ⟨Nat.le_of_ble_eq_true rfl, Nat.le_of_ble_eq_true rfl⟩ rfl rfl (Nat.le_of_ble_eq_true rfl) r1 ?_
  refine zw_aload_n (i := 2) (nx := 353) C dL_law_352 rfl rfl rfl ?_
  refine zw_cV01 (nx := 356) C dL_law_353 rfl cvL_43 rfl rfl ⟨Nat.le_of_ble_eq_true rfl, Nat.le_of_ble_eq_true rfl⟩ rfl rfl (Nat.le_of_ble_eq_true rfl) r2 ?_
  refine zw_eqq (tgt := 1071) C dL_law_356 rfl ?_
  exact nxt _ _ _ ζ2 C S (Nat.le_add_right _ _) (Nat.le_add_right _ _) hR2
theorem lc_7 (C : CX X B A room_1 RL cL_law 4 kc ks) (S : SX X B A L xs) (i : Nat) (hi : i + 5 ≤ L) (hR : Rel ζ) (hcs : kc + 9 ≤ room_1.cells ∧ ks + 190 ≤ room_1.slots) (nxt : ∀ (B : eB) (kc' ks' : Nat) (η : zSt), CX X B A room_1 RL cL_law 4 kc' ks' → SX X B A L xs → kc' ≤ kc + 9 → ks' ≤ ks + 190 → Rel η → ZW X B A 4 kc' ks' Q η 1071 [some (.ref 2000), some (.ref 0), some (.ref 52), some (zi i)] []) : ZW X B A 4 kc ks Q ζ 361 [some (.ref 2000), some (.ref 0), some (.ref 52), some (zi i)] [] := by
  obtain ⟨z, ζ1, ζ2, r1, r2, hR2⟩ := st_sell (l := xLa X) (B := B) hR (i32_bd (xs (i + 1)))
  refine zw_aload_n (i := 1) (nx := 362) C dL_law_361 rfl rfl rfl ?_
  refine zw_aload_n (i := 0) (nx := 363) C dL_law_362 rfl rfl rfl ?_
  refine zw_iload_n (i := 3) (nx := 364) C dL_law_363 rfl rfl rfl ?_
  refine zw_iconst (nx := 365) C dL_law_364 rfl ?_
  refine zw_iadd (nx := 366) C dL_law_365 rfl ?_
  refine zw_sld (i + 1) (nx := 367) S C dL_law_366 rfl (by omega) ?_
  refine zw_cV11 (nx := 370) C dL_law_367 rfl cvL_44 rfl rfl ⟨Nat.le_of_ble_eq_true rfl, Nat.le_of_ble_eq_true rfl⟩ rfl rfl (Nat.le_of_ble_eq_true rfl) r1 ?_
  refine zw_aload_n (i := 2) (nx := 371) C dL_law_370 rfl rfl rfl ?_
  refine zw_aload_n (i := 0) (nx := 372) C dL_law_371 rfl rfl rfl ?_
  refine zw_iload_n (i := 3) (nx := 373) C dL_law_372 rfl rfl rfl ?_
  refine zw_iconst (nx := 374) C dL_law_373 rfl ?_
  refine zw_iadd (nx := 375) C dL_law_374 rfl ?_
  refine zw_sld (i + 1) (nx := 376) S C dL_law_375 rfl (by omega) ?_
  refine zw_cV11 (nx := 379) C dL_law_376 rfl cvL_47 rfl rfl ⟨Nat.le_of_ble_eq_true rfl, Nat.le_of_ble_eq_true rfl⟩ rfl rfl (Nat.le_of_ble_eq_true rfl) r2 ?_
  refine zw_eqq (tgt := 1071) C dL_law_379 rfl ?_
  exact nxt _ _ _ ζ2 C S (Nat.le_add_right _ _) (Nat.le_add_right _ _) hR2
theorem lc_8 (C : CX X B A room_1 RL cL_law 4 kc ks) (S : SX X B A L xs) (i : Nat) (hi : i + 5 ≤ L) (hR : Rel ζ) (hcs : kc + 9 ≤ room_1.cells ∧ ks + 190 ≤ room_1.slots) (nxt : ∀ (B : eB) (kc' ks' : Nat) (η : zSt), CX X B A room_1 RL cL_law 4 kc' ks' → SX X B A L xs → kc' ≤ kc + 9 → ks' ≤ ks + 190 → Rel η → ZW X B A 4 kc' ks' Q η 1071 [some (.ref 2000), some (.ref 0), some (.ref 52), some (zi i)] []) : ZW X B A 4 kc ks Q ζ 384 [some (.ref 2000), some (.ref 0), some (.ref 52), some (zi i)] [] := by
  obtain ⟨z, ζ1, ζ2, r1, r2, hR2⟩ := st_leave (l := xLa X) (B := B) hR (i32_bd (xs (i + 1)))
  refine zw_aload_n (i := 1) (nx := 385) C dL_law_384 rfl rfl rfl ?_
  refine zw_aload_n (i := 0) (nx := 386) C dL_law_385 rfl rfl rfl ?_
  refine zw_iload_n (i := 3) (nx := 387) C dL_law_386 rfl rfl rfl ?_
  refine zw_iconst (nx := 388) C dL_law_387 rfl ?_
  refine zw_iadd (nx := 389) C dL_law_388 rfl ?_
  refine zw_sld (i + 1) (nx := 390) S C dL_law_389 rfl (by omega) ?_
  refine zw_cV11 (nx := 393) C dL_law_390 rfl cvL_48 rfl rfl ⟨Nat.le_of_ble_eq_true rfl, Nat.le_of_ble_eq_true rfl⟩ rfl rfl (Nat.le_of_ble_eq_true rfl) r1 ?_
  refine zw_aload_n (i := 2) (nx := 394) C dL_law_393 rfl rfl rfl ?_
  refine zw_aload_n (i := 0) (nx := 395) C dL_law_394 rfl rfl rfl ?_
  refine zw_iload_n (i := 3) (nx := 396) C dL_law_395 rfl rfl rfl ?_
  refine zw_iconst (nx := 397) C dL_law_396 rfl ?_
  refine zw_iadd (nx := 398) C dL_law_397 rfl ?_
  refine zw_sld (i + 1) (nx := 399) S C dL_law_398 rfl (by omega) ?_
  refine zw_cV11 (nx := 402) C dL_law_399 rfl cvL_51 rfl rfl ⟨Nat.le_of_ble_eq_true rfl, Nat.le_of_ble_eq_true rfl⟩ rfl rfl (Nat.le_of_ble_eq_true rfl) r2 ?_
  refine zw_eqq (tgt := 1071) C dL_law_402 rfl ?_
  exact nxt _ _ _ ζ2 C S (Nat.le_add_right _ _) (Nat.le_add_right _ _) hR2
theorem lc_9 (C : CX X B A room_1 RL cL_law 4 kc ks) (S : SX X B A L xs) (i : Nat) (hi : i + 5 ≤ L) (hR : Rel ζ) (hcs : kc + 9 ≤ room_1.cells ∧ ks + 190 ≤ room_1.slots) (nxt : ∀ (B : eB) (kc' ks' : Nat) (η : zSt), CX X B A room_1 RL cL_law 4 kc' ks' → SX X B A L xs → kc' ≤ kc + 9 → ks' ≤ ks + 190 → Rel η → ZW X B A 4 kc' ks' Q η 1071 [some (.ref 2000), some (.ref 0), some (.ref 52), some (zi i)] []) : ZW X B A 4 kc ks Q ζ 407 [some (.ref 2000), some (.ref 0), some (.ref 52), some (zi i)] [] := by
  obtain ⟨z, ζ1, ζ2, r1, r2, hR2⟩ := st_moves (l := xLa X) (B := B) hR (i32_bd (xs (i + 1))) (i32_bd (xs (i + 2)))
  refine zw_aload_n (i := 1) (nx := 408) C dL_law_407 rfl rfl rfl ?_
  refine zw_aload_n (i := 0) (nx := 409) C dL_law_408 rfl rfl rfl ?_
  refine zw_iload_n (i := 3) (nx := 410) C dL_law_409 rfl rfl rfl ?_
  refine zw_iconst (nx := 411) C dL_law_410 rfl ?_
  refine zw_iadd (nx := 412) C dL_law_411 rfl ?_
  refine zw_sld (i + 1) (nx := 413) S C dL_law_412 rfl (by omega) ?_
  refine zw_aload_n (i := 0) (nx := 414) C dL_law_413 rfl rfl rfl ?_
  refine zw_iload_n (i := 3) (nx := 415) C dL_law_414 rfl rfl rfl ?_
  refine zw_iconst (nx := 416) C dL_law_415 rfl ?_
  refine zw_iadd (nx := 417) C dL_law_416 rfl ?_
  refine zw_sld (i + 2) (nx := 418) S C dL_law_417 rfl (by omega) ?_
  refine zw_cV21 (nx := 421) C dL_law_418 rfl cvL_52 rfl rfl ⟨Nat.le_of_ble_eq_true rfl, Nat.le_of_ble_eq_true rfl⟩ rfl rfl (Nat.le_of_ble_eq_true rfl) r1 ?_
  refine zw_aload_n (i := 2) (nx := 422) C dL_law_421 rfl rfl rfl ?_
  refine zw_aload_n (i := 0) (nx := 423) C dL_law_422 rfl rfl rfl ?_
  refine zw_iload_n (i := 3) (nx := 424) C dL_law_423 rfl rfl rfl ?_
  refine zw_iconst (nx := 425) C dL_law_424 rfl ?_
  refine zw_iadd (nx := 426) C dL_law_425 rfl ?_
  refine zw_sld (i + 1) (nx := 427) S C dL_law_426 rfl (by omega) ?_
  refine zw_aload_n (i := 0) (nx := 428) C dL_law_427 rfl rfl rfl ?_
  refine zw_iload_n (i := 3) (nx := 429) C dL_law_428 rfl rfl rfl ?_
  refine zw_iconst (nx := 430) C dL_law_429 rfl ?_
  refine zw_iadd (nx := 431) C dL_law_430 rfl ?_
  refine zw_sld (i + 2) (nx := 432) S C dL_law_431 rfl (by omega) ?_
  refine zw_cV21 (nx := 435) C dL_law_432 rfl cvL_55 rfl rfl ⟨Nat.le_of_ble_eq_true rfl, Nat.le_of_ble_eq_true rfl⟩ rfl rfl (Nat.le_of_ble_eq_true rfl) r2 ?_
  refine zw_eqq (tgt := 1071) C dL_law_435 rfl ?_
  exact nxt _ _ _ ζ2 C S (Nat.le_add_right _ _) (Nat.le_add_right _ _) hR2
theorem lc_10 (C : CX X B A room_1 RL cL_law 4 kc ks) (S : SX X B A L xs) (i : Nat) (hi : i + 5 ≤ L) (hR : Rel ζ) (hcs : kc + 9 ≤ room_1.cells ∧ ks + 190 ≤ room_1.slots) (nxt : ∀ (B : eB) (kc' ks' : Nat) (η : zSt), CX X B A room_1 RL cL_law 4 kc' ks' → SX X B A L xs → kc' ≤ kc + 9 → ks' ≤ ks + 190 → Rel η → ZW X B A 4 kc' ks' Q η 1071 [some (.ref 2000), some (.ref 0), some (.ref 52), some (zi i)] []) : ZW X B A 4 kc ks Q ζ 440 [some (.ref 2000), some (.ref 0), some (.ref 52), some (zi i)] [] := by
  obtain ⟨z, ζ1, ζ2, r1, r2, hR2⟩ := st_undo (l := xLa X) (B := B) hR
  refine zw_aload_n (i := 1) (nx := 441) C dL_law_440 rfl rfl rfl ?_
  refine zw_cV01 (nx := 444) C dL_law_441 rfl cvL_56 rfl rfl ⟨Nat.le_of_ble_eq_true rfl, Nat.le_of_ble_eq_true rfl⟩ rfl rfl (Nat.le_of_ble_eq_true rfl) r1 ?_
  refine zw_aload_n (i := 2) (nx := 445) C dL_law_444 rfl rfl rfl ?_
  refine zw_cV01 (nx := 448) C dL_law_445 rfl cvL_59 rfl rfl ⟨Nat.le_of_ble_eq_true rfl, Nat.le_of_ble_eq_true rfl⟩ rfl rfl (Nat.le_of_ble_eq_true rfl) r2 ?_
  refine zw_eqq (tgt := 1071) C dL_law_448 rfl ?_
  exact nxt _ _ _ ζ2 C S (Nat.le_add_right _ _) (Nat.le_add_right _ _) hR2
theorem lc_11 (C : CX X B A room_1 RL cL_law 4 kc ks) (S : SX X B A L xs) (i : Nat) (hi : i + 5 ≤ L) (hR : Rel ζ) (hcs : kc + 9 ≤ room_1.cells ∧ ks + 190 ≤ room_1.slots) (nxt : ∀ (B : eB) (kc' ks' : Nat) (η : zSt), CX X B A room_1 RL cL_law 4 kc' ks' → SX X B A L xs → kc' ≤ kc + 9 → ks' ≤ ks + 190 → Rel η → ZW X B A 4 kc' ks' Q η 1071 [some (.ref 2000), some (.ref 0), some (.ref 52), some (zi i)] []) : ZW X B A 4 kc ks Q ζ 453 [some (.ref 2000), some (.ref 0), some (.ref 52), some (zi i)] [] := by
  obtain ⟨z, ζ1, ζ2, r1, r2, hR2⟩ := st_of (l := xLa X) (B := B) hR (i32_bd (xs (i + 1))) (i32_bd (xs (i + 2)))
  refine zw_aload_n (i := 1) (nx := 454) C dL_law_453 rfl rfl rfl ?_
  refine zw_aload_n (i := 0) (nx := 455) C dL_law_454 rfl rfl rfl ?_
  refine zw_iload_n (i := 3) (nx := 456) C dL_law_455 rfl rfl rfl ?_
  refine zw_iconst (nx := 457) C dL_law_456 rfl ?_
  refine zw_iadd (nx := 458) C dL_law_457 rfl ?_
  refine zw_sld (i + 1) (nx := 459) S C dL_law_458 rfl (by omega) ?_
  refine zw_aload_n (i := 0) (nx := 460) C dL_law_459 rfl rfl rfl ?_
  refine zw_iload_n (i := 3) (nx := 461) C dL_law_460 rfl rfl rfl ?_
  refine zw_iconst (nx := 462) C dL_law_461 rfl ?_
  refine zw_iadd (nx := 463) C dL_law_462 rfl ?_
  refine zw_sld (i + 2) (nx := 464) S C dL_law_463 rfl (by omega) ?_
  refine zw_cV21 (nx := 467) C dL_law_464 rfl cvL_60 rfl rfl ⟨Nat.le_of_ble_eq_true rfl, Nat.le_of_ble_eq_true rfl⟩ rfl rfl (Nat.le_of_ble_eq_true rfl) r1 ?_
  refine zw_aload_n (i := 2) (nx := 468) C dL_law_467 rfl rfl rfl ?_
  refine zw_aload_n (i := 0) (nx := 469) C dL_law_468 rfl rfl rfl ?_
  refine zw_iload_n (i := 3) (nx := 470) C dL_law_469 rfl rfl rfl ?_
  refine zw_iconst (nx := 471) C dL_law_470 rfl ?_
  refine zw_iadd (nx := 472) C dL_law_471 rfl ?_
  refine zw_sld (i + 1) (nx := 473) S C dL_law_472 rfl (by omega) ?_
  refine zw_aload_n (i := 0) (nx := 474) C dL_law_473 rfl rfl rfl ?_
  refine zw_iload_n (i := 3) (nx := 475) C dL_law_474 rfl rfl rfl ?_
  refine zw_iconst (nx := 476) C dL_law_475 rfl ?_
  refine zw_iadd (nx := 477) C dL_law_476 rfl ?_
  refine zw_sld (i + 2) (nx := 478) S C dL_law_477 rfl (by omega) ?_
  refine zw_cV21 (nx := 481) C dL_law_478 rfl cvL_63 rfl rfl ⟨Nat.le_of_ble_eq_true rfl, Nat.le_of_ble_eq_true rfl⟩ rfl rfl (Nat.le_of_ble_eq_true rfl) r2 ?_
  refine zw_eqq (tgt := 1071) C dL_law_481 rfl ?_
  exact nxt _ _ _ ζ2 C S (Nat.le_add_right _ _) (Nat.le_add_right _ _) hR2
theorem lc_12 (C : CX X B A room_1 RL cL_law 4 kc ks) (S : SX X B A L xs) (i : Nat) (hi : i + 5 ≤ L) (hR : Rel ζ) (hcs : kc + 9 ≤ room_1.cells ∧ ks + 190 ≤ room_1.slots) (nxt : ∀ (B : eB) (kc' ks' : Nat) (η : zSt), CX X B A room_1 RL cL_law 4 kc' ks' → SX X B A L xs → kc' ≤ kc + 9 → ks' ≤ ks + 190 → Rel η → ZW X B A 4 kc' ks' Q η 1071 [some (.ref 2000), some (.ref 0), some (.ref 52), some (zi i)] []) : ZW X B A 4 kc ks Q ζ 486 [some (.ref 2000), some (.ref 0), some (.ref 52), some (zi i)] [] := by
  obtain ⟨z, ζ1, ζ2, r1, r2, hR2⟩ := st_yard (l := xLa X) (B := B) hR (i32_bd (xs (i + 1))) (i32_bd (xs (i + 2)))
  refine zw_aload_n (i := 1) (nx := 487) C dL_law_486 rfl rfl rfl ?_
  refine zw_aload_n (i := 0) (nx := 488) C dL_law_487 rfl rfl rfl ?_
  refine zw_iload_n (i := 3) (nx := 489) C dL_law_488 rfl rfl rfl ?_
  refine zw_iconst (nx := 490) C dL_law_489 rfl ?_
  refine zw_iadd (nx := 491) C dL_law_490 rfl ?_
  refine zw_sld (i + 1) (nx := 492) S C dL_law_491 rfl (by omega) ?_
  refine zw_aload_n (i := 0) (nx := 493) C dL_law_492 rfl rfl rfl ?_
  refine zw_iload_n (i := 3) (nx := 494) C dL_law_493 rfl rfl rfl ?_
  refine zw_iconst (nx := 495) C dL_law_494 rfl ?_
  refine zw_iadd (nx := 496) C dL_law_495 rfl ?_
  refine zw_sld (i + 2) (nx := 497) S C dL_law_496 rfl (by omega) ?_
  refine zw_cV21 (nx := 500) C dL_law_497 rfl cvL_64 rfl rfl ⟨Nat.le_of_ble_eq_true rfl, Nat.le_of_ble_eq_true rfl⟩ rfl rfl (Nat.le_of_ble_eq_true rfl) r1 ?_
  refine zw_aload_n (i := 2) (nx := 501) C dL_law_500 rfl rfl rfl ?_
  refine zw_aload_n (i := 0) (nx := 502) C dL_law_501 rfl rfl rfl ?_
  refine zw_iload_n (i := 3) (nx := 503) C dL_law_502 rfl rfl rfl ?_
  refine zw_iconst (nx := 504) C dL_law_503 rfl ?_
  refine zw_iadd (nx := 505) C dL_law_504 rfl ?_
  refine zw_sld (i + 1) (nx := 506) S C dL_law_505 rfl (by omega) ?_
  refine zw_aload_n (i := 0) (nx := 507) C dL_law_506 rfl rfl rfl ?_
  refine zw_iload_n (i := 3) (nx := 508) C dL_law_507 rfl rfl rfl ?_
  refine zw_iconst (nx := 509) C dL_law_508 rfl ?_
  refine zw_iadd (nx := 510) C dL_law_509 rfl ?_
  refine zw_sld (i + 2) (nx := 511) S C dL_law_510 rfl (by omega) ?_
  refine zw_cV21 (nx := 514) C dL_law_511 rfl cvL_67 rfl rfl ⟨Nat.le_of_ble_eq_true rfl, Nat.le_of_ble_eq_true rfl⟩ rfl rfl (Nat.le_of_ble_eq_true rfl) r2 ?_
  refine zw_eqq (tgt := 1071) C dL_law_514 rfl ?_
  exact nxt _ _ _ ζ2 C S (Nat.le_add_right _ _) (Nat.le_add_right _ _) hR2
theorem lc_13 (C : CX X B A room_1 RL cL_law 4 kc ks) (S : SX X B A L xs) (i : Nat) (hi : i + 5 ≤ L) (hR : Rel ζ) (hcs : kc + 9 ≤ room_1.cells ∧ ks + 190 ≤ room_1.slots) (nxt : ∀ (B : eB) (kc' ks' : Nat) (η : zSt), CX X B A room_1 RL cL_law 4 kc' ks' → SX X B A L xs → kc' ≤ kc + 9 → ks' ≤ ks + 190 → Rel η → ZW X B A 4 kc' ks' Q η 1071 [some (.ref 2000), some (.ref 0), some (.ref 52), some (zi i)] []) : ZW X B A 4 kc ks Q ζ 519 [some (.ref 2000), some (.ref 0), some (.ref 52), some (zi i)] [] := by
  obtain ⟨z, ζ1, ζ2, r1, r2, hR2⟩ := st_sees (l := xLa X) (B := B) hR (i32_bd (xs (i + 1))) (i32_bd (xs (i + 2)))
  refine zw_aload_n (i := 1) (nx := 520) C dL_law_519 rfl rfl rfl ?_
  refine zw_aload_n (i := 0) (nx := 521) C dL_law_520 rfl rfl rfl ?_
  refine zw_iload_n (i := 3) (nx := 522) C dL_law_521 rfl rfl rfl ?_
  refine zw_iconst (nx := 523) C dL_law_522 rfl ?_
  refine zw_iadd (nx := 524) C dL_law_523 rfl ?_
  refine zw_sld (i + 1) (nx := 525) S C dL_law_524 rfl (by omega) ?_
  refine zw_aload_n (i := 0) (nx := 526) C dL_law_525 rfl rfl rfl ?_
  refine zw_iload_n (i := 3) (nx := 527) C dL_law_526 rfl rfl rfl ?_
  refine zw_iconst (nx := 528) C dL_law_527 rfl ?_
  refine zw_iadd (nx := 529) C dL_law_528 rfl ?_
  refine zw_sld (i + 2) (nx := 530) S C dL_law_529 rfl (by omega) ?_
  refine zw_cV21 (nx := 533) C dL_law_530 rfl cvL_68 rfl rfl ⟨Nat.le_of_ble_eq_true rfl, Nat.le_of_ble_eq_true rfl⟩ rfl rfl (Nat.le_of_ble_eq_true rfl) r1 ?_
  refine zw_aload_n (i := 2) (nx := 534) C dL_law_533 rfl rfl rfl ?_
  refine zw_aload_n (i := 0) (nx := 535) C dL_law_534 rfl rfl rfl ?_
  refine zw_iload_n (i := 3) (nx := 536) C dL_law_535 rfl rfl rfl ?_
  refine zw_iconst (nx := 537) C dL_law_536 rfl ?_
  refine zw_iadd (nx := 538) C dL_law_537 rfl ?_
  refine zw_sld (i + 1) (nx := 539) S C dL_law_538 rfl (by omega) ?_
  refine zw_aload_n (i := 0) (nx := 540) C dL_law_539 rfl rfl rfl ?_
  refine zw_iload_n (i := 3) (nx := 541) C dL_law_540 rfl rfl rfl ?_
  refine zw_iconst (nx := 542) C dL_law_541 rfl ?_
  refine zw_iadd (nx := 543) C dL_law_542 rfl ?_
  refine zw_sld (i + 2) (nx := 544) S C dL_law_543 rfl (by omega) ?_
  refine zw_cV21 (nx := 547) C dL_law_544 rfl cvL_71 rfl rfl ⟨Nat.le_of_ble_eq_true rfl, Nat.le_of_ble_eq_true rfl⟩ rfl rfl (Nat.le_of_ble_eq_true rfl) r2 ?_
  refine zw_eqq (tgt := 1071) C dL_law_547 rfl ?_
  exact nxt _ _ _ ζ2 C S (Nat.le_add_right _ _) (Nat.le_add_right _ _) hR2
theorem lc_14 (C : CX X B A room_1 RL cL_law 4 kc ks) (S : SX X B A L xs) (i : Nat) (hi : i + 5 ≤ L) (hR : Rel ζ) (hcs : kc + 9 ≤ room_1.cells ∧ ks + 190 ≤ room_1.slots) (nxt : ∀ (B : eB) (kc' ks' : Nat) (η : zSt), CX X B A room_1 RL cL_law 4 kc' ks' → SX X B A L xs → kc' ≤ kc + 9 → ks' ≤ ks + 190 → Rel η → ZW X B A 4 kc' ks' Q η 1071 [some (.ref 2000), some (.ref 0), some (.ref 52), some (zi i)] []) : ZW X B A 4 kc ks Q ζ 552 [some (.ref 2000), some (.ref 0), some (.ref 52), some (zi i)] [] := by
  obtain ⟨z, ζ1, ζ2, r1, r2, hR2⟩ := st_gives (l := xLa X) (B := B) hR (i32_bd (xs (i + 1))) (i32_bd (xs (i + 2)))
  refine zw_aload_n (i := 1) (nx := 553) C dL_law_552 rfl rfl rfl ?_
  refine zw_aload_n (i := 0) (nx := 554) C dL_law_553 rfl rfl rfl ?_
  refine zw_iload_n (i := 3) (nx := 555) C dL_law_554 rfl rfl rfl ?_
  refine zw_iconst (nx := 556) C dL_law_555 rfl ?_
  refine zw_iadd (nx := 557) C dL_law_556 rfl ?_
  refine zw_sld (i + 1) (nx := 558) S C dL_law_557 rfl (by omega) ?_
  refine zw_aload_n (i := 0) (nx := 559) C dL_law_558 rfl rfl rfl ?_
  refine zw_iload_n (i := 3) (nx := 560) C dL_law_559 rfl rfl rfl ?_
  refine zw_iconst (nx := 561) C dL_law_560 rfl ?_
  refine zw_iadd (nx := 562) C dL_law_561 rfl ?_
  refine zw_sld (i + 2) (nx := 563) S C dL_law_562 rfl (by omega) ?_
  refine zw_cV21 (nx := 566) C dL_law_563 rfl cvL_72 rfl rfl ⟨Nat.le_of_ble_eq_true rfl, Nat.le_of_ble_eq_true rfl⟩ rfl rfl (Nat.le_of_ble_eq_true rfl) r1 ?_
  refine zw_aload_n (i := 2) (nx := 567) C dL_law_566 rfl rfl rfl ?_
  refine zw_aload_n (i := 0) (nx := 568) C dL_law_567 rfl rfl rfl ?_
  refine zw_iload_n (i := 3) (nx := 569) C dL_law_568 rfl rfl rfl ?_
  refine zw_iconst (nx := 570) C dL_law_569 rfl ?_
  refine zw_iadd (nx := 571) C dL_law_570 rfl ?_
  refine zw_sld (i + 1) (nx := 572) S C dL_law_571 rfl (by omega) ?_
  refine zw_aload_n (i := 0) (nx := 573) C dL_law_572 rfl rfl rfl ?_
  refine zw_iload_n (i := 3) (nx := 574) C dL_law_573 rfl rfl rfl ?_
  refine zw_iconst (nx := 575) C dL_law_574 rfl ?_
  refine zw_iadd (nx := 576) C dL_law_575 rfl ?_
  refine zw_sld (i + 2) (nx := 577) S C dL_law_576 rfl (by omega) ?_
  refine zw_cV21 (nx := 580) C dL_law_577 rfl cvL_75 rfl rfl ⟨Nat.le_of_ble_eq_true rfl, Nat.le_of_ble_eq_true rfl⟩ rfl rfl (Nat.le_of_ble_eq_true rfl) r2 ?_
  refine zw_eqq (tgt := 1071) C dL_law_580 rfl ?_
  exact nxt _ _ _ ζ2 C S (Nat.le_add_right _ _) (Nat.le_add_right _ _) hR2
theorem lc_15 (C : CX X B A room_1 RL cL_law 4 kc ks) (S : SX X B A L xs) (i : Nat) (hi : i + 5 ≤ L) (hR : Rel ζ) (hcs : kc + 9 ≤ room_1.cells ∧ ks + 190 ≤ room_1.slots) (nxt : ∀ (B : eB) (kc' ks' : Nat) (η : zSt), CX X B A room_1 RL cL_law 4 kc' ks' → SX X B A L xs → kc' ≤ kc + 9 → ks' ≤ ks + 190 → Rel η → ZW X B A 4 kc' ks' Q η 1071 [some (.ref 2000), some (.ref 0), some (.ref 52), some (zi i)] []) : ZW X B A 4 kc ks Q ζ 585 [some (.ref 2000), some (.ref 0), some (.ref 52), some (zi i)] [] := by
  obtain ⟨z, ζ1, ζ2, r1, r2, hR2⟩ := st_auction (l := xLa X) (B := B) hR (i32_bd (xs (i + 1))) (i32_bd (xs (i + 2)))
  refine zw_aload_n (i := 1) (nx := 586) C dL_law_585 rfl rfl rfl ?_
  refine zw_aload_n (i := 0) (nx := 587) C dL_law_586 rfl rfl rfl ?_
  refine zw_iload_n (i := 3) (nx := 588) C dL_law_587 rfl rfl rfl ?_
  refine zw_iconst (nx := 589) C dL_law_588 rfl ?_
  refine zw_iadd (nx := 590) C dL_law_589 rfl ?_
  refine zw_sld (i + 1) (nx := 591) S C dL_law_590 rfl (by omega) ?_
  refine zw_aload_n (i := 0) (nx := 592) C dL_law_591 rfl rfl rfl ?_
  refine zw_iload_n (i := 3) (nx := 593) C dL_law_592 rfl rfl rfl ?_
  refine zw_iconst (nx := 594) C dL_law_593 rfl ?_
  refine zw_iadd (nx := 595) C dL_law_594 rfl ?_
  refine zw_sld (i + 2) (nx := 596) S C dL_law_595 rfl (by omega) ?_
  refine zw_cV21 (nx := 599) C dL_law_596 rfl cvL_76 rfl rfl ⟨Nat.le_of_ble_eq_true rfl, Nat.le_of_ble_eq_true rfl⟩ rfl rfl (Nat.le_of_ble_eq_true rfl) r1 ?_
  refine zw_aload_n (i := 2) (nx := 600) C dL_law_599 rfl rfl rfl ?_
  refine zw_aload_n (i := 0) (nx := 601) C dL_law_600 rfl rfl rfl ?_
  refine zw_iload_n (i := 3) (nx := 602) C dL_law_601 rfl rfl rfl ?_
  refine zw_iconst (nx := 603) C dL_law_602 rfl ?_
  refine zw_iadd (nx := 604) C dL_law_603 rfl ?_
  refine zw_sld (i + 1) (nx := 605) S C dL_law_604 rfl (by omega) ?_
  refine zw_aload_n (i := 0) (nx := 606) C dL_law_605 rfl rfl rfl ?_
  refine zw_iload_n (i := 3) (nx := 607) C dL_law_606 rfl rfl rfl ?_
  refine zw_iconst (nx := 608) C dL_law_607 rfl ?_
  refine zw_iadd (nx := 609) C dL_law_608 rfl ?_
  refine zw_sld (i + 2) (nx := 610) S C dL_law_609 rfl (by omega) ?_
  refine zw_cV21 (nx := 613) C dL_law_610 rfl cvL_79 rfl rfl ⟨Nat.le_of_ble_eq_true rfl, Nat.le_of_ble_eq_true rfl⟩ rfl rfl (Nat.le_of_ble_eq_true rfl) r2 ?_
  refine zw_eqq (tgt := 1071) C dL_law_613 rfl ?_
  exact nxt _ _ _ ζ2 C S (Nat.le_add_right _ _) (Nat.le_add_right _ _) hR2
theorem lc_16 (C : CX X B A room_1 RL cL_law 4 kc ks) (S : SX X B A L xs) (i : Nat) (hi : i + 5 ≤ L) (hR : Rel ζ) (hcs : kc + 9 ≤ room_1.cells ∧ ks + 190 ≤ room_1.slots) (nxt : ∀ (B : eB) (kc' ks' : Nat) (η : zSt), CX X B A room_1 RL cL_law 4 kc' ks' → SX X B A L xs → kc' ≤ kc + 9 → ks' ≤ ks + 190 → Rel η → ZW X B A 4 kc' ks' Q η 1071 [some (.ref 2000), some (.ref 0), some (.ref 52), some (zi i)] []) : ZW X B A 4 kc ks Q ζ 618 [some (.ref 2000), some (.ref 0), some (.ref 52), some (zi i)] [] := by
  obtain ⟨z, ζ1, ζ2, r1, r2, hR2⟩ := st_hurt (l := xLa X) (B := B) hR (i32_bd (xs (i + 1))) (i32_bd (xs (i + 2)))
  refine zw_aload_n (i := 1) (nx := 619) C dL_law_618 rfl rfl rfl ?_
  refine zw_aload_n (i := 0) (nx := 620) C dL_law_619 rfl rfl rfl ?_
  refine zw_iload_n (i := 3) (nx := 621) C dL_law_620 rfl rfl rfl ?_
  refine zw_iconst (nx := 622) C dL_law_621 rfl ?_
  refine zw_iadd (nx := 623) C dL_law_622 rfl ?_
  refine zw_sld (i + 1) (nx := 624) S C dL_law_623 rfl (by omega) ?_
  refine zw_aload_n (i := 0) (nx := 625) C dL_law_624 rfl rfl rfl ?_
  refine zw_iload_n (i := 3) (nx := 626) C dL_law_625 rfl rfl rfl ?_
  refine zw_iconst (nx := 627) C dL_law_626 rfl ?_
  refine zw_iadd (nx := 628) C dL_law_627 rfl ?_
  refine zw_sld (i + 2) (nx := 629) S C dL_law_628 rfl (by omega) ?_
  refine zw_cV21 (nx := 632) C dL_law_629 rfl cvL_80 rfl rfl ⟨Nat.le_of_ble_eq_true rfl, Nat.le_of_ble_eq_true rfl⟩ rfl rfl (Nat.le_of_ble_eq_true rfl) r1 ?_
  refine zw_aload_n (i := 2) (nx := 633) C dL_law_632 rfl rfl rfl ?_
  refine zw_aload_n (i := 0) (nx := 634) C dL_law_633 rfl rfl rfl ?_
  refine zw_iload_n (i := 3) (nx := 635) C dL_law_634 rfl rfl rfl ?_
  refine zw_iconst (nx := 636) C dL_law_635 rfl ?_
  refine zw_iadd (nx := 637) C dL_law_636 rfl ?_
  refine zw_sld (i + 1) (nx := 638) S C dL_law_637 rfl (by omega) ?_
  refine zw_aload_n (i := 0) (nx := 639) C dL_law_638 rfl rfl rfl ?_
  refine zw_iload_n (i := 3) (nx := 640) C dL_law_639 rfl rfl rfl ?_
  refine zw_iconst (nx := 641) C dL_law_640 rfl ?_
  refine zw_iadd (nx := 642) C dL_law_641 rfl ?_
  refine zw_sld (i + 2) (nx := 643) S C dL_law_642 rfl (by omega) ?_
  refine zw_cV21 (nx := 646) C dL_law_643 rfl cvL_83 rfl rfl ⟨Nat.le_of_ble_eq_true rfl, Nat.le_of_ble_eq_true rfl⟩ rfl rfl (Nat.le_of_ble_eq_true rfl) r2 ?_
  refine zw_eqq (tgt := 1071) C dL_law_646 rfl ?_
  exact nxt _ _ _ ζ2 C S (Nat.le_add_right _ _) (Nat.le_add_right _ _) hR2
theorem lc_17 (C : CX X B A room_1 RL cL_law 4 kc ks) (S : SX X B A L xs) (i : Nat) (hi : i + 5 ≤ L) (hR : Rel ζ) (hcs : kc + 9 ≤ room_1.cells ∧ ks + 190 ≤ room_1.slots) (nxt : ∀ (B : eB) (kc' ks' : Nat) (η : zSt), CX X B A room_1 RL cL_law 4 kc' ks' → SX X B A L xs → kc' ≤ kc + 9 → ks' ≤ ks + 190 → Rel η → ZW X B A 4 kc' ks' Q η 1071 [some (.ref 2000), some (.ref 0), some (.ref 52), some (zi i)] []) : ZW X B A 4 kc ks Q ζ 651 [some (.ref 2000), some (.ref 0), some (.ref 52), some (zi i)] [] := by
  obtain ⟨z, ζ1, ζ2, r1, r2, hR2⟩ := st_best (l := xLa X) (B := B) hR (i32_bd (xs (i + 1))) (i32_bd (xs (i + 2)))
  refine zw_aload_n (i := 1) (nx := 652) C dL_law_651 rfl rfl rfl ?_
  refine zw_aload_n (i := 0) (nx := 653) C dL_law_652 rfl rfl rfl ?_
  refine zw_iload_n (i := 3) (nx := 654) C dL_law_653 rfl rfl rfl ?_
  refine zw_iconst (nx := 655) C dL_law_654 rfl ?_
  refine zw_iadd (nx := 656) C dL_law_655 rfl ?_
  refine zw_sld (i + 1) (nx := 657) S C dL_law_656 rfl (by omega) ?_
  refine zw_aload_n (i := 0) (nx := 658) C dL_law_657 rfl rfl rfl ?_
  refine zw_iload_n (i := 3) (nx := 659) C dL_law_658 rfl rfl rfl ?_
  refine zw_iconst (nx := 660) C dL_law_659 rfl ?_
  refine zw_iadd (nx := 661) C dL_law_660 rfl ?_
  refine zw_sld (i + 2) (nx := 662) S C dL_law_661 rfl (by omega) ?_
  refine zw_cV21 (nx := 665) C dL_law_662 rfl cvL_84 rfl rfl ⟨Nat.le_of_ble_eq_true rfl, Nat.le_of_ble_eq_true rfl⟩ rfl rfl (Nat.le_of_ble_eq_true rfl) r1 ?_
  refine zw_aload_n (i := 2) (nx := 666) C dL_law_665 rfl rfl rfl ?_
  refine zw_aload_n (i := 0) (nx := 667) C dL_law_666 rfl rfl rfl ?_
  refine zw_iload_n (i := 3) (nx := 668) C dL_law_667 rfl rfl rfl ?_
  refine zw_iconst (nx := 669) C dL_law_668 rfl ?_
  refine zw_iadd (nx := 670) C dL_law_669 rfl ?_
  refine zw_sld (i + 1) (nx := 671) S C dL_law_670 rfl (by omega) ?_
  refine zw_aload_n (i := 0) (nx := 672) C dL_law_671 rfl rfl rfl ?_
  refine zw_iload_n (i := 3) (nx := 673) C dL_law_672 rfl rfl rfl ?_
  refine zw_iconst (nx := 674) C dL_law_673 rfl ?_
  refine zw_iadd (nx := 675) C dL_law_674 rfl ?_
  refine zw_sld (i + 2) (nx := 676) S C dL_law_675 rfl (by omega) ?_
  refine zw_cV21 (nx := 679) C dL_law_676 rfl cvL_87 rfl rfl ⟨Nat.le_of_ble_eq_true rfl, Nat.le_of_ble_eq_true rfl⟩ rfl rfl (Nat.le_of_ble_eq_true rfl) r2 ?_
  refine zw_eqq (tgt := 1071) C dL_law_679 rfl ?_
  exact nxt _ _ _ ζ2 C S (Nat.le_add_right _ _) (Nat.le_add_right _ _) hR2
theorem lc_18 (C : CX X B A room_1 RL cL_law 4 kc ks) (S : SX X B A L xs) (i : Nat) (hi : i + 5 ≤ L) (hR : Rel ζ) (hcs : kc + 9 ≤ room_1.cells ∧ ks + 190 ≤ room_1.slots) (nxt : ∀ (B : eB) (kc' ks' : Nat) (η : zSt), CX X B A room_1 RL cL_law 4 kc' ks' → SX X B A L xs → kc' ≤ kc + 9 → ks' ≤ ks + 190 → Rel η → ZW X B A 4 kc' ks' Q η 1071 [some (.ref 2000), some (.ref 0), some (.ref 52), some (zi i)] []) : ZW X B A 4 kc ks Q ζ 684 [some (.ref 2000), some (.ref 0), some (.ref 52), some (zi i)] [] := by
  obtain ⟨z, ζ1, ζ2, r1, r2, hR2⟩ := st_all (l := xLa X) (B := B) hR (i32_bd (xs (i + 1)))
  refine zw_aload_n (i := 1) (nx := 685) C dL_law_684 rfl rfl rfl ?_
  refine zw_aload_n (i := 0) (nx := 686) C dL_law_685 rfl rfl rfl ?_
  refine zw_iload_n (i := 3) (nx := 687) C dL_law_686 rfl rfl rfl ?_
  refine zw_iconst (nx := 688) C dL_law_687 rfl ?_
  refine zw_iadd (nx := 689) C dL_law_688 rfl ?_
  refine zw_sld (i + 1) (nx := 690) S C dL_law_689 rfl (by omega) ?_
  refine zw_cV11 (nx := 693) C dL_law_690 rfl cvL_88 rfl rfl ⟨Nat.le_of_ble_eq_true rfl, Nat.le_of_ble_eq_true rfl⟩ rfl rfl (Nat.le_of_ble_eq_true rfl) r1 ?_
  refine zw_aload_n (i := 2) (nx := 694) C dL_law_693 rfl rfl rfl ?_
  refine zw_aload_n (i := 0) (nx := 695) C dL_law_694 rfl rfl rfl ?_
  refine zw_iload_n (i := 3) (nx := 696) C dL_law_695 rfl rfl rfl ?_
  refine zw_iconst (nx := 697) C dL_law_696 rfl ?_
  refine zw_iadd (nx := 698) C dL_law_697 rfl ?_
  refine zw_sld (i + 1) (nx := 699) S C dL_law_698 rfl (by omega) ?_
  refine zw_cV11 (nx := 702) C dL_law_699 rfl cvL_91 rfl rfl ⟨Nat.le_of_ble_eq_true rfl, Nat.le_of_ble_eq_true rfl⟩ rfl rfl (Nat.le_of_ble_eq_true rfl) r2 ?_
  refine zw_eqq (tgt := 1071) C dL_law_702 rfl ?_
  exact nxt _ _ _ ζ2 C S (Nat.le_add_right _ _) (Nat.le_add_right _ _) hR2
theorem lc_19 (C : CX X B A room_1 RL cL_law 4 kc ks) (S : SX X B A L xs) (i : Nat) (hi : i + 5 ≤ L) (hR : Rel ζ) (hcs : kc + 9 ≤ room_1.cells ∧ ks + 190 ≤ room_1.slots) (nxt : ∀ (B : eB) (kc' ks' : Nat) (η : zSt), CX X B A room_1 RL cL_law 4 kc' ks' → SX X B A L xs → kc' ≤ kc + 9 → ks' ≤ ks + 190 → Rel η → ZW X B A 4 kc' ks' Q η 1071 [some (.ref 2000), some (.ref 0), some (.ref 52), some (zi i)] []) : ZW X B A 4 kc ks Q ζ 707 [some (.ref 2000), some (.ref 0), some (.ref 52), some (zi i)] [] := by
  obtain ⟨z, ζ1, ζ2, r1, r2, hR2⟩ := st_move (l := xLa X) (B := B) hR (i32_bd (xs (i + 1)))
  refine zw_aload_n (i := 1) (nx := 708) C dL_law_707 rfl rfl rfl ?_
  refine zw_aload_n (i := 0) (nx := 709) C dL_law_708 rfl rfl rfl ?_
  refine zw_iload_n (i := 3) (nx := 710) C dL_law_709 rfl rfl rfl ?_
  refine zw_iconst (nx := 711) C dL_law_710 rfl ?_
  refine zw_iadd (nx := 712) C dL_law_711 rfl ?_
  refine zw_sld (i + 1) (nx := 713) S C dL_law_712 rfl (by omega) ?_
  refine zw_cV11 (nx := 716) C dL_law_713 rfl cvL_92 rfl rfl ⟨Nat.le_of_ble_eq_true rfl, Nat.le_of_ble_eq_true rfl⟩ rfl rfl (Nat.le_of_ble_eq_true rfl) r1 ?_
  refine zw_aload_n (i := 2) (nx := 717) C dL_law_716 rfl rfl rfl ?_
  refine zw_aload_n (i := 0) (nx := 718) C dL_law_717 rfl rfl rfl ?_
  refine zw_iload_n (i := 3) (nx := 719) C dL_law_718 rfl rfl rfl ?_
  refine zw_iconst (nx := 720) C dL_law_719 rfl ?_
  refine zw_iadd (nx := 721) C dL_law_720 rfl ?_
  refine zw_sld (i + 1) (nx := 722) S C dL_law_721 rfl (by omega) ?_
  refine zw_cV11 (nx := 725) C dL_law_722 rfl cvL_95 rfl rfl ⟨Nat.le_of_ble_eq_true rfl, Nat.le_of_ble_eq_true rfl⟩ rfl rfl (Nat.le_of_ble_eq_true rfl) r2 ?_
  refine zw_eqq (tgt := 1071) C dL_law_725 rfl ?_
  exact nxt _ _ _ ζ2 C S (Nat.le_add_right _ _) (Nat.le_add_right _ _) hR2
theorem lc_20 (C : CX X B A room_1 RL cL_law 4 kc ks) (S : SX X B A L xs) (i : Nat) (hi : i + 5 ≤ L) (hR : Rel ζ) (hcs : kc + 9 ≤ room_1.cells ∧ ks + 190 ≤ room_1.slots) (nxt : ∀ (B : eB) (kc' ks' : Nat) (η : zSt), CX X B A room_1 RL cL_law 4 kc' ks' → SX X B A L xs → kc' ≤ kc + 9 → ks' ≤ ks + 190 → Rel η → ZW X B A 4 kc' ks' Q η 1071 [some (.ref 2000), some (.ref 0), some (.ref 52), some (zi i)] []) : ZW X B A 4 kc ks Q ζ 730 [some (.ref 2000), some (.ref 0), some (.ref 52), some (zi i)] [] := by
  obtain ⟨z, ζ1, ζ2, r1, r2, hR2⟩ := st_note (l := xLa X) (B := B) hR (i32_bd (xs (i + 1))) (i32_bd (xs (i + 2))) (i32_bd (xs (i + 3))) (i32_bd (xs (i + 4)))
  refine zw_aload_n (i := 1) (nx := 731) C dL_law_730 rfl rfl rfl ?_
  refine zw_aload_n (i := 0) (nx := 732) C dL_law_731 rfl rfl rfl ?_
  refine zw_iload_n (i := 3) (nx := 733) C dL_law_732 rfl rfl rfl ?_
  refine zw_iconst (nx := 734) C dL_law_733 rfl ?_
  refine zw_iadd (nx := 735) C dL_law_734 rfl ?_
  refine zw_sld (i + 1) (nx := 736) S C dL_law_735 rfl (by omega) ?_
  refine zw_aload_n (i := 0) (nx := 737) C dL_law_736 rfl rfl rfl ?_
  refine zw_iload_n (i := 3) (nx := 738) C dL_law_737 rfl rfl rfl ?_
  refine zw_iconst (nx := 739) C dL_law_738 rfl ?_
  refine zw_iadd (nx := 740) C dL_law_739 rfl ?_
  refine zw_sld (i + 2) (nx := 741) S C dL_law_740 rfl (by omega) ?_
  refine zw_aload_n (i := 0) (nx := 742) C dL_law_741 rfl rfl rfl ?_
  refine zw_iload_n (i := 3) (nx := 743) C dL_law_742 rfl rfl rfl ?_
  refine zw_iconst (nx := 744) C dL_law_743 rfl ?_
  refine zw_iadd (nx := 745) C dL_law_744 rfl ?_
  refine zw_sld (i + 3) (nx := 746) S C dL_law_745 rfl (by omega) ?_
  refine zw_aload_n (i := 0) (nx := 747) C dL_law_746 rfl rfl rfl ?_
  refine zw_iload_n (i := 3) (nx := 748) C dL_law_747 rfl rfl rfl ?_
  refine zw_iconst (nx := 749) C dL_law_748 rfl ?_
  refine zw_iadd (nx := 750) C dL_law_749 rfl ?_
  refine zw_sld (i + 4) (nx := 751) S C dL_law_750 rfl (by omega) ?_
  refine zw_cV41 (nx := 754) C dL_law_751 rfl cvL_96 rfl rfl ⟨Nat.le_of_ble_eq_true rfl, Nat.le_of_ble_eq_true rfl⟩ rfl rfl (Nat.le_of_ble_eq_true rfl) r1 ?_
  refine zw_aload_n (i := 2) (nx := 755) C dL_law_754 rfl rfl rfl ?_
  refine zw_aload_n (i := 0) (nx := 756) C dL_law_755 rfl rfl rfl ?_
  refine zw_iload_n (i := 3) (nx := 757) C dL_law_756 rfl rfl rfl ?_
  refine zw_iconst (nx := 758) C dL_law_757 rfl ?_
  refine zw_iadd (nx := 759) C dL_law_758 rfl ?_
  refine zw_sld (i + 1) (nx := 760) S C dL_law_759 rfl (by omega) ?_
  refine zw_aload_n (i := 0) (nx := 761) C dL_law_760 rfl rfl rfl ?_
  refine zw_iload_n (i := 3) (nx := 762) C dL_law_761 rfl rfl rfl ?_
  refine zw_iconst (nx := 763) C dL_law_762 rfl ?_
  refine zw_iadd (nx := 764) C dL_law_763 rfl ?_
  refine zw_sld (i + 2) (nx := 765) S C dL_law_764 rfl (by omega) ?_
  refine zw_aload_n (i := 0) (nx := 766) C dL_law_765 rfl rfl rfl ?_
  refine zw_iload_n (i := 3) (nx := 767) C dL_law_766 rfl rfl rfl ?_
  refine zw_iconst (nx := 768) C dL_law_767 rfl ?_
  refine zw_iadd (nx := 769) C dL_law_768 rfl ?_
  refine zw_sld (i + 3) (nx := 770) S C dL_law_769 rfl (by omega) ?_
  refine zw_aload_n (i := 0) (nx := 771) C dL_law_770 rfl rfl rfl ?_
  refine zw_iload_n (i := 3) (nx := 772) C dL_law_771 rfl rfl rfl ?_
  refine zw_iconst (nx := 773) C dL_law_772 rfl ?_
  refine zw_iadd (nx := 774) C dL_law_773 rfl ?_
  refine zw_sld (i + 4) (nx := 775) S C dL_law_774 rfl (by omega) ?_
  refine zw_cV41 (nx := 778) C dL_law_775 rfl cvL_100 rfl rfl ⟨Nat.le_of_ble_eq_true rfl, Nat.le_of_ble_eq_true rfl⟩ rfl rfl (Nat.le_of_ble_eq_true rfl) r2 ?_
  refine zw_eqq (tgt := 1071) C dL_law_778 rfl ?_
  exact nxt _ _ _ ζ2 C S (Nat.le_add_right _ _) (Nat.le_add_right _ _) hR2
theorem lc_21 (C : CX X B A room_1 RL cL_law 4 kc ks) (S : SX X B A L xs) (i : Nat) (hi : i + 5 ≤ L) (hR : Rel ζ) (hcs : kc + 9 ≤ room_1.cells ∧ ks + 190 ≤ room_1.slots) (nxt : ∀ (B : eB) (kc' ks' : Nat) (η : zSt), CX X B A room_1 RL cL_law 4 kc' ks' → SX X B A L xs → kc' ≤ kc + 9 → ks' ≤ ks + 190 → Rel η → ZW X B A 4 kc' ks' Q η 1071 [some (.ref 2000), some (.ref 0), some (.ref 52), some (zi i)] []) : ZW X B A 4 kc ks Q ζ 783 [some (.ref 2000), some (.ref 0), some (.ref 52), some (zi i)] [] := by
  obtain ⟨z, ζ1, ζ2, r1, r2, hR2⟩ := st_forget (l := xLa X) (B := B) hR
  refine zw_aload_n (i := 1) (nx := 784) C dL_law_783 rfl rfl rfl ?_
  refine zw_cV01 (nx := 787) C dL_law_784 rfl cvL_101 rfl rfl ⟨Nat.le_of_ble_eq_true rfl, Nat.le_of_ble_eq_true rfl⟩ rfl rfl (Nat.le_of_ble_eq_true rfl) r1 ?_
  refine zw_aload_n (i := 2) (nx := 788) C dL_law_787 rfl rfl rfl ?_
  refine zw_cV01 (nx := 791) C dL_law_788 rfl cvL_104 rfl rfl ⟨Nat.le_of_ble_eq_true rfl, Nat.le_of_ble_eq_true rfl⟩ rfl rfl (Nat.le_of_ble_eq_true rfl) r2 ?_
  refine zw_eqq (tgt := 1071) C dL_law_791 rfl ?_
  exact nxt _ _ _ ζ2 C S (Nat.le_add_right _ _) (Nat.le_add_right _ _) hR2
theorem lc_22 (C : CX X B A room_1 RL cL_law 4 kc ks) (S : SX X B A L xs) (i : Nat) (hi : i + 5 ≤ L) (hR : Rel ζ) (hcs : kc + 9 ≤ room_1.cells ∧ ks + 190 ≤ room_1.slots) (nxt : ∀ (B : eB) (kc' ks' : Nat) (η : zSt), CX X B A room_1 RL cL_law 4 kc' ks' → SX X B A L xs → kc' ≤ kc + 9 → ks' ≤ ks + 190 → Rel η → ZW X B A 4 kc' ks' Q η 1071 [some (.ref 2000), some (.ref 0), some (.ref 52), some (zi i)] []) : ZW X B A 4 kc ks Q ζ 796 [some (.ref 2000), some (.ref 0), some (.ref 52), some (zi i)] [] := by
  obtain ⟨z, ζ1, ζ2, r1, r2, hR2⟩ := st_is (l := xLa X) (B := B) hR (i32_bd (xs (i + 1)))
  refine zw_aload_n (i := 1) (nx := 797) C dL_law_796 rfl rfl rfl ?_
  refine zw_aload_n (i := 0) (nx := 798) C dL_law_797 rfl rfl rfl ?_
  refine zw_iload_n (i := 3) (nx := 799) C dL_law_798 rfl rfl rfl ?_
  refine zw_iconst (nx := 800) C dL_law_799 rfl ?_
  refine zw_iadd (nx := 801) C dL_law_800 rfl ?_
  refine zw_sld (i + 1) (nx := 802) S C dL_law_801 rfl (by omega) ?_
  refine zw_cV11 (nx := 805) C dL_law_802 rfl cvL_105 rfl rfl ⟨Nat.le_of_ble_eq_true rfl, Nat.le_of_ble_eq_true rfl⟩ rfl rfl (Nat.le_of_ble_eq_true rfl) r1 ?_
  refine zw_aload_n (i := 2) (nx := 806) C dL_law_805 rfl rfl rfl ?_
  refine zw_aload_n (i := 0) (nx := 807) C dL_law_806 rfl rfl rfl ?_
  refine zw_iload_n (i := 3) (nx := 808) C dL_law_807 rfl rfl rfl ?_
  refine zw_iconst (nx := 809) C dL_law_808 rfl ?_
  refine zw_iadd (nx := 810) C dL_law_809 rfl ?_
  refine zw_sld (i + 1) (nx := 811) S C dL_law_810 rfl (by omega) ?_
  refine zw_cV11 (nx := 814) C dL_law_811 rfl cvL_108 rfl rfl ⟨Nat.le_of_ble_eq_true rfl, Nat.le_of_ble_eq_true rfl⟩ rfl rfl (Nat.le_of_ble_eq_true rfl) r2 ?_
  refine zw_eqq (tgt := 1071) C dL_law_814 rfl ?_
  exact nxt _ _ _ ζ2 C S (Nat.le_add_right _ _) (Nat.le_add_right _ _) hR2
theorem lc_23 (C : CX X B A room_1 RL cL_law 4 kc ks) (S : SX X B A L xs) (i : Nat) (hi : i + 5 ≤ L) (hR : Rel ζ) (hcs : kc + 9 ≤ room_1.cells ∧ ks + 190 ≤ room_1.slots) (nxt : ∀ (B : eB) (kc' ks' : Nat) (η : zSt), CX X B A room_1 RL cL_law 4 kc' ks' → SX X B A L xs → kc' ≤ kc + 9 → ks' ≤ ks + 190 → Rel η → ZW X B A 4 kc' ks' Q η 1071 [some (.ref 2000), some (.ref 0), some (.ref 52), some (zi i)] []) : ZW X B A 4 kc ks Q ζ 819 [some (.ref 2000), some (.ref 0), some (.ref 52), some (zi i)] [] := by
  obtain ⟨z, ζ1, ζ2, r1, r2, hR2⟩ := st_offer (l := xLa X) (B := B) hR (i32_bd (xs (i + 1)))
  refine zw_aload_n (i := 1) (nx := 820) C dL_law_819 rfl rfl rfl ?_
  refine zw_aload_n (i := 0) (nx := 821) C dL_law_820 rfl rfl rfl ?_
  refine zw_iload_n (i := 3) (nx := 822) C dL_law_821 rfl rfl rfl ?_
  refine zw_iconst (nx := 823) C dL_law_822 rfl ?_
  refine zw_iadd (nx := 824) C dL_law_823 rfl ?_
  refine zw_sld (i + 1) (nx := 825) S C dL_law_824 rfl (by omega) ?_
  refine zw_cV11 (nx := 828) C dL_law_825 rfl cvL_109 rfl rfl ⟨Nat.le_of_ble_eq_true rfl, Nat.le_of_ble_eq_true rfl⟩ rfl rfl (Nat.le_of_ble_eq_true rfl) r1 ?_
  refine zw_aload_n (i := 2) (nx := 829) C dL_law_828 rfl rfl rfl ?_
  refine zw_aload_n (i := 0) (nx := 830) C dL_law_829 rfl rfl rfl ?_
  refine zw_iload_n (i := 3) (nx := 831) C dL_law_830 rfl rfl rfl ?_
  refine zw_iconst (nx := 832) C dL_law_831 rfl ?_
  refine zw_iadd (nx := 833) C dL_law_832 rfl ?_
  refine zw_sld (i + 1) (nx := 834) S C dL_law_833 rfl (by omega) ?_
  refine zw_cV11 (nx := 837) C dL_law_834 rfl cvL_112 rfl rfl ⟨Nat.le_of_ble_eq_true rfl, Nat.le_of_ble_eq_true rfl⟩ rfl rfl (Nat.le_of_ble_eq_true rfl) r2 ?_
  refine zw_eqq (tgt := 1071) C dL_law_837 rfl ?_
  exact nxt _ _ _ ζ2 C S (Nat.le_add_right _ _) (Nat.le_add_right _ _) hR2
theorem lc_24 (C : CX X B A room_1 RL cL_law 4 kc ks) (S : SX X B A L xs) (i : Nat) (hi : i + 5 ≤ L) (hR : Rel ζ) (hcs : kc + 9 ≤ room_1.cells ∧ ks + 190 ≤ room_1.slots) (nxt : ∀ (B : eB) (kc' ks' : Nat) (η : zSt), CX X B A room_1 RL cL_law 4 kc' ks' → SX X B A L xs → kc' ≤ kc + 9 → ks' ≤ ks + 190 → Rel η → ZW X B A 4 kc' ks' Q η 1071 [some (.ref 2000), some (.ref 0), some (.ref 52), some (zi i)] []) : ZW X B A 4 kc ks Q ζ 842 [some (.ref 2000), some (.ref 0), some (.ref 52), some (zi i)] [] := by
  obtain ⟨z, ζ1, ζ2, r1, r2, hR2⟩ := st_two (l := xLa X) (B := B) hR (i32_bd (xs (i + 1))) (i32_bd (xs (i + 2))) (i32_bd (xs (i + 3)))
  refine zw_aload_n (i := 1) (nx := 843) C dL_law_842 rfl rfl rfl ?_
  refine zw_aload_n (i := 0) (nx := 844) C dL_law_843 rfl rfl rfl ?_
  refine zw_iload_n (i := 3) (nx := 845) C dL_law_844 rfl rfl rfl ?_
  refine zw_iconst (nx := 846) C dL_law_845 rfl ?_
  refine zw_iadd (nx := 847) C dL_law_846 rfl ?_
  refine zw_sld (i + 1) (nx := 848) S C dL_law_847 rfl (by omega) ?_
  refine zw_aload_n (i := 0) (nx := 849) C dL_law_848 rfl rfl rfl ?_
  refine zw_iload_n (i := 3) (nx := 850) C dL_law_849 rfl rfl rfl ?_
  refine zw_iconst (nx := 851) C dL_law_850 rfl ?_
  refine zw_iadd (nx := 852) C dL_law_851 rfl ?_
  refine zw_sld (i + 2) (nx := 853) S C dL_law_852 rfl (by omega) ?_
  refine zw_aload_n (i := 0) (nx := 854) C dL_law_853 rfl rfl rfl ?_
  refine zw_iload_n (i := 3) (nx := 855) C dL_law_854 rfl rfl rfl ?_
  refine zw_iconst (nx := 856) C dL_law_855 rfl ?_
  refine zw_iadd (nx := 857) C dL_law_856 rfl ?_
  refine zw_sld (i + 3) (nx := 858) S C dL_law_857 rfl (by omega) ?_
  refine zw_cV31 (nx := 861) C dL_law_858 rfl cvL_113 rfl rfl ⟨Nat.le_of_ble_eq_true rfl, Nat.le_of_ble_eq_true rfl⟩ rfl rfl (Nat.le_of_ble_eq_true rfl) r1 ?_
  refine zw_aload_n (i := 2) (nx := 862) C dL_law_861 rfl rfl rfl ?_
  refine zw_aload_n (i := 0) (nx := 863) C dL_law_862 rfl rfl rfl ?_
  refine zw_iload_n (i := 3) (nx := 864) C dL_law_863 rfl rfl rfl ?_
  refine zw_iconst (nx := 865) C dL_law_864 rfl ?_
  refine zw_iadd (nx := 866) C dL_law_865 rfl ?_
  refine zw_sld (i + 1) (nx := 867) S C dL_law_866 rfl (by omega) ?_
  refine zw_aload_n (i := 0) (nx := 868) C dL_law_867 rfl rfl rfl ?_
  refine zw_iload_n (i := 3) (nx := 869) C dL_law_868 rfl rfl rfl ?_
  refine zw_iconst (nx := 870) C dL_law_869 rfl ?_
  refine zw_iadd (nx := 871) C dL_law_870 rfl ?_
  refine zw_sld (i + 2) (nx := 872) S C dL_law_871 rfl (by omega) ?_
  refine zw_aload_n (i := 0) (nx := 873) C dL_law_872 rfl rfl rfl ?_
  refine zw_iload_n (i := 3) (nx := 874) C dL_law_873 rfl rfl rfl ?_
  refine zw_iconst (nx := 875) C dL_law_874 rfl ?_
  refine zw_iadd (nx := 876) C dL_law_875 rfl ?_
  refine zw_sld (i + 3) (nx := 877) S C dL_law_876 rfl (by omega) ?_
  refine zw_cV31 (nx := 880) C dL_law_877 rfl cvL_117 rfl rfl ⟨Nat.le_of_ble_eq_true rfl, Nat.le_of_ble_eq_true rfl⟩ rfl rfl (Nat.le_of_ble_eq_true rfl) r2 ?_
  refine zw_eqq (tgt := 1071) C dL_law_880 rfl ?_
  exact nxt _ _ _ ζ2 C S (Nat.le_add_right _ _) (Nat.le_add_right _ _) hR2
theorem lc_25 (C : CX X B A room_1 RL cL_law 4 kc ks) (S : SX X B A L xs) (i : Nat) (hi : i + 5 ≤ L) (hR : Rel ζ) (hcs : kc + 9 ≤ room_1.cells ∧ ks + 190 ≤ room_1.slots) (nxt : ∀ (B : eB) (kc' ks' : Nat) (η : zSt), CX X B A room_1 RL cL_law 4 kc' ks' → SX X B A L xs → kc' ≤ kc + 9 → ks' ≤ ks + 190 → Rel η → ZW X B A 4 kc' ks' Q η 1071 [some (.ref 2000), some (.ref 0), some (.ref 52), some (zi i)] []) : ZW X B A 4 kc ks Q ζ 885 [some (.ref 2000), some (.ref 0), some (.ref 52), some (zi i)] [] := by
  obtain ⟨z, ζ1, ζ2, r1, r2, hR2⟩ := st_clouds (l := xLa X) (B := B) hR (i32_bd (xs (i + 1)))
  refine zw_aload_n (i := 1) (nx := 886) C dL_law_885 rfl rfl rfl ?_
  refine zw_aload_n (i := 0) (nx := 887) C dL_law_886 rfl rfl rfl ?_
  refine zw_iload_n (i := 3) (nx := 888) C dL_law_887 rfl rfl rfl ?_
  refine zw_iconst (nx := 889) C dL_law_888 rfl ?_
  refine zw_iadd (nx := 890) C dL_law_889 rfl ?_
  refine zw_sld (i + 1) (nx := 891) S C dL_law_890 rfl (by omega) ?_
  refine zw_cV11 (nx := 894) C dL_law_891 rfl cvL_118 rfl rfl ⟨Nat.le_of_ble_eq_true rfl, Nat.le_of_ble_eq_true rfl⟩ rfl rfl (Nat.le_of_ble_eq_true rfl) r1 ?_
  refine zw_aload_n (i := 2) (nx := 895) C dL_law_894 rfl rfl rfl ?_
  refine zw_aload_n (i := 0) (nx := 896) C dL_law_895 rfl rfl rfl ?_
  refine zw_iload_n (i := 3) (nx := 897) C dL_law_896 rfl rfl rfl ?_
  refine zw_iconst (nx := 898) C dL_law_897 rfl ?_
  refine zw_iadd (nx := 899) C dL_law_898 rfl ?_
  refine zw_sld (i + 1) (nx := 900) S C dL_law_899 rfl (by omega) ?_
  refine zw_cV11 (nx := 903) C dL_law_900 rfl cvL_121 rfl rfl ⟨Nat.le_of_ble_eq_true rfl, Nat.le_of_ble_eq_true rfl⟩ rfl rfl (Nat.le_of_ble_eq_true rfl) r2 ?_
  refine zw_eqq (tgt := 1071) C dL_law_903 rfl ?_
  exact nxt _ _ _ ζ2 C S (Nat.le_add_right _ _) (Nat.le_add_right _ _) hR2
theorem lc_26 (C : CX X B A room_1 RL cL_law 4 kc ks) (S : SX X B A L xs) (i : Nat) (hi : i + 5 ≤ L) (hR : Rel ζ) (hcs : kc + 9 ≤ room_1.cells ∧ ks + 190 ≤ room_1.slots) (nxt : ∀ (B : eB) (kc' ks' : Nat) (η : zSt), CX X B A room_1 RL cL_law 4 kc' ks' → SX X B A L xs → kc' ≤ kc + 9 → ks' ≤ ks + 190 → Rel η → ZW X B A 4 kc' ks' Q η 1071 [some (.ref 2000), some (.ref 0), some (.ref 52), some (zi i)] []) : ZW X B A 4 kc ks Q ζ 908 [some (.ref 2000), some (.ref 0), some (.ref 52), some (zi i)] [] := by
  obtain ⟨z, ζ1, ζ2, r1, r2, hR2⟩ := st_eclipses (l := xLa X) (B := B) hR (i32_bd (xs (i + 1))) (i32_bd (xs (i + 2)))
  refine zw_aload_n (i := 1) (nx := 909) C dL_law_908 rfl rfl rfl ?_
  refine zw_aload_n (i := 0) (nx := 910) C dL_law_909 rfl rfl rfl ?_
  refine zw_iload_n (i := 3) (nx := 911) C dL_law_910 rfl rfl rfl ?_
  refine zw_iconst (nx := 912) C dL_law_911 rfl ?_
  refine zw_iadd (nx := 913) C dL_law_912 rfl ?_
  refine zw_sld (i + 1) (nx := 914) S C dL_law_913 rfl (by omega) ?_
  refine zw_aload_n (i := 0) (nx := 915) C dL_law_914 rfl rfl rfl ?_
  refine zw_iload_n (i := 3) (nx := 916) C dL_law_915 rfl rfl rfl ?_
  refine zw_iconst (nx := 917) C dL_law_916 rfl ?_
  refine zw_iadd (nx := 918) C dL_law_917 rfl ?_
  refine zw_sld (i + 2) (nx := 919) S C dL_law_918 rfl (by omega) ?_
  refine zw_cV21 (nx := 922) C dL_law_919 rfl cvL_122 rfl rfl ⟨Nat.le_of_ble_eq_true rfl, Nat.le_of_ble_eq_true rfl⟩ rfl rfl (Nat.le_of_ble_eq_true rfl) r1 ?_
  refine zw_aload_n (i := 2) (nx := 923) C dL_law_922 rfl rfl rfl ?_
  refine zw_aload_n (i := 0) (nx := 924) C dL_law_923 rfl rfl rfl ?_
  refine zw_iload_n (i := 3) (nx := 925) C dL_law_924 rfl rfl rfl ?_
  refine zw_iconst (nx := 926) C dL_law_925 rfl ?_
  refine zw_iadd (nx := 927) C dL_law_926 rfl ?_
  refine zw_sld (i + 1) (nx := 928) S C dL_law_927 rfl (by omega) ?_
  refine zw_aload_n (i := 0) (nx := 929) C dL_law_928 rfl rfl rfl ?_
  refine zw_iload_n (i := 3) (nx := 930) C dL_law_929 rfl rfl rfl ?_
  refine zw_iconst (nx := 931) C dL_law_930 rfl ?_
  refine zw_iadd (nx := 932) C dL_law_931 rfl ?_
  refine zw_sld (i + 2) (nx := 933) S C dL_law_932 rfl (by omega) ?_
  refine zw_cV21 (nx := 936) C dL_law_933 rfl cvL_125 rfl rfl ⟨Nat.le_of_ble_eq_true rfl, Nat.le_of_ble_eq_true rfl⟩ rfl rfl (Nat.le_of_ble_eq_true rfl) r2 ?_
  refine zw_eqq (tgt := 1071) C dL_law_936 rfl ?_
  exact nxt _ _ _ ζ2 C S (Nat.le_add_right _ _) (Nat.le_add_right _ _) hR2
theorem lc_27 (C : CX X B A room_1 RL cL_law 4 kc ks) (S : SX X B A L xs) (i : Nat) (hi : i + 5 ≤ L) (hR : Rel ζ) (hcs : kc + 9 ≤ room_1.cells ∧ ks + 190 ≤ room_1.slots) (nxt : ∀ (B : eB) (kc' ks' : Nat) (η : zSt), CX X B A room_1 RL cL_law 4 kc' ks' → SX X B A L xs → kc' ≤ kc + 9 → ks' ≤ ks + 190 → Rel η → ZW X B A 4 kc' ks' Q η 1071 [some (.ref 2000), some (.ref 0), some (.ref 52), some (zi i)] []) : ZW X B A 4 kc ks Q ζ 941 [some (.ref 2000), some (.ref 0), some (.ref 52), some (zi i)] [] := by
  obtain ⟨z, ζ1, ζ2, r1, r2, hR2⟩ := st_part (l := xLa X) (B := B) hR (i32_bd (xs (i + 1)))
  refine zw_aload_n (i := 1) (nx := 942) C dL_law_941 rfl rfl rfl ?_
  refine zw_aload_n (i := 0) (nx := 943) C dL_law_942 rfl rfl rfl ?_
  refine zw_iload_n (i := 3) (nx := 944) C dL_law_943 rfl rfl rfl ?_
  refine zw_iconst (nx := 945) C dL_law_944 rfl ?_
  refine zw_iadd (nx := 946) C dL_law_945 rfl ?_
  refine zw_sld (i + 1) (nx := 947) S C dL_law_946 rfl (by omega) ?_
  refine zw_cV11 (nx := 950) C dL_law_947 rfl cvL_126 rfl rfl ⟨Nat.le_of_ble_eq_true rfl, Nat.le_of_ble_eq_true rfl⟩ rfl rfl (Nat.le_of_ble_eq_true rfl) r1 ?_
  refine zw_aload_n (i := 2) (nx := 951) C dL_law_950 rfl rfl rfl ?_
  refine zw_aload_n (i := 0) (nx := 952) C dL_law_951 rfl rfl rfl ?_
  refine zw_iload_n (i := 3) (nx := 953) C dL_law_952 rfl rfl rfl ?_
  refine zw_iconst (nx := 954) C dL_law_953 rfl ?_
  refine zw_iadd (nx := 955) C dL_law_954 rfl ?_
  refine zw_sld (i + 1) (nx := 956) S C dL_law_955 rfl (by omega) ?_
  refine zw_cV11 (nx := 959) C dL_law_956 rfl cvL_130 rfl rfl ⟨Nat.le_of_ble_eq_true rfl, Nat.le_of_ble_eq_true rfl⟩ rfl rfl (Nat.le_of_ble_eq_true rfl) r2 ?_
  refine zw_lqq (tgt := 1071) C dL_law_959 rfl dL_law_960 rfl ?_
  exact nxt _ _ _ ζ2 C S (Nat.le_add_right _ _) (Nat.le_add_right _ _) hR2
theorem lc_28 (C : CX X B A room_1 RL cL_law 4 kc ks) (S : SX X B A L xs) (i : Nat) (hi : i + 5 ≤ L) (hR : Rel ζ) (hcs : kc + 9 ≤ room_1.cells ∧ ks + 190 ≤ room_1.slots) (nxt : ∀ (B : eB) (kc' ks' : Nat) (η : zSt), CX X B A room_1 RL cL_law 4 kc' ks' → SX X B A L xs → kc' ≤ kc + 9 → ks' ≤ ks + 190 → Rel η → ZW X B A 4 kc' ks' Q η 1071 [some (.ref 2000), some (.ref 0), some (.ref 52), some (zi i)] []) : ZW X B A 4 kc ks Q ζ 965 [some (.ref 2000), some (.ref 0), some (.ref 52), some (zi i)] [] := by
  obtain ⟨z, ζ1, ζ2, r1, r2, hR2⟩ := st_image (l := xLa X) (B := B) hR (i32_bd (xs (i + 1)))
  refine zw_aload_n (i := 1) (nx := 966) C dL_law_965 rfl rfl rfl ?_
  refine zw_aload_n (i := 0) (nx := 967) C dL_law_966 rfl rfl rfl ?_
  refine zw_iload_n (i := 3) (nx := 968) C dL_law_967 rfl rfl rfl ?_
  refine zw_iconst (nx := 969) C dL_law_968 rfl ?_
  refine zw_iadd (nx := 970) C dL_law_969 rfl ?_
  refine zw_sld (i + 1) (nx := 971) S C dL_law_970 rfl (by omega) ?_
  refine zw_cG11 (v := zi z) (nx := 974) C dL_law_971 rfl cvL_131 ⟨Nat.le_of_ble_eq_true rfl, Nat.le_of_ble_eq_true rfl⟩ hcs (Nat.le_of_ble_eq_true rfl) (fun v hv => by cases hv) (ni_law i) trivial r1 (fun B' hg => ?_)
  replace S : SX X B' A L xs := S.grow hg
  replace C : CX X B' A room_1 RL cL_law 4 (kc + 9) (ks + 190) := CX.grow C hg hcs.1 hcs.2
  refine zw_aload_n (i := 2) (nx := 975) C dL_law_974 rfl rfl rfl ?_
  refine zw_aload_n (i := 0) (nx := 976) C dL_law_975 rfl rfl rfl ?_
  refine zw_iload_n (i := 3) (nx := 977) C dL_law_976 rfl rfl rfl ?_
  refine zw_iconst (nx := 978) C dL_law_977 rfl ?_
  refine zw_iadd (nx := 979) C dL_law_978 rfl ?_
  refine zw_sld (i + 1) (nx := 980) S C dL_law_979 rfl (by omega) ?_
  refine zw_cV11 (nx := 983) C dL_law_980 rfl cvL_134 rfl rfl ⟨Nat.le_of_ble_eq_true rfl, Nat.le_of_ble_eq_true rfl⟩ rfl rfl (Nat.le_of_ble_eq_true rfl) (r2 B') ?_
  refine zw_eqq (tgt := 1071) C dL_law_983 rfl ?_
  exact nxt _ _ _ ζ2 C S (Nat.le_refl _) (Nat.le_refl _) hR2
theorem lc_29 (C : CX X B A room_1 RL cL_law 4 kc ks) (S : SX X B A L xs) (i : Nat) (hi : i + 5 ≤ L) (hR : Rel ζ) (hcs : kc + 9 ≤ room_1.cells ∧ ks + 190 ≤ room_1.slots) (nxt : ∀ (B : eB) (kc' ks' : Nat) (η : zSt), CX X B A room_1 RL cL_law 4 kc' ks' → SX X B A L xs → kc' ≤ kc + 9 → ks' ≤ ks + 190 → Rel η → ZW X B A 4 kc' ks' Q η 1071 [some (.ref 2000), some (.ref 0), some (.ref 52), some (zi i)] []) : ZW X B A 4 kc ks Q ζ 988 [some (.ref 2000), some (.ref 0), some (.ref 52), some (zi i)] [] := by
  obtain ⟨z, ζ1, ζ2, r1, r2, hR2⟩ := st_from (l := xLa X) (B := B) hR (i32_bd (xs (i + 1)))
  refine zw_aload_n (i := 1) (nx := 989) C dL_law_988 rfl rfl rfl ?_
  refine zw_aload_n (i := 0) (nx := 990) C dL_law_989 rfl rfl rfl ?_
  refine zw_iload_n (i := 3) (nx := 991) C dL_law_990 rfl rfl rfl ?_
  refine zw_iconst (nx := 992) C dL_law_991 rfl ?_
  refine zw_iadd (nx := 993) C dL_law_992 rfl ?_
  refine zw_sld (i + 1) (nx := 994) S C dL_law_993 rfl (by omega) ?_
  refine zw_cV11 (nx := 997) C dL_law_994 rfl cvL_135 rfl rfl ⟨Nat.le_of_ble_eq_true rfl, Nat.le_of_ble_eq_true rfl⟩ rfl rfl (Nat.le_of_ble_eq_true rfl) r1 ?_
  refine zw_aload_n (i := 2) (nx := 998) C dL_law_997 rfl rfl rfl ?_
  refine zw_aload_n (i := 0) (nx := 999) C dL_law_998 rfl rfl rfl ?_
  refine zw_iload_n (i := 3) (nx := 1000) C dL_law_999 rfl rfl rfl ?_
  refine zw_iconst (nx := 1001) C dL_law_1000 rfl ?_
  refine zw_iadd (nx := 1002) C dL_law_1001 rfl ?_
  refine zw_sld (i + 1) (nx := 1003) S C dL_law_1002 rfl (by omega) ?_
  refine zw_cV11 (nx := 1006) C dL_law_1003 rfl cvL_138 rfl rfl ⟨Nat.le_of_ble_eq_true rfl, Nat.le_of_ble_eq_true rfl⟩ rfl rfl (Nat.le_of_ble_eq_true rfl) r2 ?_
  refine zw_eqq (tgt := 1071) C dL_law_1006 rfl ?_
  exact nxt _ _ _ ζ2 C S (Nat.le_add_right _ _) (Nat.le_add_right _ _) hR2
theorem lc_30 (C : CX X B A room_1 RL cL_law 4 kc ks) (S : SX X B A L xs) (i : Nat) (hi : i + 5 ≤ L) (hR : Rel ζ) (hcs : kc + 9 ≤ room_1.cells ∧ ks + 190 ≤ room_1.slots) (nxt : ∀ (B : eB) (kc' ks' : Nat) (η : zSt), CX X B A room_1 RL cL_law 4 kc' ks' → SX X B A L xs → kc' ≤ kc + 9 → ks' ≤ ks + 190 → Rel η → ZW X B A 4 kc' ks' Q η 1071 [some (.ref 2000), some (.ref 0), some (.ref 52), some (zi i)] []) : ZW X B A 4 kc ks Q ζ 1011 [some (.ref 2000), some (.ref 0), some (.ref 52), some (zi i)] [] := by
  obtain ⟨z, ζ1, ζ2, r1, r2, hR2⟩ := st_status (l := xLa X) (B := B) hR (i32_bd (xs (i + 1)))
  refine zw_aload_n (i := 1) (nx := 1012) C dL_law_1011 rfl rfl rfl ?_
  refine zw_aload_n (i := 0) (nx := 1013) C dL_law_1012 rfl rfl rfl ?_
  refine zw_iload_n (i := 3) (nx := 1014) C dL_law_1013 rfl rfl rfl ?_
  refine zw_iconst (nx := 1015) C dL_law_1014 rfl ?_
  refine zw_iadd (nx := 1016) C dL_law_1015 rfl ?_
  refine zw_sld (i + 1) (nx := 1017) S C dL_law_1016 rfl (by omega) ?_
  refine zw_cV11 (nx := 1020) C dL_law_1017 rfl cvL_139 rfl rfl ⟨Nat.le_of_ble_eq_true rfl, Nat.le_of_ble_eq_true rfl⟩ rfl rfl (Nat.le_of_ble_eq_true rfl) r1 ?_
  refine zw_aload_n (i := 2) (nx := 1021) C dL_law_1020 rfl rfl rfl ?_
  refine zw_aload_n (i := 0) (nx := 1022) C dL_law_1021 rfl rfl rfl ?_
  refine zw_iload_n (i := 3) (nx := 1023) C dL_law_1022 rfl rfl rfl ?_
  refine zw_iconst (nx := 1024) C dL_law_1023 rfl ?_
  refine zw_iadd (nx := 1025) C dL_law_1024 rfl ?_
  refine zw_sld (i + 1) (nx := 1026) S C dL_law_1025 rfl (by omega) ?_
  refine zw_cV11 (nx := 1029) C dL_law_1026 rfl cvL_142 rfl rfl ⟨Nat.le_of_ble_eq_true rfl, Nat.le_of_ble_eq_true rfl⟩ rfl rfl (Nat.le_of_ble_eq_true rfl) r2 ?_
  refine zw_eqq (tgt := 1071) C dL_law_1029 rfl ?_
  exact nxt _ _ _ ζ2 C S (Nat.le_add_right _ _) (Nat.le_add_right _ _) hR2
theorem lc_31 (C : CX X B A room_1 RL cL_law 4 kc ks) (S : SX X B A L xs) (i : Nat) (hi : i + 5 ≤ L) (hR : Rel ζ) (hcs : kc + 9 ≤ room_1.cells ∧ ks + 190 ≤ room_1.slots) (nxt : ∀ (B : eB) (kc' ks' : Nat) (η : zSt), CX X B A room_1 RL cL_law 4 kc' ks' → SX X B A L xs → kc' ≤ kc + 9 → ks' ≤ ks + 190 → Rel η → ZW X B A 4 kc' ks' Q η 1071 [some (.ref 2000), some (.ref 0), some (.ref 52), some (zi i)] []) : ZW X B A 4 kc ks Q ζ 1034 [some (.ref 2000), some (.ref 0), some (.ref 52), some (zi i)] [] := by
  obtain ⟨z, ζ1, ζ2, r1, r2, hR2⟩ := st_count (l := xLa X) (B := B) hR (i32_bd (xs (i + 1)))
  refine zw_aload_n (i := 1) (nx := 1035) C dL_law_1034 rfl rfl rfl ?_
  refine zw_aload_n (i := 0) (nx := 1036) C dL_law_1035 rfl rfl rfl ?_
  refine zw_iload_n (i := 3) (nx := 1037) C dL_law_1036 rfl rfl rfl ?_
  refine zw_iconst (nx := 1038) C dL_law_1037 rfl ?_
  refine zw_iadd (nx := 1039) C dL_law_1038 rfl ?_
  refine zw_sld (i + 1) (nx := 1040) S C dL_law_1039 rfl (by omega) ?_
  refine zw_cV11 (nx := 1043) C dL_law_1040 rfl cvL_143 rfl rfl ⟨Nat.le_of_ble_eq_true rfl, Nat.le_of_ble_eq_true rfl⟩ rfl rfl (Nat.le_of_ble_eq_true rfl) r1 ?_
  refine zw_aload_n (i := 2) (nx := 1044) C dL_law_1043 rfl rfl rfl ?_
  refine zw_aload_n (i := 0) (nx := 1045) C dL_law_1044 rfl rfl rfl ?_
  refine zw_iload_n (i := 3) (nx := 1046) C dL_law_1045 rfl rfl rfl ?_
  refine zw_iconst (nx := 1047) C dL_law_1046 rfl ?_
  refine zw_iadd (nx := 1048) C dL_law_1047 rfl ?_
  refine zw_sld (i + 1) (nx := 1049) S C dL_law_1048 rfl (by omega) ?_
  refine zw_cV11 (nx := 1052) C dL_law_1049 rfl cvL_146 rfl rfl ⟨Nat.le_of_ble_eq_true rfl, Nat.le_of_ble_eq_true rfl⟩ rfl rfl (Nat.le_of_ble_eq_true rfl) r2 ?_
  refine zw_eqq (tgt := 1071) C dL_law_1052 rfl ?_
  exact nxt _ _ _ ζ2 C S (Nat.le_add_right _ _) (Nat.le_add_right _ _) hR2
theorem lc_32 (C : CX X B A room_1 RL cL_law 4 kc ks) (S : SX X B A L xs) (i : Nat) (hi : i + 5 ≤ L) (hR : Rel ζ) (hcs : kc + 9 ≤ room_1.cells ∧ ks + 190 ≤ room_1.slots) (nxt : ∀ (B : eB) (kc' ks' : Nat) (η : zSt), CX X B A room_1 RL cL_law 4 kc' ks' → SX X B A L xs → kc' ≤ kc + 9 → ks' ≤ ks + 190 → Rel η → ZW X B A 4 kc' ks' Q η 1071 [some (.ref 2000), some (.ref 0), some (.ref 52), some (zi i)] []) : ZW X B A 4 kc ks Q ζ 1057 [some (.ref 2000), some (.ref 0), some (.ref 52), some (zi i)] [] := by
  obtain ⟨z, ζ1, ζ2, r1, r2, hR2⟩ := st_digest (l := xLa X) (B := B) hR
  refine zw_aload_n (i := 1) (nx := 1058) C dL_law_1057 rfl rfl rfl ?_
  refine zw_cV01 (nx := 1061) C dL_law_1058 rfl cvL_147 rfl rfl ⟨Nat.le_of_ble_eq_true rfl, Nat.le_of_ble_eq_true rfl⟩ rfl rfl (Nat.le_of_ble_eq_true rfl) r1 ?_
  refine zw_aload_n (i := 2) (nx := 1062) C dL_law_1061 rfl rfl rfl ?_
  refine zw_cV01 (nx := 1065) C dL_law_1062 rfl cvL_151 rfl rfl ⟨Nat.le_of_ble_eq_true rfl, Nat.le_of_ble_eq_true rfl⟩ rfl rfl (Nat.le_of_ble_eq_true rfl) r2 ?_
  refine zw_lqq (tgt := 1071) C dL_law_1065 rfl dL_law_1066 rfl ?_
  exact nxt _ _ _ ζ2 C S (Nat.le_add_right _ _) (Nat.le_add_right _ _) hR2
theorem law_body (C : CX X B A room_1 RL cL_law 4 kc ks) (S : SX X B A L xs) (i : Nat) (hi : i + 5 ≤ L) (hR : Rel ζ) (hcs : kc + 9 ≤ room_1.cells ∧ ks + 190 ≤ room_1.slots) (nxt : ∀ (B : eB) (kc' ks' : Nat) (η : zSt), CX X B A room_1 RL cL_law 4 kc' ks' → SX X B A L xs → kc' ≤ kc + 9 → ks' ≤ ks + 190 → Rel η → ZW X B A 4 kc' ks' Q η 1071 [some (.ref 2000), some (.ref 0), some (.ref 52), some (zi i)] []) : ZW X B A 4 kc ks Q ζ 26 [some (.ref 2000), some (.ref 0), some (.ref 52), some (zi i)] [] := by
  refine zw_aload_n (i := 0) (nx := 27) C dL_law_26 rfl rfl rfl ?_
  refine zw_iload_n (i := 3) (nx := 28) C dL_law_27 rfl rfl rfl ?_
  refine zw_sld i (nx := 29) S C dL_law_28 rfl ⟨rfl, by omega⟩ ?_
  refine zw_bipush (v := 63) (nx := 31) C dL_law_29 (by decide) rfl ?_
  refine zw_iand (c := (xs i &&& 63).toInt) (nx := 32) C dL_law_31 (by rw [iI_of, iI_of]; rfl) rfl ?_
  have hc := i32_bd (xs i &&& 63)
  generalize (xs i &&& 63).toInt = c at hc ⊢
  by_cases h : c < 0 ∨ 32 < c
  · refine zw_tableOut (nx := 1071) C dL_law_32 hc h rfl ?_
    exact nxt _ _ _ ζ C S (Nat.le_add_right _ _) (Nat.le_add_right _ _) hR
  have hlo : 0 ≤ c := by omega
  have hhi : c ≤ 32 := by omega
  clear h hc
  rcases Int.lt_or_eq_of_le hlo with h1 | e
  rotate_left
  · subst e
    refine zw_tableIn (nx := 180) C dL_law_32 (by omega) (by omega) (by omega) rfl rfl ?_
    exact lc_0 C S i hi hR hcs nxt
  replace hlo : 1 ≤ c := h1
  clear h1
  rcases Int.lt_or_eq_of_le hlo with h1 | e
  rotate_left
  · subst e
    refine zw_tableIn (nx := 213) C dL_law_32 (by omega) (by omega) (by omega) rfl rfl ?_
    exact lc_1 C S i hi hR hcs nxt
  replace hlo : 2 ≤ c := h1
  clear h1
  rcases Int.lt_or_eq_of_le hlo with h1 | e
  rotate_left
  · subst e
    refine zw_tableIn (nx := 246) C dL_law_32 (by omega) (by omega) (by omega) rfl rfl ?_
    exact lc_2 C S i hi hR hcs nxt
  replace hlo : 3 ≤ c := h1
  clear h1
  rcases Int.lt_or_eq_of_le hlo with h1 | e
  rotate_left
  · subst e
    refine zw_tableIn (nx := 279) C dL_law_32 (by omega) (by omega) (by omega) rfl rfl ?_
    exact lc_3 C S i hi hR hcs nxt
  replace hlo : 4 ≤ c := h1
  clear h1
  rcases Int.lt_or_eq_of_le hlo with h1 | e
  rotate_left
  · subst e
    refine zw_tableIn (nx := 312) C dL_law_32 (by omega) (by omega) (by omega) rfl rfl ?_
    exact lc_4 C S i hi hR hcs nxt
  replace hlo : 5 ≤ c := h1
  clear h1
  rcases Int.lt_or_eq_of_le hlo with h1 | e
  rotate_left
  · subst e
    refine zw_tableIn (nx := 335) C dL_law_32 (by omega) (by omega) (by omega) rfl rfl ?_
    exact lc_5 C S i hi hR hcs nxt
  replace hlo : 6 ≤ c := h1
  clear h1
  rcases Int.lt_or_eq_of_le hlo with h1 | e
  rotate_left
  · subst e
    refine zw_tableIn (nx := 348) C dL_law_32 (by omega) (by omega) (by omega) rfl rfl ?_
    exact lc_6 C S i hi hR hcs nxt
  replace hlo : 7 ≤ c := h1
  clear h1
  rcases Int.lt_or_eq_of_le hlo with h1 | e
  rotate_left
  · subst e
    refine zw_tableIn (nx := 361) C dL_law_32 (by omega) (by omega) (by omega) rfl rfl ?_
    exact lc_7 C S i hi hR hcs nxt
  replace hlo : 8 ≤ c := h1
  clear h1
  rcases Int.lt_or_eq_of_le hlo with h1 | e
  rotate_left
  · subst e
    refine zw_tableIn (nx := 384) C dL_law_32 (by omega) (by omega) (by omega) rfl rfl ?_
    exact lc_8 C S i hi hR hcs nxt
  replace hlo : 9 ≤ c := h1
  clear h1
  rcases Int.lt_or_eq_of_le hlo with h1 | e
  rotate_left
  · subst e
    refine zw_tableIn (nx := 407) C dL_law_32 (by omega) (by omega) (by omega) rfl rfl ?_
    exact lc_9 C S i hi hR hcs nxt
  replace hlo : 10 ≤ c := h1
  clear h1
  rcases Int.lt_or_eq_of_le hlo with h1 | e
  rotate_left
  · subst e
    refine zw_tableIn (nx := 440) C dL_law_32 (by omega) (by omega) (by omega) rfl rfl ?_
    exact lc_10 C S i hi hR hcs nxt
  replace hlo : 11 ≤ c := h1
  clear h1
  rcases Int.lt_or_eq_of_le hlo with h1 | e
  rotate_left
  · subst e
    refine zw_tableIn (nx := 453) C dL_law_32 (by omega) (by omega) (by omega) rfl rfl ?_
    exact lc_11 C S i hi hR hcs nxt
  replace hlo : 12 ≤ c := h1
  clear h1
  rcases Int.lt_or_eq_of_le hlo with h1 | e
  rotate_left
  · subst e
    refine zw_tableIn (nx := 486) C dL_law_32 (by omega) (by omega) (by omega) rfl rfl ?_
    exact lc_12 C S i hi hR hcs nxt
  replace hlo : 13 ≤ c := h1
  clear h1
  rcases Int.lt_or_eq_of_le hlo with h1 | e
  rotate_left
  · subst e
    refine zw_tableIn (nx := 519) C dL_law_32 (by omega) (by omega) (by omega) rfl rfl ?_
    exact lc_13 C S i hi hR hcs nxt
  replace hlo : 14 ≤ c := h1
  clear h1
  rcases Int.lt_or_eq_of_le hlo with h1 | e
  rotate_left
  · subst e
    refine zw_tableIn (nx := 552) C dL_law_32 (by omega) (by omega) (by omega) rfl rfl ?_
    exact lc_14 C S i hi hR hcs nxt
  replace hlo : 15 ≤ c := h1
  clear h1
  rcases Int.lt_or_eq_of_le hlo with h1 | e
  rotate_left
  · subst e
    refine zw_tableIn (nx := 585) C dL_law_32 (by omega) (by omega) (by omega) rfl rfl ?_
    exact lc_15 C S i hi hR hcs nxt
  replace hlo : 16 ≤ c := h1
  clear h1
  rcases Int.lt_or_eq_of_le hlo with h1 | e
  rotate_left
  · subst e
    refine zw_tableIn (nx := 618) C dL_law_32 (by omega) (by omega) (by omega) rfl rfl ?_
    exact lc_16 C S i hi hR hcs nxt
  replace hlo : 17 ≤ c := h1
  clear h1
  rcases Int.lt_or_eq_of_le hlo with h1 | e
  rotate_left
  · subst e
    refine zw_tableIn (nx := 651) C dL_law_32 (by omega) (by omega) (by omega) rfl rfl ?_
    exact lc_17 C S i hi hR hcs nxt
  replace hlo : 18 ≤ c := h1
  clear h1
  rcases Int.lt_or_eq_of_le hlo with h1 | e
  rotate_left
  · subst e
    refine zw_tableIn (nx := 684) C dL_law_32 (by omega) (by omega) (by omega) rfl rfl ?_
    exact lc_18 C S i hi hR hcs nxt
  replace hlo : 19 ≤ c := h1
  clear h1
  rcases Int.lt_or_eq_of_le hlo with h1 | e
  rotate_left
  · subst e
    refine zw_tableIn (nx := 707) C dL_law_32 (by omega) (by omega) (by omega) rfl rfl ?_
    exact lc_19 C S i hi hR hcs nxt
  replace hlo : 20 ≤ c := h1
  clear h1
  rcases Int.lt_or_eq_of_le hlo with h1 | e
  rotate_left
  · subst e
    refine zw_tableIn (nx := 730) C dL_law_32 (by omega) (by omega) (by omega) rfl rfl ?_
    exact lc_20 C S i hi hR hcs nxt
  replace hlo : 21 ≤ c := h1
  clear h1
  rcases Int.lt_or_eq_of_le hlo with h1 | e
  rotate_left
  · subst e
    refine zw_tableIn (nx := 783) C dL_law_32 (by omega) (by omega) (by omega) rfl rfl ?_
    exact lc_21 C S i hi hR hcs nxt
  replace hlo : 22 ≤ c := h1
  clear h1
  rcases Int.lt_or_eq_of_le hlo with h1 | e
  rotate_left
  · subst e
    refine zw_tableIn (nx := 796) C dL_law_32 (by omega) (by omega) (by omega) rfl rfl ?_
    exact lc_22 C S i hi hR hcs nxt
  replace hlo : 23 ≤ c := h1
  clear h1
  rcases Int.lt_or_eq_of_le hlo with h1 | e
  rotate_left
  · subst e
    refine zw_tableIn (nx := 819) C dL_law_32 (by omega) (by omega) (by omega) rfl rfl ?_
    exact lc_23 C S i hi hR hcs nxt
  replace hlo : 24 ≤ c := h1
  clear h1
  rcases Int.lt_or_eq_of_le hlo with h1 | e
  rotate_left
  · subst e
    refine zw_tableIn (nx := 842) C dL_law_32 (by omega) (by omega) (by omega) rfl rfl ?_
    exact lc_24 C S i hi hR hcs nxt
  replace hlo : 25 ≤ c := h1
  clear h1
  rcases Int.lt_or_eq_of_le hlo with h1 | e
  rotate_left
  · subst e
    refine zw_tableIn (nx := 885) C dL_law_32 (by omega) (by omega) (by omega) rfl rfl ?_
    exact lc_25 C S i hi hR hcs nxt
  replace hlo : 26 ≤ c := h1
  clear h1
  rcases Int.lt_or_eq_of_le hlo with h1 | e
  rotate_left
  · subst e
    refine zw_tableIn (nx := 908) C dL_law_32 (by omega) (by omega) (by omega) rfl rfl ?_
    exact lc_26 C S i hi hR hcs nxt
  replace hlo : 27 ≤ c := h1
  clear h1
  rcases Int.lt_or_eq_of_le hlo with h1 | e
  rotate_left
  · subst e
    refine zw_tableIn (nx := 941) C dL_law_32 (by omega) (by omega) (by omega) rfl rfl ?_
    exact lc_27 C S i hi hR hcs nxt
  replace hlo : 28 ≤ c := h1
  clear h1
  rcases Int.lt_or_eq_of_le hlo with h1 | e
  rotate_left
  · subst e
    refine zw_tableIn (nx := 965) C dL_law_32 (by omega) (by omega) (by omega) rfl rfl ?_
    exact lc_28 C S i hi hR hcs nxt
  replace hlo : 29 ≤ c := h1
  clear h1
  rcases Int.lt_or_eq_of_le hlo with h1 | e
  rotate_left
  · subst e
    refine zw_tableIn (nx := 988) C dL_law_32 (by omega) (by omega) (by omega) rfl rfl ?_
    exact lc_29 C S i hi hR hcs nxt
  replace hlo : 30 ≤ c := h1
  clear h1
  rcases Int.lt_or_eq_of_le hlo with h1 | e
  rotate_left
  · subst e
    refine zw_tableIn (nx := 1011) C dL_law_32 (by omega) (by omega) (by omega) rfl rfl ?_
    exact lc_30 C S i hi hR hcs nxt
  replace hlo : 31 ≤ c := h1
  clear h1
  rcases Int.lt_or_eq_of_le hlo with h1 | e
  rotate_left
  · subst e
    refine zw_tableIn (nx := 1034) C dL_law_32 (by omega) (by omega) (by omega) rfl rfl ?_
    exact lc_31 C S i hi hR hcs nxt
  replace hlo : 32 ≤ c := h1
  clear h1
  rcases Int.lt_or_eq_of_le hlo with h1 | e
  rotate_left
  · subst e
    refine zw_tableIn (nx := 1057) C dL_law_32 (by omega) (by omega) (by omega) rfl rfl ?_
    exact lc_32 C S i hi hR hcs nxt
  replace hlo : 33 ≤ c := h1
  clear h1
  exfalso; omega
theorem law_loop (fin : ∀ (B : eB) (kc ks : Nat) (ζ : zSt) (i : Nat), CX X B A room_1 RL cL_law 4 kc ks → ZW X B A 4 kc ks Q ζ 1077 [some (.ref 2000), some (.ref 0), some (.ref 52), some (zi i)] []) : ∀ (k i : Nat) (B : eB) (kc ks : Nat) (ζ : zSt), CX X B A room_1 RL cL_law 4 kc ks → SX X B A L xs → i ≤ L → L < i + k → kc + 9 * (L + 5 - i) ≤ 600000 → ks + 190 * (L + 5 - i) ≤ 7302250 → Rel ζ → ZW X B A 4 kc ks Q ζ 18 [some (.ref 2000), some (.ref 0), some (.ref 52), some (zi i)] [] := by
  intro k
  induction k with
  | zero => intro i B kc ks ζ _ _ h1 h2; omega
  | succ k ih =>
    intro i B kc ks ζ C S h1 h2 b1 b2 hR
    have hL := S.2
    refine zw_iload_n (i := 3) (nx := 19) C dL_law_18 rfl rfl rfl ?_
    refine zw_aload_n (i := 0) (nx := 20) C dL_law_19 rfl rfl rfl ?_
    refine zw_slen (nx := 21) S C dL_law_20 rfl ?_
    refine zw_iconst (nx := 22) C dL_law_21 rfl ?_
    refine zw_isub (nx := 23) C dL_law_22 rfl ?_
    by_cases hi : i + 5 ≤ L
    · refine zw_icmp_gt (tgt := 1077) (nx := 26) C dL_law_23 rfl rfl (by omega) (fun h => by exfalso; omega) (fun _ => ?_)
      refine law_body C S i hi hR ⟨by show kc + 9 ≤ 600000; omega, by show ks + 190 ≤ 7302250; omega⟩ (fun B' kc' ks' η C' S' e1 e2 hη => ?_)
      refine zw_iinc3 (nx := 1074) C' dL_law_1071 rfl (Nat.le_of_ble_eq_true rfl) rfl ?_
      refine zw_goto (nx := 18) C' dL_law_1074 rfl ?_
      exact ih (i + 5) B' kc' ks' η C' S' hi (by omega) (by omega) (by omega) hη
    · refine zw_icmp_gt (tgt := 1077) (nx := 26) C dL_law_23 rfl rfl (by omega) (fun _ => ?_) (fun h => by exfalso; omega)
      exact fin B kc ks ζ i C
end LawC
