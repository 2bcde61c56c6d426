/-! the law's loop -/
section LW
variable {M : MD} {lvl mc ms : Nat} {Q : Option PV → Hp → Prop} {pc pc' tgt : Nat} {lv : List (Option PV)} {st : List PV} {h : Hp} {k n : Nat}
theorem s_saldN {len j : Nat} {xs : Nat → Int32} {nm : Nm} (d : Dc M pc .iaload 1 pc') (hc : h nm = some (29, len, fun j => vI (xs j))) (hj : j < len) (hb : len ≤ 10000) (kk : S M lvl mc ms Q pc' lv (vI (xs j) :: st) h k n) : S M lvl mc ms Q pc lv (vI (nI j) :: vR nm :: st) h k n := by
  refine s_sald d hc (vp_in_nI hj (by omega)) ?_
  rw [nI_clamp (by omega)]
  exact kk
end LW
theorem and31 (x : Int32) : ∃ d, d < 32 ∧ x &&& nI 31 = nI d := by
  have h1 : (x &&& nI 31).toBitVec = x.toBitVec &&& 31#32 := rfl
  have h2 : (x.toBitVec &&& 31#32).toNat < 32 := by
    rw [BitVec.toNat_and]
    exact Nat.lt_of_le_of_lt Nat.and_le_right (by decide)
  refine ⟨(x.toBitVec &&& 31#32).toNat, h2, ?_⟩
  apply Int32.toBitVec_inj.mp
  rw [h1]
  show _ = BitVec.ofNat 32 _
  simp
theorem nI_i7 (c : Nat) : nI (7 * c) + Int32.ofInt 7 = nI (7 * (c + 1)) := by
  show nI (7 * c) + nI 7 = _
  rw [nI_add]
  congr 1
theorem sub7 {L c : Nat} (hL : L ≤ 3584) (hc : c ≤ 600) : (nI L - nI 7).toInt = (L : Int) - 7 := by
  rw [Int32.toInt_sub, nI_toInt (by omega), nI_toInt (by omega)]
  exact Int.bmod_eq_of_le (by omega) (by omega)
theorem sub7a {L c : Nat} (hL : L ≤ 3584) (hc : c ≤ 600) (h1 : L < 7 * c + 7) : nI L - nI 7 < nI (7 * c) := by
  rw [Int32.lt_iff_toInt_lt, sub7 (c := c) hL hc, nI_toInt (by omega)]
  omega
theorem sub7b {L c : Nat} (hL : L ≤ 3584) (hc : c ≤ 600) (h1 : 7 * c + 7 ≤ L) : ¬ nI L - nI 7 < nI (7 * c) := by
  rw [Int32.lt_iff_toInt_lt, sub7 (c := c) hL hc, nI_toInt (by omega)]
  omega
theorem LI.mn {c L : Nat} {xs : Nat → Int32} {H : Hp} (I : LI c L xs H) : (∃ f, H (10, 0, 0) = some (11, 0, f)) ∧ H (0, 0, 0) = some (29, L, fun j => vI (xs j)) := by
  obtain ⟨σ, od, K, N, B, R, A, V, O, NS, P, T, n, h0, eH, C, G, hT, hS⟩ := I
  exact ⟨⟨_, C.1⟩, hS⟩
/-- the law's method, by any name -/
abbrev mLx (nm : String) : MD := (⟨"RuleBooksLaw", nm, "([I)Z"⟩, code, 4, some .boolean)
theorem w_kind {nm : String} {H : Hp} {c L k n : Nat} {xs : Nat → Int32} {fm : Nat → PV} (hL : L ≤ 3584) (hc : c ≤ 600) (hi : 7 * c + 7 ≤ L) (hm : H (10, 0, 0) = some (11, 0, fm)) (hs : H (0, 0, 0) = some (29, L, fun j => vI (xs j))) (I : LI c L xs H) (hk : k ≤ 200 + 124 * c) (hn : n ≤ 8000 + 8924 * c) (kk : ∀ H' k' n', LI (c + 1) L xs H' → k' ≤ 200 + 124 * (c + 1) → n' ≤ 8000 + 8924 * (c + 1) → S (mLx nm) 40 600000 7302250 (fun v _ => v = some (vI 1)) 1197 [some (vR (0, 0, 0)), some (vR (10, 0, 0)), some (vR (100, 0, 0)), some (vI (nI (7 * c)))] [] H' k' n') :
    S (mLx nm) 40 600000 7302250 (fun v _ => v = some (vI 1)) 172 [some (vR (0, 0, 0)), some (vR (10, 0, 0)), some (vR (100, 0, 0)), some (vI (nI (7 * c)))] [] H k n := by
  refine s_aload_n dL_law_172 rfl rfl ?_
  refine s_aload_n dL_law_173 rfl rfl ?_
  refine s_iload_n dL_law_174 rfl rfl ?_
  refine s_iconst (v := nI 1) dL_law_175 (by decide) ?_
  first | refine s_iaddN dL_law_176 ?_ | refine s_iadd dL_law_176 ?_
  refine s_saldN dL_law_177 (by repeat (first | exact up_self | assumption | rw [up_ne (by first | assumption | (intro q0; cases q0; done) | (intro q0; simp at q0; omega))])) (by omega) (by omega) ?_
  refine s_callV (As := [_]) dL_law_178 cv_L_13 (by repeat (first | exact up_self | assumption | rw [up_ne (by first | assumption | (intro q0; cases q0; done) | (intro q0; simp at q0; omega))])) (p_kind (xs (7 * c + 1)) hc I) (by first | rfl | exact Nat.ble_eq_true_of_le (by omega)) (Nat.ble_eq_true_of_le (by omega)) (Nat.ble_eq_true_of_le (by omega)) rfl (fun v0 h1 q0 => ?_)
  obtain ⟨x0, σ1, h01, rfl, rfl, hs1, cm⟩ := q0
  refine s_aload_n dL_law_181 rfl rfl ?_
  refine s_aload_n dL_law_182 rfl rfl ?_
  refine s_iload_n dL_law_183 rfl rfl ?_
  refine s_iconst (v := nI 1) dL_law_184 (by decide) ?_
  first | refine s_iaddN dL_law_185 ?_ | refine s_iadd dL_law_185 ?_
  refine s_saldN dL_law_186 (by repeat (first | exact up_self | assumption | rw [up_ne (by first | assumption | (intro q0; cases q0; done) | (intro q0; simp at q0; omega))])) (by omega) (by omega) ?_
  refine s_callV (As := [_]) dL_law_187 cv_L_17 hM_o (cm) (by first | rfl | exact Nat.ble_eq_true_of_le (by omega)) (Nat.ble_eq_true_of_le (by omega)) (Nat.ble_eq_true_of_le (by omega)) rfl (fun v0 h2 q0 => ?_)
  obtain ⟨rfl, I2⟩ := q0
  refine s_icmp_eq dL_law_190 (fun _ => ?_) (fun q => absurd rfl q)
  exact kk _ _ _ I2 (by omega) (by omega)
theorem w_under {nm : String} {H : Hp} {c L k n : Nat} {xs : Nat → Int32} {fm : Nat → PV} (hL : L ≤ 3584) (hc : c ≤ 600) (hi : 7 * c + 7 ≤ L) (hm : H (10, 0, 0) = some (11, 0, fm)) (hs : H (0, 0, 0) = some (29, L, fun j => vI (xs j))) (I : LI c L xs H) (hk : k ≤ 200 + 124 * c) (hn : n ≤ 8000 + 8924 * c) (kk : ∀ H' k' n', LI (c + 1) L xs H' → k' ≤ 200 + 124 * (c + 1) → n' ≤ 8000 + 8924 * (c + 1) → S (mLx nm) 40 600000 7302250 (fun v _ => v = some (vI 1)) 1197 [some (vR (0, 0, 0)), some (vR (10, 0, 0)), some (vR (100, 0, 0)), some (vI (nI (7 * c)))] [] H' k' n') :
    S (mLx nm) 40 600000 7302250 (fun v _ => v = some (vI 1)) 195 [some (vR (0, 0, 0)), some (vR (10, 0, 0)), some (vR (100, 0, 0)), some (vI (nI (7 * c)))] [] H k n := by
  refine s_aload_n dL_law_195 rfl rfl ?_
  refine s_aload_n dL_law_196 rfl rfl ?_
  refine s_iload_n dL_law_197 rfl rfl ?_
  refine s_iconst (v := nI 1) dL_law_198 (by decide) ?_
  first | refine s_iaddN dL_law_199 ?_ | refine s_iadd dL_law_199 ?_
  refine s_saldN dL_law_200 (by repeat (first | exact up_self | assumption | rw [up_ne (by first | assumption | (intro q0; cases q0; done) | (intro q0; simp at q0; omega))])) (by omega) (by omega) ?_
  refine s_aload_n dL_law_201 rfl rfl ?_
  refine s_iload_n dL_law_202 rfl rfl ?_
  refine s_iconst (v := nI 2) dL_law_203 (by decide) ?_
  first | refine s_iaddN dL_law_204 ?_ | refine s_iadd dL_law_204 ?_
  refine s_saldN dL_law_205 (by repeat (first | exact up_self | assumption | rw [up_ne (by first | assumption | (intro q0; cases q0; done) | (intro q0; simp at q0; omega))])) (by omega) (by omega) ?_
  refine s_callV (As := [_, _]) dL_law_206 cv_L_18 (by repeat (first | exact up_self | assumption | rw [up_ne (by first | assumption | (intro q0; cases q0; done) | (intro q0; simp at q0; omega))])) (p_under (xs (7 * c + 1)) (xs (7 * c + 2)) I) (by first | rfl | exact Nat.ble_eq_true_of_le (by omega)) (Nat.ble_eq_true_of_le (by omega)) (Nat.ble_eq_true_of_le (by omega)) rfl (fun v0 h1 q0 => ?_)
  obtain ⟨x0, σ1, h01, rfl, rfl, hs1, cm⟩ := q0
  refine s_aload_n dL_law_209 rfl rfl ?_
  refine s_aload_n dL_law_210 rfl rfl ?_
  refine s_iload_n dL_law_211 rfl rfl ?_
  refine s_iconst (v := nI 1) dL_law_212 (by decide) ?_
  first | refine s_iaddN dL_law_213 ?_ | refine s_iadd dL_law_213 ?_
  refine s_saldN dL_law_214 (by repeat (first | exact up_self | assumption | rw [up_ne (by first | assumption | (intro q0; cases q0; done) | (intro q0; simp at q0; omega))])) (by omega) (by omega) ?_
  refine s_aload_n dL_law_215 rfl rfl ?_
  refine s_iload_n dL_law_216 rfl rfl ?_
  refine s_iconst (v := nI 2) dL_law_217 (by decide) ?_
  first | refine s_iaddN dL_law_218 ?_ | refine s_iadd dL_law_218 ?_
  refine s_saldN dL_law_219 (by repeat (first | exact up_self | assumption | rw [up_ne (by first | assumption | (intro q0; cases q0; done) | (intro q0; simp at q0; omega))])) (by omega) (by omega) ?_
  refine s_callV (As := [_, _]) dL_law_220 cv_L_22 hM_o (cm) (by first | rfl | exact Nat.ble_eq_true_of_le (by omega)) (Nat.ble_eq_true_of_le (by omega)) (Nat.ble_eq_true_of_le (by omega)) rfl (fun v0 h2 q0 => ?_)
  obtain ⟨rfl, I2⟩ := q0
  refine s_icmp_eq dL_law_223 (fun _ => ?_) (fun q => absurd rfl q)
  exact kk _ _ _ I2 (by omega) (by omega)
theorem w_subject {nm : String} {H : Hp} {c L k n : Nat} {xs : Nat → Int32} {fm : Nat → PV} (hL : L ≤ 3584) (hc : c ≤ 600) (hi : 7 * c + 7 ≤ L) (hm : H (10, 0, 0) = some (11, 0, fm)) (hs : H (0, 0, 0) = some (29, L, fun j => vI (xs j))) (I : LI c L xs H) (hk : k ≤ 200 + 124 * c) (hn : n ≤ 8000 + 8924 * c) (kk : ∀ H' k' n', LI (c + 1) L xs H' → k' ≤ 200 + 124 * (c + 1) → n' ≤ 8000 + 8924 * (c + 1) → S (mLx nm) 40 600000 7302250 (fun v _ => v = some (vI 1)) 1197 [some (vR (0, 0, 0)), some (vR (10, 0, 0)), some (vR (100, 0, 0)), some (vI (nI (7 * c)))] [] H' k' n') :
    S (mLx nm) 40 600000 7302250 (fun v _ => v = some (vI 1)) 228 [some (vR (0, 0, 0)), some (vR (10, 0, 0)), some (vR (100, 0, 0)), some (vI (nI (7 * c)))] [] H k n := by
  refine s_aload_n dL_law_228 rfl rfl ?_
  refine s_aload_n dL_law_229 rfl rfl ?_
  refine s_iload_n dL_law_230 rfl rfl ?_
  refine s_iconst (v := nI 1) dL_law_231 (by decide) ?_
  first | refine s_iaddN dL_law_232 ?_ | refine s_iadd dL_law_232 ?_
  refine s_saldN dL_law_233 (by repeat (first | exact up_self | assumption | rw [up_ne (by first | assumption | (intro q0; cases q0; done) | (intro q0; simp at q0; omega))])) (by omega) (by omega) ?_
  refine s_callV (As := [_]) dL_law_234 cv_L_23 (by repeat (first | exact up_self | assumption | rw [up_ne (by first | assumption | (intro q0; cases q0; done) | (intro q0; simp at q0; omega))])) (p_subject (xs (7 * c + 1)) hc I) (by first | rfl | exact Nat.ble_eq_true_of_le (by omega)) (Nat.ble_eq_true_of_le (by omega)) (Nat.ble_eq_true_of_le (by omega)) rfl (fun v0 h1 q0 => ?_)
  obtain ⟨x0, σ1, h01, rfl, rfl, hs1, cm⟩ := q0
  refine s_aload_n dL_law_237 rfl rfl ?_
  refine s_aload_n dL_law_238 rfl rfl ?_
  refine s_iload_n dL_law_239 rfl rfl ?_
  refine s_iconst (v := nI 1) dL_law_240 (by decide) ?_
  first | refine s_iaddN dL_law_241 ?_ | refine s_iadd dL_law_241 ?_
  refine s_saldN dL_law_242 (by repeat (first | exact up_self | assumption | rw [up_ne (by first | assumption | (intro q0; cases q0; done) | (intro q0; simp at q0; omega))])) (by omega) (by omega) ?_
  refine s_callV (As := [_]) dL_law_243 cv_L_26 hM_o (cm) (by first | rfl | exact Nat.ble_eq_true_of_le (by omega)) (Nat.ble_eq_true_of_le (by omega)) (Nat.ble_eq_true_of_le (by omega)) rfl (fun v0 h2 q0 => ?_)
  obtain ⟨rfl, I2⟩ := q0
  refine s_icmp_eq dL_law_246 (fun _ => ?_) (fun q => absurd rfl q)
  exact kk _ _ _ I2 (by omega) (by omega)
theorem w_set {nm : String} {H : Hp} {c L k n : Nat} {xs : Nat → Int32} {fm : Nat → PV} (hL : L ≤ 3584) (hc : c ≤ 600) (hi : 7 * c + 7 ≤ L) (hm : H (10, 0, 0) = some (11, 0, fm)) (hs : H (0, 0, 0) = some (29, L, fun j => vI (xs j))) (I : LI c L xs H) (hk : k ≤ 200 + 124 * c) (hn : n ≤ 8000 + 8924 * c) (kk : ∀ H' k' n', LI (c + 1) L xs H' → k' ≤ 200 + 124 * (c + 1) → n' ≤ 8000 + 8924 * (c + 1) → S (mLx nm) 40 600000 7302250 (fun v _ => v = some (vI 1)) 1197 [some (vR (0, 0, 0)), some (vR (10, 0, 0)), some (vR (100, 0, 0)), some (vI (nI (7 * c)))] [] H' k' n') :
    S (mLx nm) 40 600000 7302250 (fun v _ => v = some (vI 1)) 251 [some (vR (0, 0, 0)), some (vR (10, 0, 0)), some (vR (100, 0, 0)), some (vI (nI (7 * c)))] [] H k n := by
  refine s_aload_n dL_law_251 rfl rfl ?_
  refine s_aload_n dL_law_252 rfl rfl ?_
  refine s_iload_n dL_law_253 rfl rfl ?_
  refine s_iconst (v := nI 1) dL_law_254 (by decide) ?_
  first | refine s_iaddN dL_law_255 ?_ | refine s_iadd dL_law_255 ?_
  refine s_saldN dL_law_256 (by repeat (first | exact up_self | assumption | rw [up_ne (by first | assumption | (intro q0; cases q0; done) | (intro q0; simp at q0; omega))])) (by omega) (by omega) ?_
  refine s_aload_n dL_law_257 rfl rfl ?_
  refine s_iload_n dL_law_258 rfl rfl ?_
  refine s_iconst (v := nI 2) dL_law_259 (by decide) ?_
  first | refine s_iaddN dL_law_260 ?_ | refine s_iadd dL_law_260 ?_
  refine s_saldN dL_law_261 (by repeat (first | exact up_self | assumption | rw [up_ne (by first | assumption | (intro q0; cases q0; done) | (intro q0; simp at q0; omega))])) (by omega) (by omega) ?_
  refine s_aload_n dL_law_262 rfl rfl ?_
  refine s_iload_n dL_law_263 rfl rfl ?_
  refine s_iconst (v := nI 3) dL_law_264 (by decide) ?_
  first | refine s_iaddN dL_law_265 ?_ | refine s_iadd dL_law_265 ?_
  refine s_saldN dL_law_266 (by repeat (first | exact up_self | assumption | rw [up_ne (by first | assumption | (intro q0; cases q0; done) | (intro q0; simp at q0; omega))])) (by omega) (by omega) ?_
  refine s_callV (As := [_, _, _]) dL_law_267 cv_L_27 (by repeat (first | exact up_self | assumption | rw [up_ne (by first | assumption | (intro q0; cases q0; done) | (intro q0; simp at q0; omega))])) (p_set (xs (7 * c + 1)) (xs (7 * c + 2)) (xs (7 * c + 3)) hc I) (by first | rfl | exact Nat.ble_eq_true_of_le (by omega)) (Nat.ble_eq_true_of_le (by omega)) (Nat.ble_eq_true_of_le (by omega)) rfl (fun v0 h1 q0 => ?_)
  obtain ⟨x0, σ1, h01, rfl, rfl, hs1, cm⟩ := q0
  refine s_aload_n dL_law_270 rfl rfl ?_
  refine s_aload_n dL_law_271 rfl rfl ?_
  refine s_iload_n dL_law_272 rfl rfl ?_
  refine s_iconst (v := nI 1) dL_law_273 (by decide) ?_
  first | refine s_iaddN dL_law_274 ?_ | refine s_iadd dL_law_274 ?_
  refine s_saldN dL_law_275 (by repeat (first | exact up_self | assumption | rw [up_ne (by first | assumption | (intro q0; cases q0; done) | (intro q0; simp at q0; omega))])) (by omega) (by omega) ?_
  refine s_aload_n dL_law_276 rfl rfl ?_
  refine s_iload_n dL_law_277 rfl rfl ?_
  refine s_iconst (v := nI 2) dL_law_278 (by decide) ?_
  first | refine s_iaddN dL_law_279 ?_ | refine s_iadd dL_law_279 ?_
  refine s_saldN dL_law_280 (by repeat (first | exact up_self | assumption | rw [up_ne (by first | assumption | (intro q0; cases q0; done) | (intro q0; simp at q0; omega))])) (by omega) (by omega) ?_
  refine s_aload_n dL_law_281 rfl rfl ?_
  refine s_iload_n dL_law_282 rfl rfl ?_
  refine s_iconst (v := nI 3) dL_law_283 (by decide) ?_
  first | refine s_iaddN dL_law_284 ?_ | refine s_iadd dL_law_284 ?_
  refine s_saldN dL_law_285 (by repeat (first | exact up_self | assumption | rw [up_ne (by first | assumption | (intro q0; cases q0; done) | (intro q0; simp at q0; omega))])) (by omega) (by omega) ?_
  refine s_callV (As := [_, _, _]) dL_law_286 cv_L_31 hM_o (cm) (by first | rfl | exact Nat.ble_eq_true_of_le (by omega)) (Nat.ble_eq_true_of_le (by omega)) (Nat.ble_eq_true_of_le (by omega)) rfl (fun v0 h2 q0 => ?_)
  obtain ⟨rfl, I2⟩ := q0
  refine s_icmp_eq dL_law_289 (fun _ => ?_) (fun q => absurd rfl q)
  exact kk _ _ _ I2 (by omega) (by omega)
theorem w_value {nm : String} {H : Hp} {c L k n : Nat} {xs : Nat → Int32} {fm : Nat → PV} (hL : L ≤ 3584) (hc : c ≤ 600) (hi : 7 * c + 7 ≤ L) (hm : H (10, 0, 0) = some (11, 0, fm)) (hs : H (0, 0, 0) = some (29, L, fun j => vI (xs j))) (I : LI c L xs H) (hk : k ≤ 200 + 124 * c) (hn : n ≤ 8000 + 8924 * c) (kk : ∀ H' k' n', LI (c + 1) L xs H' → k' ≤ 200 + 124 * (c + 1) → n' ≤ 8000 + 8924 * (c + 1) → S (mLx nm) 40 600000 7302250 (fun v _ => v = some (vI 1)) 1197 [some (vR (0, 0, 0)), some (vR (10, 0, 0)), some (vR (100, 0, 0)), some (vI (nI (7 * c)))] [] H' k' n') :
    S (mLx nm) 40 600000 7302250 (fun v _ => v = some (vI 1)) 294 [some (vR (0, 0, 0)), some (vR (10, 0, 0)), some (vR (100, 0, 0)), some (vI (nI (7 * c)))] [] H k n := by
  refine s_aload_n dL_law_294 rfl rfl ?_
  refine s_aload_n dL_law_295 rfl rfl ?_
  refine s_iload_n dL_law_296 rfl rfl ?_
  refine s_iconst (v := nI 1) dL_law_297 (by decide) ?_
  first | refine s_iaddN dL_law_298 ?_ | refine s_iadd dL_law_298 ?_
  refine s_saldN dL_law_299 (by repeat (first | exact up_self | assumption | rw [up_ne (by first | assumption | (intro q0; cases q0; done) | (intro q0; simp at q0; omega))])) (by omega) (by omega) ?_
  refine s_aload_n dL_law_300 rfl rfl ?_
  refine s_iload_n dL_law_301 rfl rfl ?_
  refine s_iconst (v := nI 2) dL_law_302 (by decide) ?_
  first | refine s_iaddN dL_law_303 ?_ | refine s_iadd dL_law_303 ?_
  refine s_saldN dL_law_304 (by repeat (first | exact up_self | assumption | rw [up_ne (by first | assumption | (intro q0; cases q0; done) | (intro q0; simp at q0; omega))])) (by omega) (by omega) ?_
  refine s_callV (As := [_, _]) dL_law_305 cv_L_32 (by repeat (first | exact up_self | assumption | rw [up_ne (by first | assumption | (intro q0; cases q0; done) | (intro q0; simp at q0; omega))])) (p_value (xs (7 * c + 1)) (xs (7 * c + 2)) I) (by first | rfl | exact Nat.ble_eq_true_of_le (by omega)) (Nat.ble_eq_true_of_le (by omega)) (Nat.ble_eq_true_of_le (by omega)) rfl (fun v0 h1 q0 => ?_)
  obtain ⟨x0, σ1, h01, rfl, rfl, hs1, cm⟩ := q0
  refine s_aload_n dL_law_308 rfl rfl ?_
  refine s_aload_n dL_law_309 rfl rfl ?_
  refine s_iload_n dL_law_310 rfl rfl ?_
  refine s_iconst (v := nI 1) dL_law_311 (by decide) ?_
  first | refine s_iaddN dL_law_312 ?_ | refine s_iadd dL_law_312 ?_
  refine s_saldN dL_law_313 (by repeat (first | exact up_self | assumption | rw [up_ne (by first | assumption | (intro q0; cases q0; done) | (intro q0; simp at q0; omega))])) (by omega) (by omega) ?_
  refine s_aload_n dL_law_314 rfl rfl ?_
  refine s_iload_n dL_law_315 rfl rfl ?_
  refine s_iconst (v := nI 2) dL_law_316 (by decide) ?_
  first | refine s_iaddN dL_law_317 ?_ | refine s_iadd dL_law_317 ?_
  refine s_saldN dL_law_318 (by repeat (first | exact up_self | assumption | rw [up_ne (by first | assumption | (intro q0; cases q0; done) | (intro q0; simp at q0; omega))])) (by omega) (by omega) ?_
  refine s_callV (As := [_, _]) dL_law_319 cv_L_35 hM_o (cm) (by first | rfl | exact Nat.ble_eq_true_of_le (by omega)) (Nat.ble_eq_true_of_le (by omega)) (Nat.ble_eq_true_of_le (by omega)) rfl (fun v0 h2 q0 => ?_)
  obtain ⟨rfl, I2⟩ := q0
  refine s_icmp_eq dL_law_322 (fun _ => ?_) (fun q => absurd rfl q)
  exact kk _ _ _ I2 (by omega) (by omega)
theorem w_book {nm : String} {H : Hp} {c L k n : Nat} {xs : Nat → Int32} {fm : Nat → PV} (hL : L ≤ 3584) (hc : c ≤ 600) (hi : 7 * c + 7 ≤ L) (hm : H (10, 0, 0) = some (11, 0, fm)) (hs : H (0, 0, 0) = some (29, L, fun j => vI (xs j))) (I : LI c L xs H) (hk : k ≤ 200 + 124 * c) (hn : n ≤ 8000 + 8924 * c) (kk : ∀ H' k' n', LI (c + 1) L xs H' → k' ≤ 200 + 124 * (c + 1) → n' ≤ 8000 + 8924 * (c + 1) → S (mLx nm) 40 600000 7302250 (fun v _ => v = some (vI 1)) 1197 [some (vR (0, 0, 0)), some (vR (10, 0, 0)), some (vR (100, 0, 0)), some (vI (nI (7 * c)))] [] H' k' n') :
    S (mLx nm) 40 600000 7302250 (fun v _ => v = some (vI 1)) 327 [some (vR (0, 0, 0)), some (vR (10, 0, 0)), some (vR (100, 0, 0)), some (vI (nI (7 * c)))] [] H k n := by
  refine s_aload_n dL_law_327 rfl rfl ?_
  refine s_aload_n dL_law_328 rfl rfl ?_
  refine s_iload_n dL_law_329 rfl rfl ?_
  refine s_iconst (v := nI 1) dL_law_330 (by decide) ?_
  first | refine s_iaddN dL_law_331 ?_ | refine s_iadd dL_law_331 ?_
  refine s_saldN dL_law_332 (by repeat (first | exact up_self | assumption | rw [up_ne (by first | assumption | (intro q0; cases q0; done) | (intro q0; simp at q0; omega))])) (by omega) (by omega) ?_
  refine s_callV (As := [_]) dL_law_333 cv_L_36 (by repeat (first | exact up_self | assumption | rw [up_ne (by first | assumption | (intro q0; cases q0; done) | (intro q0; simp at q0; omega))])) (p_book (xs (7 * c + 1)) hc I) (by first | rfl | exact Nat.ble_eq_true_of_le (by omega)) (Nat.ble_eq_true_of_le (by omega)) (Nat.ble_eq_true_of_le (by omega)) rfl (fun v0 h1 q0 => ?_)
  obtain ⟨x0, σ1, h01, rfl, rfl, hs1, cm⟩ := q0
  refine s_aload_n dL_law_336 rfl rfl ?_
  refine s_aload_n dL_law_337 rfl rfl ?_
  refine s_iload_n dL_law_338 rfl rfl ?_
  refine s_iconst (v := nI 1) dL_law_339 (by decide) ?_
  first | refine s_iaddN dL_law_340 ?_ | refine s_iadd dL_law_340 ?_
  refine s_saldN dL_law_341 (by repeat (first | exact up_self | assumption | rw [up_ne (by first | assumption | (intro q0; cases q0; done) | (intro q0; simp at q0; omega))])) (by omega) (by omega) ?_
  refine s_callV (As := [_]) dL_law_342 cv_L_39 hM_o (cm) (by first | rfl | exact Nat.ble_eq_true_of_le (by omega)) (Nat.ble_eq_true_of_le (by omega)) (Nat.ble_eq_true_of_le (by omega)) rfl (fun v0 h2 q0 => ?_)
  obtain ⟨rfl, I2⟩ := q0
  refine s_icmp_eq dL_law_345 (fun _ => ?_) (fun q => absurd rfl q)
  exact kk _ _ _ I2 (by omega) (by omega)
theorem w_variable {nm : String} {H : Hp} {c L k n : Nat} {xs : Nat → Int32} {fm : Nat → PV} (hL : L ≤ 3584) (hc : c ≤ 600) (hi : 7 * c + 7 ≤ L) (hm : H (10, 0, 0) = some (11, 0, fm)) (hs : H (0, 0, 0) = some (29, L, fun j => vI (xs j))) (I : LI c L xs H) (hk : k ≤ 200 + 124 * c) (hn : n ≤ 8000 + 8924 * c) (kk : ∀ H' k' n', LI (c + 1) L xs H' → k' ≤ 200 + 124 * (c + 1) → n' ≤ 8000 + 8924 * (c + 1) → S (mLx nm) 40 600000 7302250 (fun v _ => v = some (vI 1)) 1197 [some (vR (0, 0, 0)), some (vR (10, 0, 0)), some (vR (100, 0, 0)), some (vI (nI (7 * c)))] [] H' k' n') :
    S (mLx nm) 40 600000 7302250 (fun v _ => v = some (vI 1)) 350 [some (vR (0, 0, 0)), some (vR (10, 0, 0)), some (vR (100, 0, 0)), some (vI (nI (7 * c)))] [] H k n := by
  refine s_aload_n dL_law_350 rfl rfl ?_
  refine s_aload_n dL_law_351 rfl rfl ?_
  refine s_iload_n dL_law_352 rfl rfl ?_
  refine s_iconst (v := nI 1) dL_law_353 (by decide) ?_
  first | refine s_iaddN dL_law_354 ?_ | refine s_iadd dL_law_354 ?_
  refine s_saldN dL_law_355 (by repeat (first | exact up_self | assumption | rw [up_ne (by first | assumption | (intro q0; cases q0; done) | (intro q0; simp at q0; omega))])) (by omega) (by omega) ?_
  refine s_aload_n dL_law_356 rfl rfl ?_
  refine s_iload_n dL_law_357 rfl rfl ?_
  refine s_iconst (v := nI 2) dL_law_358 (by decide) ?_
  first | refine s_iaddN dL_law_359 ?_ | refine s_iadd dL_law_359 ?_
  refine s_saldN dL_law_360 (by repeat (first | exact up_self | assumption | rw [up_ne (by first | assumption | (intro q0; cases q0; done) | (intro q0; simp at q0; omega))])) (by omega) (by omega) ?_
  refine s_aload_n dL_law_361 rfl rfl ?_
  refine s_iload_n dL_law_362 rfl rfl ?_
  refine s_iconst (v := nI 3) dL_law_363 (by decide) ?_
  first | refine s_iaddN dL_law_364 ?_ | refine s_iadd dL_law_364 ?_
  refine s_saldN dL_law_365 (by repeat (first | exact up_self | assumption | rw [up_ne (by first | assumption | (intro q0; cases q0; done) | (intro q0; simp at q0; omega))])) (by omega) (by omega) ?_
  refine s_callV (As := [_, _, _]) dL_law_366 cv_L_40 (by repeat (first | exact up_self | assumption | rw [up_ne (by first | assumption | (intro q0; cases q0; done) | (intro q0; simp at q0; omega))])) (p_variable (xs (7 * c + 1)) (xs (7 * c + 2)) (xs (7 * c + 3)) hc I) (by first | rfl | exact Nat.ble_eq_true_of_le (by omega)) (Nat.ble_eq_true_of_le (by omega)) (Nat.ble_eq_true_of_le (by omega)) rfl (fun v0 h1 q0 => ?_)
  obtain ⟨x0, σ1, h01, rfl, rfl, hs1, cm⟩ := q0
  refine s_aload_n dL_law_369 rfl rfl ?_
  refine s_aload_n dL_law_370 rfl rfl ?_
  refine s_iload_n dL_law_371 rfl rfl ?_
  refine s_iconst (v := nI 1) dL_law_372 (by decide) ?_
  first | refine s_iaddN dL_law_373 ?_ | refine s_iadd dL_law_373 ?_
  refine s_saldN dL_law_374 (by repeat (first | exact up_self | assumption | rw [up_ne (by first | assumption | (intro q0; cases q0; done) | (intro q0; simp at q0; omega))])) (by omega) (by omega) ?_
  refine s_aload_n dL_law_375 rfl rfl ?_
  refine s_iload_n dL_law_376 rfl rfl ?_
  refine s_iconst (v := nI 2) dL_law_377 (by decide) ?_
  first | refine s_iaddN dL_law_378 ?_ | refine s_iadd dL_law_378 ?_
  refine s_saldN dL_law_379 (by repeat (first | exact up_self | assumption | rw [up_ne (by first | assumption | (intro q0; cases q0; done) | (intro q0; simp at q0; omega))])) (by omega) (by omega) ?_
  refine s_aload_n dL_law_380 rfl rfl ?_
  refine s_iload_n dL_law_381 rfl rfl ?_
  refine s_iconst (v := nI 3) dL_law_382 (by decide) ?_
  first | refine s_iaddN dL_law_383 ?_ | refine s_iadd dL_law_383 ?_
  refine s_saldN dL_law_384 (by repeat (first | exact up_self | assumption | rw [up_ne (by first | assumption | (intro q0; cases q0; done) | (intro q0; simp at q0; omega))])) (by omega) (by omega) ?_
  refine s_callV (As := [_, _, _]) dL_law_385 cv_L_43 hM_o (cm) (by first | rfl | exact Nat.ble_eq_true_of_le (by omega)) (Nat.ble_eq_true_of_le (by omega)) (Nat.ble_eq_true_of_le (by omega)) rfl (fun v0 h2 q0 => ?_)
  obtain ⟨rfl, I2⟩ := q0
  refine s_icmp_eq dL_law_388 (fun _ => ?_) (fun q => absurd rfl q)
  exact kk _ _ _ I2 (by omega) (by omega)
theorem w_rule {nm : String} {H : Hp} {c L k n : Nat} {xs : Nat → Int32} {fm : Nat → PV} (hL : L ≤ 3584) (hc : c ≤ 600) (hi : 7 * c + 7 ≤ L) (hm : H (10, 0, 0) = some (11, 0, fm)) (hs : H (0, 0, 0) = some (29, L, fun j => vI (xs j))) (I : LI c L xs H) (hk : k ≤ 200 + 124 * c) (hn : n ≤ 8000 + 8924 * c) (kk : ∀ H' k' n', LI (c + 1) L xs H' → k' ≤ 200 + 124 * (c + 1) → n' ≤ 8000 + 8924 * (c + 1) → S (mLx nm) 40 600000 7302250 (fun v _ => v = some (vI 1)) 1197 [some (vR (0, 0, 0)), some (vR (10, 0, 0)), some (vR (100, 0, 0)), some (vI (nI (7 * c)))] [] H' k' n') :
    S (mLx nm) 40 600000 7302250 (fun v _ => v = some (vI 1)) 393 [some (vR (0, 0, 0)), some (vR (10, 0, 0)), some (vR (100, 0, 0)), some (vI (nI (7 * c)))] [] H k n := by
  refine s_aload_n dL_law_393 rfl rfl ?_
  refine s_aload_n dL_law_394 rfl rfl ?_
  refine s_iload_n dL_law_395 rfl rfl ?_
  refine s_iconst (v := nI 1) dL_law_396 (by decide) ?_
  first | refine s_iaddN dL_law_397 ?_ | refine s_iadd dL_law_397 ?_
  refine s_saldN dL_law_398 (by repeat (first | exact up_self | assumption | rw [up_ne (by first | assumption | (intro q0; cases q0; done) | (intro q0; simp at q0; omega))])) (by omega) (by omega) ?_
  refine s_aload_n dL_law_399 rfl rfl ?_
  refine s_iload_n dL_law_400 rfl rfl ?_
  refine s_iconst (v := nI 2) dL_law_401 (by decide) ?_
  first | refine s_iaddN dL_law_402 ?_ | refine s_iadd dL_law_402 ?_
  refine s_saldN dL_law_403 (by repeat (first | exact up_self | assumption | rw [up_ne (by first | assumption | (intro q0; cases q0; done) | (intro q0; simp at q0; omega))])) (by omega) (by omega) ?_
  refine s_aload_n dL_law_404 rfl rfl ?_
  refine s_iload_n dL_law_405 rfl rfl ?_
  refine s_iconst (v := nI 3) dL_law_406 (by decide) ?_
  first | refine s_iaddN dL_law_407 ?_ | refine s_iadd dL_law_407 ?_
  refine s_saldN dL_law_408 (by repeat (first | exact up_self | assumption | rw [up_ne (by first | assumption | (intro q0; cases q0; done) | (intro q0; simp at q0; omega))])) (by omega) (by omega) ?_
  refine s_callV (As := [_, _, _]) dL_law_409 cv_L_44 (by repeat (first | exact up_self | assumption | rw [up_ne (by first | assumption | (intro q0; cases q0; done) | (intro q0; simp at q0; omega))])) (p_rule (xs (7 * c + 1)) (xs (7 * c + 2)) (xs (7 * c + 3)) hc I) (by first | rfl | exact Nat.ble_eq_true_of_le (by omega)) (Nat.ble_eq_true_of_le (by omega)) (Nat.ble_eq_true_of_le (by omega)) rfl (fun v0 h1 q0 => ?_)
  obtain ⟨x0, σ1, h01, rfl, rfl, hs1, cm⟩ := q0
  refine s_aload_n dL_law_412 rfl rfl ?_
  refine s_aload_n dL_law_413 rfl rfl ?_
  refine s_iload_n dL_law_414 rfl rfl ?_
  refine s_iconst (v := nI 1) dL_law_415 (by decide) ?_
  first | refine s_iaddN dL_law_416 ?_ | refine s_iadd dL_law_416 ?_
  refine s_saldN dL_law_417 (by repeat (first | exact up_self | assumption | rw [up_ne (by first | assumption | (intro q0; cases q0; done) | (intro q0; simp at q0; omega))])) (by omega) (by omega) ?_
  refine s_aload_n dL_law_418 rfl rfl ?_
  refine s_iload_n dL_law_419 rfl rfl ?_
  refine s_iconst (v := nI 2) dL_law_420 (by decide) ?_
  first | refine s_iaddN dL_law_421 ?_ | refine s_iadd dL_law_421 ?_
  refine s_saldN dL_law_422 (by repeat (first | exact up_self | assumption | rw [up_ne (by first | assumption | (intro q0; cases q0; done) | (intro q0; simp at q0; omega))])) (by omega) (by omega) ?_
  refine s_aload_n dL_law_423 rfl rfl ?_
  refine s_iload_n dL_law_424 rfl rfl ?_
  refine s_iconst (v := nI 3) dL_law_425 (by decide) ?_
  first | refine s_iaddN dL_law_426 ?_ | refine s_iadd dL_law_426 ?_
  refine s_saldN dL_law_427 (by repeat (first | exact up_self | assumption | rw [up_ne (by first | assumption | (intro q0; cases q0; done) | (intro q0; simp at q0; omega))])) (by omega) (by omega) ?_
  refine s_callV (As := [_, _, _]) dL_law_428 cv_L_47 hM_o (cm) (by first | rfl | exact Nat.ble_eq_true_of_le (by omega)) (Nat.ble_eq_true_of_le (by omega)) (Nat.ble_eq_true_of_le (by omega)) rfl (fun v0 h2 q0 => ?_)
  obtain ⟨rfl, I2⟩ := q0
  refine s_icmp_eq dL_law_431 (fun _ => ?_) (fun q => absurd rfl q)
  exact kk _ _ _ I2 (by omega) (by omega)
theorem w_condition {nm : String} {H : Hp} {c L k n : Nat} {xs : Nat → Int32} {fm : Nat → PV} (hL : L ≤ 3584) (hc : c ≤ 600) (hi : 7 * c + 7 ≤ L) (hm : H (10, 0, 0) = some (11, 0, fm)) (hs : H (0, 0, 0) = some (29, L, fun j => vI (xs j))) (I : LI c L xs H) (hk : k ≤ 200 + 124 * c) (hn : n ≤ 8000 + 8924 * c) (kk : ∀ H' k' n', LI (c + 1) L xs H' → k' ≤ 200 + 124 * (c + 1) → n' ≤ 8000 + 8924 * (c + 1) → S (mLx nm) 40 600000 7302250 (fun v _ => v = some (vI 1)) 1197 [some (vR (0, 0, 0)), some (vR (10, 0, 0)), some (vR (100, 0, 0)), some (vI (nI (7 * c)))] [] H' k' n') :
    S (mLx nm) 40 600000 7302250 (fun v _ => v = some (vI 1)) 436 [some (vR (0, 0, 0)), some (vR (10, 0, 0)), some (vR (100, 0, 0)), some (vI (nI (7 * c)))] [] H k n := by
  refine s_aload_n dL_law_436 rfl rfl ?_
  refine s_aload_n dL_law_437 rfl rfl ?_
  refine s_iload_n dL_law_438 rfl rfl ?_
  refine s_iconst (v := nI 1) dL_law_439 (by decide) ?_
  first | refine s_iaddN dL_law_440 ?_ | refine s_iadd dL_law_440 ?_
  refine s_saldN dL_law_441 (by repeat (first | exact up_self | assumption | rw [up_ne (by first | assumption | (intro q0; cases q0; done) | (intro q0; simp at q0; omega))])) (by omega) (by omega) ?_
  refine s_aload_n dL_law_442 rfl rfl ?_
  refine s_iload_n dL_law_443 rfl rfl ?_
  refine s_iconst (v := nI 2) dL_law_444 (by decide) ?_
  first | refine s_iaddN dL_law_445 ?_ | refine s_iadd dL_law_445 ?_
  refine s_saldN dL_law_446 (by repeat (first | exact up_self | assumption | rw [up_ne (by first | assumption | (intro q0; cases q0; done) | (intro q0; simp at q0; omega))])) (by omega) (by omega) ?_
  refine s_aload_n dL_law_447 rfl rfl ?_
  refine s_iload_n dL_law_448 rfl rfl ?_
  refine s_iconst (v := nI 3) dL_law_449 (by decide) ?_
  first | refine s_iaddN dL_law_450 ?_ | refine s_iadd dL_law_450 ?_
  refine s_saldN dL_law_451 (by repeat (first | exact up_self | assumption | rw [up_ne (by first | assumption | (intro q0; cases q0; done) | (intro q0; simp at q0; omega))])) (by omega) (by omega) ?_
  refine s_aload_n dL_law_452 rfl rfl ?_
  refine s_iload_n dL_law_453 rfl rfl ?_
  refine s_iconst (v := nI 4) dL_law_454 (by decide) ?_
  first | refine s_iaddN dL_law_455 ?_ | refine s_iadd dL_law_455 ?_
  refine s_saldN dL_law_456 (by repeat (first | exact up_self | assumption | rw [up_ne (by first | assumption | (intro q0; cases q0; done) | (intro q0; simp at q0; omega))])) (by omega) (by omega) ?_
  refine s_callV (As := [_, _, _, _]) dL_law_457 cv_L_48 (by repeat (first | exact up_self | assumption | rw [up_ne (by first | assumption | (intro q0; cases q0; done) | (intro q0; simp at q0; omega))])) (p_condition (xs (7 * c + 1)) (xs (7 * c + 2)) (xs (7 * c + 3)) (xs (7 * c + 4)) hc I) (by first | rfl | exact Nat.ble_eq_true_of_le (by omega)) (Nat.ble_eq_true_of_le (by omega)) (Nat.ble_eq_true_of_le (by omega)) rfl (fun v0 h1 q0 => ?_)
  obtain ⟨x0, σ1, h01, rfl, rfl, hs1, cm⟩ := q0
  refine s_aload_n dL_law_460 rfl rfl ?_
  refine s_aload_n dL_law_461 rfl rfl ?_
  refine s_iload_n dL_law_462 rfl rfl ?_
  refine s_iconst (v := nI 1) dL_law_463 (by decide) ?_
  first | refine s_iaddN dL_law_464 ?_ | refine s_iadd dL_law_464 ?_
  refine s_saldN dL_law_465 (by repeat (first | exact up_self | assumption | rw [up_ne (by first | assumption | (intro q0; cases q0; done) | (intro q0; simp at q0; omega))])) (by omega) (by omega) ?_
  refine s_aload_n dL_law_466 rfl rfl ?_
  refine s_iload_n dL_law_467 rfl rfl ?_
  refine s_iconst (v := nI 2) dL_law_468 (by decide) ?_
  first | refine s_iaddN dL_law_469 ?_ | refine s_iadd dL_law_469 ?_
  refine s_saldN dL_law_470 (by repeat (first | exact up_self | assumption | rw [up_ne (by first | assumption | (intro q0; cases q0; done) | (intro q0; simp at q0; omega))])) (by omega) (by omega) ?_
  refine s_aload_n dL_law_471 rfl rfl ?_
  refine s_iload_n dL_law_472 rfl rfl ?_
  refine s_iconst (v := nI 3) dL_law_473 (by decide) ?_
  first | refine s_iaddN dL_law_474 ?_ | refine s_iadd dL_law_474 ?_
  refine s_saldN dL_law_475 (by repeat (first | exact up_self | assumption | rw [up_ne (by first | assumption | (intro q0; cases q0; done) | (intro q0; simp at q0; omega))])) (by omega) (by omega) ?_
  refine s_aload_n dL_law_476 rfl rfl ?_
  refine s_iload_n dL_law_477 rfl rfl ?_
  refine s_iconst (v := nI 4) dL_law_478 (by decide) ?_
  first | refine s_iaddN dL_law_479 ?_ | refine s_iadd dL_law_479 ?_
  refine s_saldN dL_law_480 (by repeat (first | exact up_self | assumption | rw [up_ne (by first | assumption | (intro q0; cases q0; done) | (intro q0; simp at q0; omega))])) (by omega) (by omega) ?_
  refine s_callV (As := [_, _, _, _]) dL_law_481 cv_L_52 hM_o (cm) (by first | rfl | exact Nat.ble_eq_true_of_le (by omega)) (Nat.ble_eq_true_of_le (by omega)) (Nat.ble_eq_true_of_le (by omega)) rfl (fun v0 h2 q0 => ?_)
  obtain ⟨rfl, I2⟩ := q0
  refine s_icmp_eq dL_law_484 (fun _ => ?_) (fun q => absurd rfl q)
  exact kk _ _ _ I2 (by omega) (by omega)
theorem w_does {nm : String} {H : Hp} {c L k n : Nat} {xs : Nat → Int32} {fm : Nat → PV} (hL : L ≤ 3584) (hc : c ≤ 600) (hi : 7 * c + 7 ≤ L) (hm : H (10, 0, 0) = some (11, 0, fm)) (hs : H (0, 0, 0) = some (29, L, fun j => vI (xs j))) (I : LI c L xs H) (hk : k ≤ 200 + 124 * c) (hn : n ≤ 8000 + 8924 * c) (kk : ∀ H' k' n', LI (c + 1) L xs H' → k' ≤ 200 + 124 * (c + 1) → n' ≤ 8000 + 8924 * (c + 1) → S (mLx nm) 40 600000 7302250 (fun v _ => v = some (vI 1)) 1197 [some (vR (0, 0, 0)), some (vR (10, 0, 0)), some (vR (100, 0, 0)), some (vI (nI (7 * c)))] [] H' k' n') :
    S (mLx nm) 40 600000 7302250 (fun v _ => v = some (vI 1)) 489 [some (vR (0, 0, 0)), some (vR (10, 0, 0)), some (vR (100, 0, 0)), some (vI (nI (7 * c)))] [] H k n := by
  refine s_aload_n dL_law_489 rfl rfl ?_
  refine s_aload_n dL_law_490 rfl rfl ?_
  refine s_iload_n dL_law_491 rfl rfl ?_
  refine s_iconst (v := nI 1) dL_law_492 (by decide) ?_
  first | refine s_iaddN dL_law_493 ?_ | refine s_iadd dL_law_493 ?_
  refine s_saldN dL_law_494 (by repeat (first | exact up_self | assumption | rw [up_ne (by first | assumption | (intro q0; cases q0; done) | (intro q0; simp at q0; omega))])) (by omega) (by omega) ?_
  refine s_aload_n dL_law_495 rfl rfl ?_
  refine s_iload_n dL_law_496 rfl rfl ?_
  refine s_iconst (v := nI 2) dL_law_497 (by decide) ?_
  first | refine s_iaddN dL_law_498 ?_ | refine s_iadd dL_law_498 ?_
  refine s_saldN dL_law_499 (by repeat (first | exact up_self | assumption | rw [up_ne (by first | assumption | (intro q0; cases q0; done) | (intro q0; simp at q0; omega))])) (by omega) (by omega) ?_
  refine s_aload_n dL_law_500 rfl rfl ?_
  refine s_iload_n dL_law_501 rfl rfl ?_
  refine s_iconst (v := nI 3) dL_law_502 (by decide) ?_
  first | refine s_iaddN dL_law_503 ?_ | refine s_iadd dL_law_503 ?_
  refine s_saldN dL_law_504 (by repeat (first | exact up_self | assumption | rw [up_ne (by first | assumption | (intro q0; cases q0; done) | (intro q0; simp at q0; omega))])) (by omega) (by omega) ?_
  refine s_aload_n dL_law_505 rfl rfl ?_
  refine s_iload_n dL_law_506 rfl rfl ?_
  refine s_iconst (v := nI 4) dL_law_507 (by decide) ?_
  first | refine s_iaddN dL_law_508 ?_ | refine s_iadd dL_law_508 ?_
  refine s_saldN dL_law_509 (by repeat (first | exact up_self | assumption | rw [up_ne (by first | assumption | (intro q0; cases q0; done) | (intro q0; simp at q0; omega))])) (by omega) (by omega) ?_
  refine s_callV (As := [_, _, _, _]) dL_law_510 cv_L_53 (by repeat (first | exact up_self | assumption | rw [up_ne (by first | assumption | (intro q0; cases q0; done) | (intro q0; simp at q0; omega))])) (p_does (xs (7 * c + 1)) (xs (7 * c + 2)) (xs (7 * c + 3)) (xs (7 * c + 4)) hc I) (by first | rfl | exact Nat.ble_eq_true_of_le (by omega)) (Nat.ble_eq_true_of_le (by omega)) (Nat.ble_eq_true_of_le (by omega)) rfl (fun v0 h1 q0 => ?_)
  obtain ⟨x0, σ1, h01, rfl, rfl, hs1, cm⟩ := q0
  refine s_aload_n dL_law_513 rfl rfl ?_
  refine s_aload_n dL_law_514 rfl rfl ?_
  refine s_iload_n dL_law_515 rfl rfl ?_
  refine s_iconst (v := nI 1) dL_law_516 (by decide) ?_
  first | refine s_iaddN dL_law_517 ?_ | refine s_iadd dL_law_517 ?_
  refine s_saldN dL_law_518 (by repeat (first | exact up_self | assumption | rw [up_ne (by first | assumption | (intro q0; cases q0; done) | (intro q0; simp at q0; omega))])) (by omega) (by omega) ?_
  refine s_aload_n dL_law_519 rfl rfl ?_
  refine s_iload_n dL_law_520 rfl rfl ?_
  refine s_iconst (v := nI 2) dL_law_521 (by decide) ?_
  first | refine s_iaddN dL_law_522 ?_ | refine s_iadd dL_law_522 ?_
  refine s_saldN dL_law_523 (by repeat (first | exact up_self | assumption | rw [up_ne (by first | assumption | (intro q0; cases q0; done) | (intro q0; simp at q0; omega))])) (by omega) (by omega) ?_
  refine s_aload_n dL_law_524 rfl rfl ?_
  refine s_iload_n dL_law_525 rfl rfl ?_
  refine s_iconst (v := nI 3) dL_law_526 (by decide) ?_
  first | refine s_iaddN dL_law_527 ?_ | refine s_iadd dL_law_527 ?_
  refine s_saldN dL_law_528 (by repeat (first | exact up_self | assumption | rw [up_ne (by first | assumption | (intro q0; cases q0; done) | (intro q0; simp at q0; omega))])) (by omega) (by omega) ?_
  refine s_aload_n dL_law_529 rfl rfl ?_
  refine s_iload_n dL_law_530 rfl rfl ?_
  refine s_iconst (v := nI 4) dL_law_531 (by decide) ?_
  first | refine s_iaddN dL_law_532 ?_ | refine s_iadd dL_law_532 ?_
  refine s_saldN dL_law_533 (by repeat (first | exact up_self | assumption | rw [up_ne (by first | assumption | (intro q0; cases q0; done) | (intro q0; simp at q0; omega))])) (by omega) (by omega) ?_
  refine s_callV (As := [_, _, _, _]) dL_law_534 cv_L_56 hM_o (cm) (by first | rfl | exact Nat.ble_eq_true_of_le (by omega)) (Nat.ble_eq_true_of_le (by omega)) (Nat.ble_eq_true_of_le (by omega)) rfl (fun v0 h2 q0 => ?_)
  obtain ⟨rfl, I2⟩ := q0
  refine s_icmp_eq dL_law_537 (fun _ => ?_) (fun q => absurd rfl q)
  exact kk _ _ _ I2 (by omega) (by omega)
theorem w_order {nm : String} {H : Hp} {c L k n : Nat} {xs : Nat → Int32} {fm : Nat → PV} (hL : L ≤ 3584) (hc : c ≤ 600) (hi : 7 * c + 7 ≤ L) (hm : H (10, 0, 0) = some (11, 0, fm)) (hs : H (0, 0, 0) = some (29, L, fun j => vI (xs j))) (I : LI c L xs H) (hk : k ≤ 200 + 124 * c) (hn : n ≤ 8000 + 8924 * c) (kk : ∀ H' k' n', LI (c + 1) L xs H' → k' ≤ 200 + 124 * (c + 1) → n' ≤ 8000 + 8924 * (c + 1) → S (mLx nm) 40 600000 7302250 (fun v _ => v = some (vI 1)) 1197 [some (vR (0, 0, 0)), some (vR (10, 0, 0)), some (vR (100, 0, 0)), some (vI (nI (7 * c)))] [] H' k' n') :
    S (mLx nm) 40 600000 7302250 (fun v _ => v = some (vI 1)) 542 [some (vR (0, 0, 0)), some (vR (10, 0, 0)), some (vR (100, 0, 0)), some (vI (nI (7 * c)))] [] H k n := by
  refine s_aload_n dL_law_542 rfl rfl ?_
  refine s_aload_n dL_law_543 rfl rfl ?_
  refine s_iload_n dL_law_544 rfl rfl ?_
  refine s_iconst (v := nI 1) dL_law_545 (by decide) ?_
  first | refine s_iaddN dL_law_546 ?_ | refine s_iadd dL_law_546 ?_
  refine s_saldN dL_law_547 (by repeat (first | exact up_self | assumption | rw [up_ne (by first | assumption | (intro q0; cases q0; done) | (intro q0; simp at q0; omega))])) (by omega) (by omega) ?_
  refine s_aload_n dL_law_548 rfl rfl ?_
  refine s_iload_n dL_law_549 rfl rfl ?_
  refine s_iconst (v := nI 2) dL_law_550 (by decide) ?_
  first | refine s_iaddN dL_law_551 ?_ | refine s_iadd dL_law_551 ?_
  refine s_saldN dL_law_552 (by repeat (first | exact up_self | assumption | rw [up_ne (by first | assumption | (intro q0; cases q0; done) | (intro q0; simp at q0; omega))])) (by omega) (by omega) ?_
  refine s_aload_n dL_law_553 rfl rfl ?_
  refine s_iload_n dL_law_554 rfl rfl ?_
  refine s_iconst (v := nI 3) dL_law_555 (by decide) ?_
  first | refine s_iaddN dL_law_556 ?_ | refine s_iadd dL_law_556 ?_
  refine s_saldN dL_law_557 (by repeat (first | exact up_self | assumption | rw [up_ne (by first | assumption | (intro q0; cases q0; done) | (intro q0; simp at q0; omega))])) (by omega) (by omega) ?_
  refine s_callV (As := [_, _, _]) dL_law_558 cv_L_57 (by repeat (first | exact up_self | assumption | rw [up_ne (by first | assumption | (intro q0; cases q0; done) | (intro q0; simp at q0; omega))])) (p_order (xs (7 * c + 1)) (xs (7 * c + 2)) (xs (7 * c + 3)) hc I) (by first | rfl | exact Nat.ble_eq_true_of_le (by omega)) (Nat.ble_eq_true_of_le (by omega)) (Nat.ble_eq_true_of_le (by omega)) rfl (fun v0 h1 q0 => ?_)
  obtain ⟨x0, σ1, h01, rfl, rfl, hs1, cm⟩ := q0
  refine s_aload_n dL_law_561 rfl rfl ?_
  refine s_aload_n dL_law_562 rfl rfl ?_
  refine s_iload_n dL_law_563 rfl rfl ?_
  refine s_iconst (v := nI 1) dL_law_564 (by decide) ?_
  first | refine s_iaddN dL_law_565 ?_ | refine s_iadd dL_law_565 ?_
  refine s_saldN dL_law_566 (by repeat (first | exact up_self | assumption | rw [up_ne (by first | assumption | (intro q0; cases q0; done) | (intro q0; simp at q0; omega))])) (by omega) (by omega) ?_
  refine s_aload_n dL_law_567 rfl rfl ?_
  refine s_iload_n dL_law_568 rfl rfl ?_
  refine s_iconst (v := nI 2) dL_law_569 (by decide) ?_
  first | refine s_iaddN dL_law_570 ?_ | refine s_iadd dL_law_570 ?_
  refine s_saldN dL_law_571 (by repeat (first | exact up_self | assumption | rw [up_ne (by first | assumption | (intro q0; cases q0; done) | (intro q0; simp at q0; omega))])) (by omega) (by omega) ?_
  refine s_aload_n dL_law_572 rfl rfl ?_
  refine s_iload_n dL_law_573 rfl rfl ?_
  refine s_iconst (v := nI 3) dL_law_574 (by decide) ?_
  first | refine s_iaddN dL_law_575 ?_ | refine s_iadd dL_law_575 ?_
  refine s_saldN dL_law_576 (by repeat (first | exact up_self | assumption | rw [up_ne (by first | assumption | (intro q0; cases q0; done) | (intro q0; simp at q0; omega))])) (by omega) (by omega) ?_
  refine s_callV (As := [_, _, _]) dL_law_577 cv_L_60 hM_o (cm) (by first | rfl | exact Nat.ble_eq_true_of_le (by omega)) (Nat.ble_eq_true_of_le (by omega)) (Nat.ble_eq_true_of_le (by omega)) rfl (fun v0 h2 q0 => ?_)
  obtain ⟨rfl, I2⟩ := q0
  refine s_icmp_eq dL_law_580 (fun _ => ?_) (fun q => absurd rfl q)
  exact kk _ _ _ I2 (by omega) (by omega)
theorem w_row {nm : String} {H : Hp} {c L k n : Nat} {xs : Nat → Int32} {fm : Nat → PV} (hL : L ≤ 3584) (hc : c ≤ 600) (hi : 7 * c + 7 ≤ L) (hm : H (10, 0, 0) = some (11, 0, fm)) (hs : H (0, 0, 0) = some (29, L, fun j => vI (xs j))) (I : LI c L xs H) (hk : k ≤ 200 + 124 * c) (hn : n ≤ 8000 + 8924 * c) (kk : ∀ H' k' n', LI (c + 1) L xs H' → k' ≤ 200 + 124 * (c + 1) → n' ≤ 8000 + 8924 * (c + 1) → S (mLx nm) 40 600000 7302250 (fun v _ => v = some (vI 1)) 1197 [some (vR (0, 0, 0)), some (vR (10, 0, 0)), some (vR (100, 0, 0)), some (vI (nI (7 * c)))] [] H' k' n') :
    S (mLx nm) 40 600000 7302250 (fun v _ => v = some (vI 1)) 585 [some (vR (0, 0, 0)), some (vR (10, 0, 0)), some (vR (100, 0, 0)), some (vI (nI (7 * c)))] [] H k n := by
  refine s_aload_n dL_law_585 rfl rfl ?_
  refine s_aload_n dL_law_586 rfl rfl ?_
  refine s_iload_n dL_law_587 rfl rfl ?_
  refine s_iconst (v := nI 1) dL_law_588 (by decide) ?_
  first | refine s_iaddN dL_law_589 ?_ | refine s_iadd dL_law_589 ?_
  refine s_saldN dL_law_590 (by repeat (first | exact up_self | assumption | rw [up_ne (by first | assumption | (intro q0; cases q0; done) | (intro q0; simp at q0; omega))])) (by omega) (by omega) ?_
  refine s_aload_n dL_law_591 rfl rfl ?_
  refine s_iload_n dL_law_592 rfl rfl ?_
  refine s_iconst (v := nI 2) dL_law_593 (by decide) ?_
  first | refine s_iaddN dL_law_594 ?_ | refine s_iadd dL_law_594 ?_
  refine s_saldN dL_law_595 (by repeat (first | exact up_self | assumption | rw [up_ne (by first | assumption | (intro q0; cases q0; done) | (intro q0; simp at q0; omega))])) (by omega) (by omega) ?_
  refine s_callV (As := [_, _]) dL_law_596 cv_L_61 (by repeat (first | exact up_self | assumption | rw [up_ne (by first | assumption | (intro q0; cases q0; done) | (intro q0; simp at q0; omega))])) (p_row (xs (7 * c + 1)) (xs (7 * c + 2)) I) (by first | rfl | exact Nat.ble_eq_true_of_le (by omega)) (Nat.ble_eq_true_of_le (by omega)) (Nat.ble_eq_true_of_le (by omega)) rfl (fun v0 h1 q0 => ?_)
  obtain ⟨x0, σ1, h01, rfl, rfl, hs1, cm⟩ := q0
  refine s_aload_n dL_law_599 rfl rfl ?_
  refine s_aload_n dL_law_600 rfl rfl ?_
  refine s_iload_n dL_law_601 rfl rfl ?_
  refine s_iconst (v := nI 1) dL_law_602 (by decide) ?_
  first | refine s_iaddN dL_law_603 ?_ | refine s_iadd dL_law_603 ?_
  refine s_saldN dL_law_604 (by repeat (first | exact up_self | assumption | rw [up_ne (by first | assumption | (intro q0; cases q0; done) | (intro q0; simp at q0; omega))])) (by omega) (by omega) ?_
  refine s_aload_n dL_law_605 rfl rfl ?_
  refine s_iload_n dL_law_606 rfl rfl ?_
  refine s_iconst (v := nI 2) dL_law_607 (by decide) ?_
  first | refine s_iaddN dL_law_608 ?_ | refine s_iadd dL_law_608 ?_
  refine s_saldN dL_law_609 (by repeat (first | exact up_self | assumption | rw [up_ne (by first | assumption | (intro q0; cases q0; done) | (intro q0; simp at q0; omega))])) (by omega) (by omega) ?_
  refine s_callV (As := [_, _]) dL_law_610 cv_L_64 hM_o (cm) (by first | rfl | exact Nat.ble_eq_true_of_le (by omega)) (Nat.ble_eq_true_of_le (by omega)) (Nat.ble_eq_true_of_le (by omega)) rfl (fun v0 h2 q0 => ?_)
  obtain ⟨rfl, I2⟩ := q0
  refine s_icmp_eq dL_law_613 (fun _ => ?_) (fun q => absurd rfl q)
  exact kk _ _ _ I2 (by omega) (by omega)
theorem w_run {nm : String} {H : Hp} {c L k n : Nat} {xs : Nat → Int32} {fm : Nat → PV} (hL : L ≤ 3584) (hc : c ≤ 600) (hi : 7 * c + 7 ≤ L) (hm : H (10, 0, 0) = some (11, 0, fm)) (hs : H (0, 0, 0) = some (29, L, fun j => vI (xs j))) (I : LI c L xs H) (hk : k ≤ 200 + 124 * c) (hn : n ≤ 8000 + 8924 * c) (kk : ∀ H' k' n', LI (c + 1) L xs H' → k' ≤ 200 + 124 * (c + 1) → n' ≤ 8000 + 8924 * (c + 1) → S (mLx nm) 40 600000 7302250 (fun v _ => v = some (vI 1)) 1197 [some (vR (0, 0, 0)), some (vR (10, 0, 0)), some (vR (100, 0, 0)), some (vI (nI (7 * c)))] [] H' k' n') :
    S (mLx nm) 40 600000 7302250 (fun v _ => v = some (vI 1)) 618 [some (vR (0, 0, 0)), some (vR (10, 0, 0)), some (vR (100, 0, 0)), some (vI (nI (7 * c)))] [] H k n := by
  refine s_aload_n dL_law_618 rfl rfl ?_
  refine s_aload_n dL_law_619 rfl rfl ?_
  refine s_iload_n dL_law_620 rfl rfl ?_
  refine s_iconst (v := nI 1) dL_law_621 (by decide) ?_
  first | refine s_iaddN dL_law_622 ?_ | refine s_iadd dL_law_622 ?_
  refine s_saldN dL_law_623 (by repeat (first | exact up_self | assumption | rw [up_ne (by first | assumption | (intro q0; cases q0; done) | (intro q0; simp at q0; omega))])) (by omega) (by omega) ?_
  refine s_aload_n dL_law_624 rfl rfl ?_
  refine s_iload_n dL_law_625 rfl rfl ?_
  refine s_iconst (v := nI 2) dL_law_626 (by decide) ?_
  first | refine s_iaddN dL_law_627 ?_ | refine s_iadd dL_law_627 ?_
  refine s_saldN dL_law_628 (by repeat (first | exact up_self | assumption | rw [up_ne (by first | assumption | (intro q0; cases q0; done) | (intro q0; simp at q0; omega))])) (by omega) (by omega) ?_
  refine s_callV (As := [_, _]) dL_law_629 cv_L_65 (by repeat (first | exact up_self | assumption | rw [up_ne (by first | assumption | (intro q0; cases q0; done) | (intro q0; simp at q0; omega))])) (p_run (xs (7 * c + 1)) (xs (7 * c + 2)) I) (by first | rfl | exact Nat.ble_eq_true_of_le (by omega)) (Nat.ble_eq_true_of_le (by omega)) (Nat.ble_eq_true_of_le (by omega)) rfl (fun v0 h1 q0 => ?_)
  obtain ⟨x0, σ1, h01, rfl, rfl, hs1, cm⟩ := q0
  refine s_aload_n dL_law_632 rfl rfl ?_
  refine s_aload_n dL_law_633 rfl rfl ?_
  refine s_iload_n dL_law_634 rfl rfl ?_
  refine s_iconst (v := nI 1) dL_law_635 (by decide) ?_
  first | refine s_iaddN dL_law_636 ?_ | refine s_iadd dL_law_636 ?_
  refine s_saldN dL_law_637 (by repeat (first | exact up_self | assumption | rw [up_ne (by first | assumption | (intro q0; cases q0; done) | (intro q0; simp at q0; omega))])) (by omega) (by omega) ?_
  refine s_aload_n dL_law_638 rfl rfl ?_
  refine s_iload_n dL_law_639 rfl rfl ?_
  refine s_iconst (v := nI 2) dL_law_640 (by decide) ?_
  first | refine s_iaddN dL_law_641 ?_ | refine s_iadd dL_law_641 ?_
  refine s_saldN dL_law_642 (by repeat (first | exact up_self | assumption | rw [up_ne (by first | assumption | (intro q0; cases q0; done) | (intro q0; simp at q0; omega))])) (by omega) (by omega) ?_
  refine s_callV (As := [_, _]) dL_law_643 cv_L_68 hM_o (cm) (by first | rfl | exact Nat.ble_eq_true_of_le (by omega)) (Nat.ble_eq_true_of_le (by omega)) (Nat.ble_eq_true_of_le (by omega)) rfl (fun v0 h2 q0 => ?_)
  obtain ⟨rfl, I2⟩ := q0
  refine s_icmp_eq dL_law_646 (fun _ => ?_) (fun q => absurd rfl q)
  exact kk _ _ _ I2 (by omega) (by omega)
theorem w_trace {nm : String} {H : Hp} {c L k n : Nat} {xs : Nat → Int32} {fm : Nat → PV} (hL : L ≤ 3584) (hc : c ≤ 600) (hi : 7 * c + 7 ≤ L) (hm : H (10, 0, 0) = some (11, 0, fm)) (hs : H (0, 0, 0) = some (29, L, fun j => vI (xs j))) (I : LI c L xs H) (hk : k ≤ 200 + 124 * c) (hn : n ≤ 8000 + 8924 * c) (kk : ∀ H' k' n', LI (c + 1) L xs H' → k' ≤ 200 + 124 * (c + 1) → n' ≤ 8000 + 8924 * (c + 1) → S (mLx nm) 40 600000 7302250 (fun v _ => v = some (vI 1)) 1197 [some (vR (0, 0, 0)), some (vR (10, 0, 0)), some (vR (100, 0, 0)), some (vI (nI (7 * c)))] [] H' k' n') :
    S (mLx nm) 40 600000 7302250 (fun v _ => v = some (vI 1)) 651 [some (vR (0, 0, 0)), some (vR (10, 0, 0)), some (vR (100, 0, 0)), some (vI (nI (7 * c)))] [] H k n := by
  refine s_aload_n dL_law_651 rfl rfl ?_
  refine s_aload_n dL_law_652 rfl rfl ?_
  refine s_iload_n dL_law_653 rfl rfl ?_
  refine s_iconst (v := nI 1) dL_law_654 (by decide) ?_
  first | refine s_iaddN dL_law_655 ?_ | refine s_iadd dL_law_655 ?_
  refine s_saldN dL_law_656 (by repeat (first | exact up_self | assumption | rw [up_ne (by first | assumption | (intro q0; cases q0; done) | (intro q0; simp at q0; omega))])) (by omega) (by omega) ?_
  refine s_aload_n dL_law_657 rfl rfl ?_
  refine s_iload_n dL_law_658 rfl rfl ?_
  refine s_iconst (v := nI 2) dL_law_659 (by decide) ?_
  first | refine s_iaddN dL_law_660 ?_ | refine s_iadd dL_law_660 ?_
  refine s_saldN dL_law_661 (by repeat (first | exact up_self | assumption | rw [up_ne (by first | assumption | (intro q0; cases q0; done) | (intro q0; simp at q0; omega))])) (by omega) (by omega) ?_
  refine s_callV (As := [_, _]) dL_law_662 cv_L_69 (by repeat (first | exact up_self | assumption | rw [up_ne (by first | assumption | (intro q0; cases q0; done) | (intro q0; simp at q0; omega))])) (p_trace (xs (7 * c + 1)) (xs (7 * c + 2)) I) (by first | rfl | exact Nat.ble_eq_true_of_le (by omega)) (Nat.ble_eq_true_of_le (by omega)) (Nat.ble_eq_true_of_le (by omega)) rfl (fun v0 h1 q0 => ?_)
  obtain ⟨x0, σ1, h01, rfl, rfl, hs1, cm⟩ := q0
  refine s_aload_n dL_law_665 rfl rfl ?_
  refine s_aload_n dL_law_666 rfl rfl ?_
  refine s_iload_n dL_law_667 rfl rfl ?_
  refine s_iconst (v := nI 1) dL_law_668 (by decide) ?_
  first | refine s_iaddN dL_law_669 ?_ | refine s_iadd dL_law_669 ?_
  refine s_saldN dL_law_670 (by repeat (first | exact up_self | assumption | rw [up_ne (by first | assumption | (intro q0; cases q0; done) | (intro q0; simp at q0; omega))])) (by omega) (by omega) ?_
  refine s_aload_n dL_law_671 rfl rfl ?_
  refine s_iload_n dL_law_672 rfl rfl ?_
  refine s_iconst (v := nI 2) dL_law_673 (by decide) ?_
  first | refine s_iaddN dL_law_674 ?_ | refine s_iadd dL_law_674 ?_
  refine s_saldN dL_law_675 (by repeat (first | exact up_self | assumption | rw [up_ne (by first | assumption | (intro q0; cases q0; done) | (intro q0; simp at q0; omega))])) (by omega) (by omega) ?_
  refine s_callV (As := [_, _]) dL_law_676 cv_L_72 hM_o (cm) (by first | rfl | exact Nat.ble_eq_true_of_le (by omega)) (Nat.ble_eq_true_of_le (by omega)) (Nat.ble_eq_true_of_le (by omega)) rfl (fun v0 h2 q0 => ?_)
  obtain ⟨rfl, I2⟩ := q0
  refine s_icmp_eq dL_law_679 (fun _ => ?_) (fun q => absurd rfl q)
  exact kk _ _ _ I2 (by omega) (by omega)
theorem w_erred {nm : String} {H : Hp} {c L k n : Nat} {xs : Nat → Int32} {fm : Nat → PV} (hL : L ≤ 3584) (hc : c ≤ 600) (hi : 7 * c + 7 ≤ L) (hm : H (10, 0, 0) = some (11, 0, fm)) (hs : H (0, 0, 0) = some (29, L, fun j => vI (xs j))) (I : LI c L xs H) (hk : k ≤ 200 + 124 * c) (hn : n ≤ 8000 + 8924 * c) (kk : ∀ H' k' n', LI (c + 1) L xs H' → k' ≤ 200 + 124 * (c + 1) → n' ≤ 8000 + 8924 * (c + 1) → S (mLx nm) 40 600000 7302250 (fun v _ => v = some (vI 1)) 1197 [some (vR (0, 0, 0)), some (vR (10, 0, 0)), some (vR (100, 0, 0)), some (vI (nI (7 * c)))] [] H' k' n') :
    S (mLx nm) 40 600000 7302250 (fun v _ => v = some (vI 1)) 684 [some (vR (0, 0, 0)), some (vR (10, 0, 0)), some (vR (100, 0, 0)), some (vI (nI (7 * c)))] [] H k n := by
  refine s_aload_n dL_law_684 rfl rfl ?_
  refine s_callV (As := []) dL_law_685 cv_L_73 (by repeat (first | exact up_self | assumption | rw [up_ne (by first | assumption | (intro q0; cases q0; done) | (intro q0; simp at q0; omega))])) (p_erred  I) (by first | rfl | exact Nat.ble_eq_true_of_le (by omega)) (Nat.ble_eq_true_of_le (by omega)) (Nat.ble_eq_true_of_le (by omega)) rfl (fun v0 h1 q0 => ?_)
  obtain ⟨x0, σ1, h01, rfl, rfl, hs1, cm⟩ := q0
  refine s_aload_n dL_law_688 rfl rfl ?_
  refine s_callV (As := []) dL_law_689 cv_L_77 hM_o (cm) (by first | rfl | exact Nat.ble_eq_true_of_le (by omega)) (Nat.ble_eq_true_of_le (by omega)) (Nat.ble_eq_true_of_le (by omega)) rfl (fun v0 h2 q0 => ?_)
  obtain ⟨rfl, I2⟩ := q0
  refine s_icmp_eq dL_law_692 (fun _ => ?_) (fun q => absurd rfl q)
  exact kk _ _ _ I2 (by omega) (by omega)
theorem w_action {nm : String} {H : Hp} {c L k n : Nat} {xs : Nat → Int32} {fm : Nat → PV} (hL : L ≤ 3584) (hc : c ≤ 600) (hi : 7 * c + 7 ≤ L) (hm : H (10, 0, 0) = some (11, 0, fm)) (hs : H (0, 0, 0) = some (29, L, fun j => vI (xs j))) (I : LI c L xs H) (hk : k ≤ 200 + 124 * c) (hn : n ≤ 8000 + 8924 * c) (kk : ∀ H' k' n', LI (c + 1) L xs H' → k' ≤ 200 + 124 * (c + 1) → n' ≤ 8000 + 8924 * (c + 1) → S (mLx nm) 40 600000 7302250 (fun v _ => v = some (vI 1)) 1197 [some (vR (0, 0, 0)), some (vR (10, 0, 0)), some (vR (100, 0, 0)), some (vI (nI (7 * c)))] [] H' k' n') :
    S (mLx nm) 40 600000 7302250 (fun v _ => v = some (vI 1)) 697 [some (vR (0, 0, 0)), some (vR (10, 0, 0)), some (vR (100, 0, 0)), some (vI (nI (7 * c)))] [] H k n := by
  refine s_aload_n dL_law_697 rfl rfl ?_
  refine s_aload_n dL_law_698 rfl rfl ?_
  refine s_iload_n dL_law_699 rfl rfl ?_
  refine s_iconst (v := nI 1) dL_law_700 (by decide) ?_
  first | refine s_iaddN dL_law_701 ?_ | refine s_iadd dL_law_701 ?_
  refine s_saldN dL_law_702 (by repeat (first | exact up_self | assumption | rw [up_ne (by first | assumption | (intro q0; cases q0; done) | (intro q0; simp at q0; omega))])) (by omega) (by omega) ?_
  refine s_aload_n dL_law_703 rfl rfl ?_
  refine s_iload_n dL_law_704 rfl rfl ?_
  refine s_iconst (v := nI 2) dL_law_705 (by decide) ?_
  first | refine s_iaddN dL_law_706 ?_ | refine s_iadd dL_law_706 ?_
  refine s_saldN dL_law_707 (by repeat (first | exact up_self | assumption | rw [up_ne (by first | assumption | (intro q0; cases q0; done) | (intro q0; simp at q0; omega))])) (by omega) (by omega) ?_
  refine s_aload_n dL_law_708 rfl rfl ?_
  refine s_iload_n dL_law_709 rfl rfl ?_
  refine s_iconst (v := nI 3) dL_law_710 (by decide) ?_
  first | refine s_iaddN dL_law_711 ?_ | refine s_iadd dL_law_711 ?_
  refine s_saldN dL_law_712 (by repeat (first | exact up_self | assumption | rw [up_ne (by first | assumption | (intro q0; cases q0; done) | (intro q0; simp at q0; omega))])) (by omega) (by omega) ?_
  refine s_aload_n dL_law_713 rfl rfl ?_
  refine s_iload_n dL_law_714 rfl rfl ?_
  refine s_iconst (v := nI 4) dL_law_715 (by decide) ?_
  first | refine s_iaddN dL_law_716 ?_ | refine s_iadd dL_law_716 ?_
  refine s_saldN dL_law_717 (by repeat (first | exact up_self | assumption | rw [up_ne (by first | assumption | (intro q0; cases q0; done) | (intro q0; simp at q0; omega))])) (by omega) (by omega) ?_
  refine s_aload_n dL_law_718 rfl rfl ?_
  refine s_iload_n dL_law_719 rfl rfl ?_
  refine s_iconst (v := nI 5) dL_law_720 (by decide) ?_
  first | refine s_iaddN dL_law_721 ?_ | refine s_iadd dL_law_721 ?_
  refine s_saldN dL_law_722 (by repeat (first | exact up_self | assumption | rw [up_ne (by first | assumption | (intro q0; cases q0; done) | (intro q0; simp at q0; omega))])) (by omega) (by omega) ?_
  refine s_aload_n dL_law_723 rfl rfl ?_
  refine s_iload_n dL_law_724 rfl rfl ?_
  refine s_bipush (v := nI 6) dL_law_725 (by decide) ?_
  first | refine s_iaddN dL_law_727 ?_ | refine s_iadd dL_law_727 ?_
  refine s_saldN dL_law_728 (by repeat (first | exact up_self | assumption | rw [up_ne (by first | assumption | (intro q0; cases q0; done) | (intro q0; simp at q0; omega))])) (by omega) (by omega) ?_
  refine s_callV (As := [_, _, _, _, _, _]) dL_law_729 cv_L_78 (by repeat (first | exact up_self | assumption | rw [up_ne (by first | assumption | (intro q0; cases q0; done) | (intro q0; simp at q0; omega))])) (p_action (xs (7 * c + 1)) (xs (7 * c + 2)) (xs (7 * c + 3)) (xs (7 * c + 4)) (xs (7 * c + 5)) (xs (7 * c + 6)) hc I) (by first | rfl | exact Nat.ble_eq_true_of_le (by omega)) (Nat.ble_eq_true_of_le (by omega)) (Nat.ble_eq_true_of_le (by omega)) rfl (fun v0 h1 q0 => ?_)
  obtain ⟨x0, σ1, h01, rfl, rfl, hs1, cm⟩ := q0
  refine s_aload_n dL_law_732 rfl rfl ?_
  refine s_aload_n dL_law_733 rfl rfl ?_
  refine s_iload_n dL_law_734 rfl rfl ?_
  refine s_iconst (v := nI 1) dL_law_735 (by decide) ?_
  first | refine s_iaddN dL_law_736 ?_ | refine s_iadd dL_law_736 ?_
  refine s_saldN dL_law_737 (by repeat (first | exact up_self | assumption | rw [up_ne (by first | assumption | (intro q0; cases q0; done) | (intro q0; simp at q0; omega))])) (by omega) (by omega) ?_
  refine s_aload_n dL_law_738 rfl rfl ?_
  refine s_iload_n dL_law_739 rfl rfl ?_
  refine s_iconst (v := nI 2) dL_law_740 (by decide) ?_
  first | refine s_iaddN dL_law_741 ?_ | refine s_iadd dL_law_741 ?_
  refine s_saldN dL_law_742 (by repeat (first | exact up_self | assumption | rw [up_ne (by first | assumption | (intro q0; cases q0; done) | (intro q0; simp at q0; omega))])) (by omega) (by omega) ?_
  refine s_aload_n dL_law_743 rfl rfl ?_
  refine s_iload_n dL_law_744 rfl rfl ?_
  refine s_iconst (v := nI 3) dL_law_745 (by decide) ?_
  first | refine s_iaddN dL_law_746 ?_ | refine s_iadd dL_law_746 ?_
  refine s_saldN dL_law_747 (by repeat (first | exact up_self | assumption | rw [up_ne (by first | assumption | (intro q0; cases q0; done) | (intro q0; simp at q0; omega))])) (by omega) (by omega) ?_
  refine s_aload_n dL_law_748 rfl rfl ?_
  refine s_iload_n dL_law_749 rfl rfl ?_
  refine s_iconst (v := nI 4) dL_law_750 (by decide) ?_
  first | refine s_iaddN dL_law_751 ?_ | refine s_iadd dL_law_751 ?_
  refine s_saldN dL_law_752 (by repeat (first | exact up_self | assumption | rw [up_ne (by first | assumption | (intro q0; cases q0; done) | (intro q0; simp at q0; omega))])) (by omega) (by omega) ?_
  refine s_aload_n dL_law_753 rfl rfl ?_
  refine s_iload_n dL_law_754 rfl rfl ?_
  refine s_iconst (v := nI 5) dL_law_755 (by decide) ?_
  first | refine s_iaddN dL_law_756 ?_ | refine s_iadd dL_law_756 ?_
  refine s_saldN dL_law_757 (by repeat (first | exact up_self | assumption | rw [up_ne (by first | assumption | (intro q0; cases q0; done) | (intro q0; simp at q0; omega))])) (by omega) (by omega) ?_
  refine s_aload_n dL_law_758 rfl rfl ?_
  refine s_iload_n dL_law_759 rfl rfl ?_
  refine s_bipush (v := nI 6) dL_law_760 (by decide) ?_
  first | refine s_iaddN dL_law_762 ?_ | refine s_iadd dL_law_762 ?_
  refine s_saldN dL_law_763 (by repeat (first | exact up_self | assumption | rw [up_ne (by first | assumption | (intro q0; cases q0; done) | (intro q0; simp at q0; omega))])) (by omega) (by omega) ?_
  refine s_callV (As := [_, _, _, _, _, _]) dL_law_764 cv_L_82 hM_o (cm) (by first | rfl | exact Nat.ble_eq_true_of_le (by omega)) (Nat.ble_eq_true_of_le (by omega)) (Nat.ble_eq_true_of_le (by omega)) rfl (fun v0 h2 q0 => ?_)
  obtain ⟨rfl, I2⟩ := q0
  refine s_icmp_eq dL_law_767 (fun _ => ?_) (fun q => absurd rfl q)
  exact kk _ _ _ I2 (by omega) (by omega)
theorem w_act {nm : String} {H : Hp} {c L k n : Nat} {xs : Nat → Int32} {fm : Nat → PV} (hL : L ≤ 3584) (hc : c ≤ 600) (hi : 7 * c + 7 ≤ L) (hm : H (10, 0, 0) = some (11, 0, fm)) (hs : H (0, 0, 0) = some (29, L, fun j => vI (xs j))) (I : LI c L xs H) (hk : k ≤ 200 + 124 * c) (hn : n ≤ 8000 + 8924 * c) (kk : ∀ H' k' n', LI (c + 1) L xs H' → k' ≤ 200 + 124 * (c + 1) → n' ≤ 8000 + 8924 * (c + 1) → S (mLx nm) 40 600000 7302250 (fun v _ => v = some (vI 1)) 1197 [some (vR (0, 0, 0)), some (vR (10, 0, 0)), some (vR (100, 0, 0)), some (vI (nI (7 * c)))] [] H' k' n') :
    S (mLx nm) 40 600000 7302250 (fun v _ => v = some (vI 1)) 772 [some (vR (0, 0, 0)), some (vR (10, 0, 0)), some (vR (100, 0, 0)), some (vI (nI (7 * c)))] [] H k n := by
  refine s_aload_n dL_law_772 rfl rfl ?_
  refine s_aload_n dL_law_773 rfl rfl ?_
  refine s_iload_n dL_law_774 rfl rfl ?_
  refine s_iconst (v := nI 1) dL_law_775 (by decide) ?_
  first | refine s_iaddN dL_law_776 ?_ | refine s_iadd dL_law_776 ?_
  refine s_saldN dL_law_777 (by repeat (first | exact up_self | assumption | rw [up_ne (by first | assumption | (intro q0; cases q0; done) | (intro q0; simp at q0; omega))])) (by omega) (by omega) ?_
  refine s_aload_n dL_law_778 rfl rfl ?_
  refine s_iload_n dL_law_779 rfl rfl ?_
  refine s_iconst (v := nI 2) dL_law_780 (by decide) ?_
  first | refine s_iaddN dL_law_781 ?_ | refine s_iadd dL_law_781 ?_
  refine s_saldN dL_law_782 (by repeat (first | exact up_self | assumption | rw [up_ne (by first | assumption | (intro q0; cases q0; done) | (intro q0; simp at q0; omega))])) (by omega) (by omega) ?_
  refine s_callV (As := [_, _]) dL_law_783 cv_L_83 (by repeat (first | exact up_self | assumption | rw [up_ne (by first | assumption | (intro q0; cases q0; done) | (intro q0; simp at q0; omega))])) (p_act (xs (7 * c + 1)) (xs (7 * c + 2)) I) (by first | rfl | exact Nat.ble_eq_true_of_le (by omega)) (Nat.ble_eq_true_of_le (by omega)) (Nat.ble_eq_true_of_le (by omega)) rfl (fun v0 h1 q0 => ?_)
  obtain ⟨x0, σ1, h01, rfl, rfl, hs1, cm⟩ := q0
  refine s_aload_n dL_law_786 rfl rfl ?_
  refine s_aload_n dL_law_787 rfl rfl ?_
  refine s_iload_n dL_law_788 rfl rfl ?_
  refine s_iconst (v := nI 1) dL_law_789 (by decide) ?_
  first | refine s_iaddN dL_law_790 ?_ | refine s_iadd dL_law_790 ?_
  refine s_saldN dL_law_791 (by repeat (first | exact up_self | assumption | rw [up_ne (by first | assumption | (intro q0; cases q0; done) | (intro q0; simp at q0; omega))])) (by omega) (by omega) ?_
  refine s_aload_n dL_law_792 rfl rfl ?_
  refine s_iload_n dL_law_793 rfl rfl ?_
  refine s_iconst (v := nI 2) dL_law_794 (by decide) ?_
  first | refine s_iaddN dL_law_795 ?_ | refine s_iadd dL_law_795 ?_
  refine s_saldN dL_law_796 (by repeat (first | exact up_self | assumption | rw [up_ne (by first | assumption | (intro q0; cases q0; done) | (intro q0; simp at q0; omega))])) (by omega) (by omega) ?_
  refine s_callV (As := [_, _]) dL_law_797 cv_L_86 hM_o (cm) (by first | rfl | exact Nat.ble_eq_true_of_le (by omega)) (Nat.ble_eq_true_of_le (by omega)) (Nat.ble_eq_true_of_le (by omega)) rfl (fun v0 h2 q0 => ?_)
  obtain ⟨rfl, I2⟩ := q0
  refine s_icmp_eq dL_law_800 (fun _ => ?_) (fun q => absurd rfl q)
  exact kk _ _ _ I2 (by omega) (by omega)
theorem w_activity {nm : String} {H : Hp} {c L k n : Nat} {xs : Nat → Int32} {fm : Nat → PV} (hL : L ≤ 3584) (hc : c ≤ 600) (hi : 7 * c + 7 ≤ L) (hm : H (10, 0, 0) = some (11, 0, fm)) (hs : H (0, 0, 0) = some (29, L, fun j => vI (xs j))) (I : LI c L xs H) (hk : k ≤ 200 + 124 * c) (hn : n ≤ 8000 + 8924 * c) (kk : ∀ H' k' n', LI (c + 1) L xs H' → k' ≤ 200 + 124 * (c + 1) → n' ≤ 8000 + 8924 * (c + 1) → S (mLx nm) 40 600000 7302250 (fun v _ => v = some (vI 1)) 1197 [some (vR (0, 0, 0)), some (vR (10, 0, 0)), some (vR (100, 0, 0)), some (vI (nI (7 * c)))] [] H' k' n') :
    S (mLx nm) 40 600000 7302250 (fun v _ => v = some (vI 1)) 805 [some (vR (0, 0, 0)), some (vR (10, 0, 0)), some (vR (100, 0, 0)), some (vI (nI (7 * c)))] [] H k n := by
  refine s_aload_n dL_law_805 rfl rfl ?_
  refine s_aload_n dL_law_806 rfl rfl ?_
  refine s_iload_n dL_law_807 rfl rfl ?_
  refine s_iconst (v := nI 1) dL_law_808 (by decide) ?_
  first | refine s_iaddN dL_law_809 ?_ | refine s_iadd dL_law_809 ?_
  refine s_saldN dL_law_810 (by repeat (first | exact up_self | assumption | rw [up_ne (by first | assumption | (intro q0; cases q0; done) | (intro q0; simp at q0; omega))])) (by omega) (by omega) ?_
  refine s_aload_n dL_law_811 rfl rfl ?_
  refine s_iload_n dL_law_812 rfl rfl ?_
  refine s_iconst (v := nI 2) dL_law_813 (by decide) ?_
  first | refine s_iaddN dL_law_814 ?_ | refine s_iadd dL_law_814 ?_
  refine s_saldN dL_law_815 (by repeat (first | exact up_self | assumption | rw [up_ne (by first | assumption | (intro q0; cases q0; done) | (intro q0; simp at q0; omega))])) (by omega) (by omega) ?_
  refine s_aload_n dL_law_816 rfl rfl ?_
  refine s_iload_n dL_law_817 rfl rfl ?_
  refine s_iconst (v := nI 3) dL_law_818 (by decide) ?_
  first | refine s_iaddN dL_law_819 ?_ | refine s_iadd dL_law_819 ?_
  refine s_saldN dL_law_820 (by repeat (first | exact up_self | assumption | rw [up_ne (by first | assumption | (intro q0; cases q0; done) | (intro q0; simp at q0; omega))])) (by omega) (by omega) ?_
  refine s_callV (As := [_, _, _]) dL_law_821 cv_L_87 (by repeat (first | exact up_self | assumption | rw [up_ne (by first | assumption | (intro q0; cases q0; done) | (intro q0; simp at q0; omega))])) (p_activity (xs (7 * c + 1)) (xs (7 * c + 2)) (xs (7 * c + 3)) hc I) (by first | rfl | exact Nat.ble_eq_true_of_le (by omega)) (Nat.ble_eq_true_of_le (by omega)) (Nat.ble_eq_true_of_le (by omega)) rfl (fun v0 h1 q0 => ?_)
  obtain ⟨x0, σ1, h01, rfl, rfl, hs1, cm⟩ := q0
  refine s_aload_n dL_law_824 rfl rfl ?_
  refine s_aload_n dL_law_825 rfl rfl ?_
  refine s_iload_n dL_law_826 rfl rfl ?_
  refine s_iconst (v := nI 1) dL_law_827 (by decide) ?_
  first | refine s_iaddN dL_law_828 ?_ | refine s_iadd dL_law_828 ?_
  refine s_saldN dL_law_829 (by repeat (first | exact up_self | assumption | rw [up_ne (by first | assumption | (intro q0; cases q0; done) | (intro q0; simp at q0; omega))])) (by omega) (by omega) ?_
  refine s_aload_n dL_law_830 rfl rfl ?_
  refine s_iload_n dL_law_831 rfl rfl ?_
  refine s_iconst (v := nI 2) dL_law_832 (by decide) ?_
  first | refine s_iaddN dL_law_833 ?_ | refine s_iadd dL_law_833 ?_
  refine s_saldN dL_law_834 (by repeat (first | exact up_self | assumption | rw [up_ne (by first | assumption | (intro q0; cases q0; done) | (intro q0; simp at q0; omega))])) (by omega) (by omega) ?_
  refine s_aload_n dL_law_835 rfl rfl ?_
  refine s_iload_n dL_law_836 rfl rfl ?_
  refine s_iconst (v := nI 3) dL_law_837 (by decide) ?_
  first | refine s_iaddN dL_law_838 ?_ | refine s_iadd dL_law_838 ?_
  refine s_saldN dL_law_839 (by repeat (first | exact up_self | assumption | rw [up_ne (by first | assumption | (intro q0; cases q0; done) | (intro q0; simp at q0; omega))])) (by omega) (by omega) ?_
  refine s_callV (As := [_, _, _]) dL_law_840 cv_L_90 hM_o (cm) (by first | rfl | exact Nat.ble_eq_true_of_le (by omega)) (Nat.ble_eq_true_of_le (by omega)) (Nat.ble_eq_true_of_le (by omega)) rfl (fun v0 h2 q0 => ?_)
  obtain ⟨rfl, I2⟩ := q0
  refine s_icmp_eq dL_law_843 (fun _ => ?_) (fun q => absurd rfl q)
  exact kk _ _ _ I2 (by omega) (by omega)
theorem w_begin {nm : String} {H : Hp} {c L k n : Nat} {xs : Nat → Int32} {fm : Nat → PV} (hL : L ≤ 3584) (hc : c ≤ 600) (hi : 7 * c + 7 ≤ L) (hm : H (10, 0, 0) = some (11, 0, fm)) (hs : H (0, 0, 0) = some (29, L, fun j => vI (xs j))) (I : LI c L xs H) (hk : k ≤ 200 + 124 * c) (hn : n ≤ 8000 + 8924 * c) (kk : ∀ H' k' n', LI (c + 1) L xs H' → k' ≤ 200 + 124 * (c + 1) → n' ≤ 8000 + 8924 * (c + 1) → S (mLx nm) 40 600000 7302250 (fun v _ => v = some (vI 1)) 1197 [some (vR (0, 0, 0)), some (vR (10, 0, 0)), some (vR (100, 0, 0)), some (vI (nI (7 * c)))] [] H' k' n') :
    S (mLx nm) 40 600000 7302250 (fun v _ => v = some (vI 1)) 848 [some (vR (0, 0, 0)), some (vR (10, 0, 0)), some (vR (100, 0, 0)), some (vI (nI (7 * c)))] [] H k n := by
  refine s_aload_n dL_law_848 rfl rfl ?_
  refine s_aload_n dL_law_849 rfl rfl ?_
  refine s_iload_n dL_law_850 rfl rfl ?_
  refine s_iconst (v := nI 1) dL_law_851 (by decide) ?_
  first | refine s_iaddN dL_law_852 ?_ | refine s_iadd dL_law_852 ?_
  refine s_saldN dL_law_853 (by repeat (first | exact up_self | assumption | rw [up_ne (by first | assumption | (intro q0; cases q0; done) | (intro q0; simp at q0; omega))])) (by omega) (by omega) ?_
  refine s_aload_n dL_law_854 rfl rfl ?_
  refine s_iload_n dL_law_855 rfl rfl ?_
  refine s_iconst (v := nI 2) dL_law_856 (by decide) ?_
  first | refine s_iaddN dL_law_857 ?_ | refine s_iadd dL_law_857 ?_
  refine s_saldN dL_law_858 (by repeat (first | exact up_self | assumption | rw [up_ne (by first | assumption | (intro q0; cases q0; done) | (intro q0; simp at q0; omega))])) (by omega) (by omega) ?_
  refine s_callV (As := [_, _]) dL_law_859 cv_L_91 (by repeat (first | exact up_self | assumption | rw [up_ne (by first | assumption | (intro q0; cases q0; done) | (intro q0; simp at q0; omega))])) (p_begin (xs (7 * c + 1)) (xs (7 * c + 2)) I) (by first | rfl | exact Nat.ble_eq_true_of_le (by omega)) (Nat.ble_eq_true_of_le (by omega)) (Nat.ble_eq_true_of_le (by omega)) rfl (fun v0 h1 q0 => ?_)
  obtain ⟨x0, σ1, h01, rfl, rfl, hs1, cm⟩ := q0
  refine s_aload_n dL_law_862 rfl rfl ?_
  refine s_aload_n dL_law_863 rfl rfl ?_
  refine s_iload_n dL_law_864 rfl rfl ?_
  refine s_iconst (v := nI 1) dL_law_865 (by decide) ?_
  first | refine s_iaddN dL_law_866 ?_ | refine s_iadd dL_law_866 ?_
  refine s_saldN dL_law_867 (by repeat (first | exact up_self | assumption | rw [up_ne (by first | assumption | (intro q0; cases q0; done) | (intro q0; simp at q0; omega))])) (by omega) (by omega) ?_
  refine s_aload_n dL_law_868 rfl rfl ?_
  refine s_iload_n dL_law_869 rfl rfl ?_
  refine s_iconst (v := nI 2) dL_law_870 (by decide) ?_
  first | refine s_iaddN dL_law_871 ?_ | refine s_iadd dL_law_871 ?_
  refine s_saldN dL_law_872 (by repeat (first | exact up_self | assumption | rw [up_ne (by first | assumption | (intro q0; cases q0; done) | (intro q0; simp at q0; omega))])) (by omega) (by omega) ?_
  refine s_callV (As := [_, _]) dL_law_873 cv_L_94 hM_o (cm) (by first | rfl | exact Nat.ble_eq_true_of_le (by omega)) (Nat.ble_eq_true_of_le (by omega)) (Nat.ble_eq_true_of_le (by omega)) rfl (fun v0 h2 q0 => ?_)
  obtain ⟨rfl, I2⟩ := q0
  refine s_icmp_eq dL_law_876 (fun _ => ?_) (fun q => absurd rfl q)
  exact kk _ _ _ I2 (by omega) (by omega)
theorem w_middle {nm : String} {H : Hp} {c L k n : Nat} {xs : Nat → Int32} {fm : Nat → PV} (hL : L ≤ 3584) (hc : c ≤ 600) (hi : 7 * c + 7 ≤ L) (hm : H (10, 0, 0) = some (11, 0, fm)) (hs : H (0, 0, 0) = some (29, L, fun j => vI (xs j))) (I : LI c L xs H) (hk : k ≤ 200 + 124 * c) (hn : n ≤ 8000 + 8924 * c) (kk : ∀ H' k' n', LI (c + 1) L xs H' → k' ≤ 200 + 124 * (c + 1) → n' ≤ 8000 + 8924 * (c + 1) → S (mLx nm) 40 600000 7302250 (fun v _ => v = some (vI 1)) 1197 [some (vR (0, 0, 0)), some (vR (10, 0, 0)), some (vR (100, 0, 0)), some (vI (nI (7 * c)))] [] H' k' n') :
    S (mLx nm) 40 600000 7302250 (fun v _ => v = some (vI 1)) 881 [some (vR (0, 0, 0)), some (vR (10, 0, 0)), some (vR (100, 0, 0)), some (vI (nI (7 * c)))] [] H k n := by
  refine s_aload_n dL_law_881 rfl rfl ?_
  refine s_callV (As := []) dL_law_882 cv_L_95 (by repeat (first | exact up_self | assumption | rw [up_ne (by first | assumption | (intro q0; cases q0; done) | (intro q0; simp at q0; omega))])) (p_middle  I) (by first | rfl | exact Nat.ble_eq_true_of_le (by omega)) (Nat.ble_eq_true_of_le (by omega)) (Nat.ble_eq_true_of_le (by omega)) rfl (fun v0 h1 q0 => ?_)
  obtain ⟨x0, σ1, h01, rfl, rfl, hs1, cm⟩ := q0
  refine s_aload_n dL_law_885 rfl rfl ?_
  refine s_callV (As := []) dL_law_886 cv_L_98 hM_o (cm) (by first | rfl | exact Nat.ble_eq_true_of_le (by omega)) (Nat.ble_eq_true_of_le (by omega)) (Nat.ble_eq_true_of_le (by omega)) rfl (fun v0 h2 q0 => ?_)
  obtain ⟨rfl, I2⟩ := q0
  refine s_icmp_eq dL_law_889 (fun _ => ?_) (fun q => absurd rfl q)
  exact kk _ _ _ I2 (by omega) (by omega)
theorem w_finish {nm : String} {H : Hp} {c L k n : Nat} {xs : Nat → Int32} {fm : Nat → PV} (hL : L ≤ 3584) (hc : c ≤ 600) (hi : 7 * c + 7 ≤ L) (hm : H (10, 0, 0) = some (11, 0, fm)) (hs : H (0, 0, 0) = some (29, L, fun j => vI (xs j))) (I : LI c L xs H) (hk : k ≤ 200 + 124 * c) (hn : n ≤ 8000 + 8924 * c) (kk : ∀ H' k' n', LI (c + 1) L xs H' → k' ≤ 200 + 124 * (c + 1) → n' ≤ 8000 + 8924 * (c + 1) → S (mLx nm) 40 600000 7302250 (fun v _ => v = some (vI 1)) 1197 [some (vR (0, 0, 0)), some (vR (10, 0, 0)), some (vR (100, 0, 0)), some (vI (nI (7 * c)))] [] H' k' n') :
    S (mLx nm) 40 600000 7302250 (fun v _ => v = some (vI 1)) 894 [some (vR (0, 0, 0)), some (vR (10, 0, 0)), some (vR (100, 0, 0)), some (vI (nI (7 * c)))] [] H k n := by
  refine s_aload_n dL_law_894 rfl rfl ?_
  refine s_callV (As := []) dL_law_895 cv_L_99 (by repeat (first | exact up_self | assumption | rw [up_ne (by first | assumption | (intro q0; cases q0; done) | (intro q0; simp at q0; omega))])) (p_finish  I) (by first | rfl | exact Nat.ble_eq_true_of_le (by omega)) (Nat.ble_eq_true_of_le (by omega)) (Nat.ble_eq_true_of_le (by omega)) rfl (fun v0 h1 q0 => ?_)
  obtain ⟨x0, σ1, h01, rfl, rfl, hs1, cm⟩ := q0
  refine s_aload_n dL_law_898 rfl rfl ?_
  refine s_callV (As := []) dL_law_899 cv_L_102 hM_o (cm) (by first | rfl | exact Nat.ble_eq_true_of_le (by omega)) (Nat.ble_eq_true_of_le (by omega)) (Nat.ble_eq_true_of_le (by omega)) rfl (fun v0 h2 q0 => ?_)
  obtain ⟨rfl, I2⟩ := q0
  refine s_icmp_eq dL_law_902 (fun _ => ?_) (fun q => absurd rfl q)
  exact kk _ _ _ I2 (by omega) (by omega)
theorem w_abandon {nm : String} {H : Hp} {c L k n : Nat} {xs : Nat → Int32} {fm : Nat → PV} (hL : L ≤ 3584) (hc : c ≤ 600) (hi : 7 * c + 7 ≤ L) (hm : H (10, 0, 0) = some (11, 0, fm)) (hs : H (0, 0, 0) = some (29, L, fun j => vI (xs j))) (I : LI c L xs H) (hk : k ≤ 200 + 124 * c) (hn : n ≤ 8000 + 8924 * c) (kk : ∀ H' k' n', LI (c + 1) L xs H' → k' ≤ 200 + 124 * (c + 1) → n' ≤ 8000 + 8924 * (c + 1) → S (mLx nm) 40 600000 7302250 (fun v _ => v = some (vI 1)) 1197 [some (vR (0, 0, 0)), some (vR (10, 0, 0)), some (vR (100, 0, 0)), some (vI (nI (7 * c)))] [] H' k' n') :
    S (mLx nm) 40 600000 7302250 (fun v _ => v = some (vI 1)) 907 [some (vR (0, 0, 0)), some (vR (10, 0, 0)), some (vR (100, 0, 0)), some (vI (nI (7 * c)))] [] H k n := by
  refine s_aload_n dL_law_907 rfl rfl ?_
  refine s_callV (As := []) dL_law_908 cv_L_103 (by repeat (first | exact up_self | assumption | rw [up_ne (by first | assumption | (intro q0; cases q0; done) | (intro q0; simp at q0; omega))])) (p_abandon  hc I) (by first | rfl | exact Nat.ble_eq_true_of_le (by omega)) (Nat.ble_eq_true_of_le (by omega)) (Nat.ble_eq_true_of_le (by omega)) rfl (fun v0 h1 q0 => ?_)
  obtain ⟨x0, σ1, h01, rfl, rfl, hs1, cm⟩ := q0
  refine s_aload_n dL_law_911 rfl rfl ?_
  refine s_callV (As := []) dL_law_912 cv_L_106 hM_o (cm) (by first | rfl | exact Nat.ble_eq_true_of_le (by omega)) (Nat.ble_eq_true_of_le (by omega)) (Nat.ble_eq_true_of_le (by omega)) rfl (fun v0 h2 q0 => ?_)
  obtain ⟨rfl, I2⟩ := q0
  refine s_icmp_eq dL_law_915 (fun _ => ?_) (fun q => absurd rfl q)
  exact kk _ _ _ I2 (by omega) (by omega)
theorem w_scene {nm : String} {H : Hp} {c L k n : Nat} {xs : Nat → Int32} {fm : Nat → PV} (hL : L ≤ 3584) (hc : c ≤ 600) (hi : 7 * c + 7 ≤ L) (hm : H (10, 0, 0) = some (11, 0, fm)) (hs : H (0, 0, 0) = some (29, L, fun j => vI (xs j))) (I : LI c L xs H) (hk : k ≤ 200 + 124 * c) (hn : n ≤ 8000 + 8924 * c) (kk : ∀ H' k' n', LI (c + 1) L xs H' → k' ≤ 200 + 124 * (c + 1) → n' ≤ 8000 + 8924 * (c + 1) → S (mLx nm) 40 600000 7302250 (fun v _ => v = some (vI 1)) 1197 [some (vR (0, 0, 0)), some (vR (10, 0, 0)), some (vR (100, 0, 0)), some (vI (nI (7 * c)))] [] H' k' n') :
    S (mLx nm) 40 600000 7302250 (fun v _ => v = some (vI 1)) 920 [some (vR (0, 0, 0)), some (vR (10, 0, 0)), some (vR (100, 0, 0)), some (vI (nI (7 * c)))] [] H k n := by
  refine s_aload_n dL_law_920 rfl rfl ?_
  refine s_aload_n dL_law_921 rfl rfl ?_
  refine s_iload_n dL_law_922 rfl rfl ?_
  refine s_iconst (v := nI 1) dL_law_923 (by decide) ?_
  first | refine s_iaddN dL_law_924 ?_ | refine s_iadd dL_law_924 ?_
  refine s_saldN dL_law_925 (by repeat (first | exact up_self | assumption | rw [up_ne (by first | assumption | (intro q0; cases q0; done) | (intro q0; simp at q0; omega))])) (by omega) (by omega) ?_
  refine s_callV (As := [_]) dL_law_926 cv_L_107 (by repeat (first | exact up_self | assumption | rw [up_ne (by first | assumption | (intro q0; cases q0; done) | (intro q0; simp at q0; omega))])) (p_scene (xs (7 * c + 1)) hc I) (by first | rfl | exact Nat.ble_eq_true_of_le (by omega)) (Nat.ble_eq_true_of_le (by omega)) (Nat.ble_eq_true_of_le (by omega)) rfl (fun v0 h1 q0 => ?_)
  obtain ⟨x0, σ1, h01, rfl, rfl, hs1, cm⟩ := q0
  refine s_aload_n dL_law_929 rfl rfl ?_
  refine s_aload_n dL_law_930 rfl rfl ?_
  refine s_iload_n dL_law_931 rfl rfl ?_
  refine s_iconst (v := nI 1) dL_law_932 (by decide) ?_
  first | refine s_iaddN dL_law_933 ?_ | refine s_iadd dL_law_933 ?_
  refine s_saldN dL_law_934 (by repeat (first | exact up_self | assumption | rw [up_ne (by first | assumption | (intro q0; cases q0; done) | (intro q0; simp at q0; omega))])) (by omega) (by omega) ?_
  refine s_callV (As := [_]) dL_law_935 cv_L_110 hM_o (cm) (by first | rfl | exact Nat.ble_eq_true_of_le (by omega)) (Nat.ble_eq_true_of_le (by omega)) (Nat.ble_eq_true_of_le (by omega)) rfl (fun v0 h2 q0 => ?_)
  obtain ⟨rfl, I2⟩ := q0
  refine s_icmp_eq dL_law_938 (fun _ => ?_) (fun q => absurd rfl q)
  exact kk _ _ _ I2 (by omega) (by omega)
theorem w_anchor {nm : String} {H : Hp} {c L k n : Nat} {xs : Nat → Int32} {fm : Nat → PV} (hL : L ≤ 3584) (hc : c ≤ 600) (hi : 7 * c + 7 ≤ L) (hm : H (10, 0, 0) = some (11, 0, fm)) (hs : H (0, 0, 0) = some (29, L, fun j => vI (xs j))) (I : LI c L xs H) (hk : k ≤ 200 + 124 * c) (hn : n ≤ 8000 + 8924 * c) (kk : ∀ H' k' n', LI (c + 1) L xs H' → k' ≤ 200 + 124 * (c + 1) → n' ≤ 8000 + 8924 * (c + 1) → S (mLx nm) 40 600000 7302250 (fun v _ => v = some (vI 1)) 1197 [some (vR (0, 0, 0)), some (vR (10, 0, 0)), some (vR (100, 0, 0)), some (vI (nI (7 * c)))] [] H' k' n') :
    S (mLx nm) 40 600000 7302250 (fun v _ => v = some (vI 1)) 943 [some (vR (0, 0, 0)), some (vR (10, 0, 0)), some (vR (100, 0, 0)), some (vI (nI (7 * c)))] [] H k n := by
  refine s_aload_n dL_law_943 rfl rfl ?_
  refine s_aload_n dL_law_944 rfl rfl ?_
  refine s_iload_n dL_law_945 rfl rfl ?_
  refine s_iconst (v := nI 1) dL_law_946 (by decide) ?_
  first | refine s_iaddN dL_law_947 ?_ | refine s_iadd dL_law_947 ?_
  refine s_saldN dL_law_948 (by repeat (first | exact up_self | assumption | rw [up_ne (by first | assumption | (intro q0; cases q0; done) | (intro q0; simp at q0; omega))])) (by omega) (by omega) ?_
  refine s_aload_n dL_law_949 rfl rfl ?_
  refine s_iload_n dL_law_950 rfl rfl ?_
  refine s_iconst (v := nI 2) dL_law_951 (by decide) ?_
  first | refine s_iaddN dL_law_952 ?_ | refine s_iadd dL_law_952 ?_
  refine s_saldN dL_law_953 (by repeat (first | exact up_self | assumption | rw [up_ne (by first | assumption | (intro q0; cases q0; done) | (intro q0; simp at q0; omega))])) (by omega) (by omega) ?_
  refine s_aload_n dL_law_954 rfl rfl ?_
  refine s_iload_n dL_law_955 rfl rfl ?_
  refine s_iconst (v := nI 3) dL_law_956 (by decide) ?_
  first | refine s_iaddN dL_law_957 ?_ | refine s_iadd dL_law_957 ?_
  refine s_saldN dL_law_958 (by repeat (first | exact up_self | assumption | rw [up_ne (by first | assumption | (intro q0; cases q0; done) | (intro q0; simp at q0; omega))])) (by omega) (by omega) ?_
  refine s_aload_n dL_law_959 rfl rfl ?_
  refine s_iload_n dL_law_960 rfl rfl ?_
  refine s_iconst (v := nI 4) dL_law_961 (by decide) ?_
  first | refine s_iaddN dL_law_962 ?_ | refine s_iadd dL_law_962 ?_
  refine s_saldN dL_law_963 (by repeat (first | exact up_self | assumption | rw [up_ne (by first | assumption | (intro q0; cases q0; done) | (intro q0; simp at q0; omega))])) (by omega) (by omega) ?_
  refine s_callV (As := [_, _, _, _]) dL_law_964 cv_L_111 (by repeat (first | exact up_self | assumption | rw [up_ne (by first | assumption | (intro q0; cases q0; done) | (intro q0; simp at q0; omega))])) (p_anchor (xs (7 * c + 1)) (xs (7 * c + 2)) (xs (7 * c + 3)) (xs (7 * c + 4)) hc I) (by first | rfl | exact Nat.ble_eq_true_of_le (by omega)) (Nat.ble_eq_true_of_le (by omega)) (Nat.ble_eq_true_of_le (by omega)) rfl (fun v0 h1 q0 => ?_)
  obtain ⟨x0, σ1, h01, rfl, rfl, hs1, cm⟩ := q0
  refine s_aload_n dL_law_967 rfl rfl ?_
  refine s_aload_n dL_law_968 rfl rfl ?_
  refine s_iload_n dL_law_969 rfl rfl ?_
  refine s_iconst (v := nI 1) dL_law_970 (by decide) ?_
  first | refine s_iaddN dL_law_971 ?_ | refine s_iadd dL_law_971 ?_
  refine s_saldN dL_law_972 (by repeat (first | exact up_self | assumption | rw [up_ne (by first | assumption | (intro q0; cases q0; done) | (intro q0; simp at q0; omega))])) (by omega) (by omega) ?_
  refine s_aload_n dL_law_973 rfl rfl ?_
  refine s_iload_n dL_law_974 rfl rfl ?_
  refine s_iconst (v := nI 2) dL_law_975 (by decide) ?_
  first | refine s_iaddN dL_law_976 ?_ | refine s_iadd dL_law_976 ?_
  refine s_saldN dL_law_977 (by repeat (first | exact up_self | assumption | rw [up_ne (by first | assumption | (intro q0; cases q0; done) | (intro q0; simp at q0; omega))])) (by omega) (by omega) ?_
  refine s_aload_n dL_law_978 rfl rfl ?_
  refine s_iload_n dL_law_979 rfl rfl ?_
  refine s_iconst (v := nI 3) dL_law_980 (by decide) ?_
  first | refine s_iaddN dL_law_981 ?_ | refine s_iadd dL_law_981 ?_
  refine s_saldN dL_law_982 (by repeat (first | exact up_self | assumption | rw [up_ne (by first | assumption | (intro q0; cases q0; done) | (intro q0; simp at q0; omega))])) (by omega) (by omega) ?_
  refine s_aload_n dL_law_983 rfl rfl ?_
  refine s_iload_n dL_law_984 rfl rfl ?_
  refine s_iconst (v := nI 4) dL_law_985 (by decide) ?_
  first | refine s_iaddN dL_law_986 ?_ | refine s_iadd dL_law_986 ?_
  refine s_saldN dL_law_987 (by repeat (first | exact up_self | assumption | rw [up_ne (by first | assumption | (intro q0; cases q0; done) | (intro q0; simp at q0; omega))])) (by omega) (by omega) ?_
  refine s_callV (As := [_, _, _, _]) dL_law_988 cv_L_114 hM_o (cm) (by first | rfl | exact Nat.ble_eq_true_of_le (by omega)) (Nat.ble_eq_true_of_le (by omega)) (Nat.ble_eq_true_of_le (by omega)) rfl (fun v0 h2 q0 => ?_)
  obtain ⟨rfl, I2⟩ := q0
  refine s_icmp_eq dL_law_991 (fun _ => ?_) (fun q => absurd rfl q)
  exact kk _ _ _ I2 (by omega) (by omega)
theorem w_everyTurn {nm : String} {H : Hp} {c L k n : Nat} {xs : Nat → Int32} {fm : Nat → PV} (hL : L ≤ 3584) (hc : c ≤ 600) (hi : 7 * c + 7 ≤ L) (hm : H (10, 0, 0) = some (11, 0, fm)) (hs : H (0, 0, 0) = some (29, L, fun j => vI (xs j))) (I : LI c L xs H) (hk : k ≤ 200 + 124 * c) (hn : n ≤ 8000 + 8924 * c) (kk : ∀ H' k' n', LI (c + 1) L xs H' → k' ≤ 200 + 124 * (c + 1) → n' ≤ 8000 + 8924 * (c + 1) → S (mLx nm) 40 600000 7302250 (fun v _ => v = some (vI 1)) 1197 [some (vR (0, 0, 0)), some (vR (10, 0, 0)), some (vR (100, 0, 0)), some (vI (nI (7 * c)))] [] H' k' n') :
    S (mLx nm) 40 600000 7302250 (fun v _ => v = some (vI 1)) 996 [some (vR (0, 0, 0)), some (vR (10, 0, 0)), some (vR (100, 0, 0)), some (vI (nI (7 * c)))] [] H k n := by
  refine s_aload_n dL_law_996 rfl rfl ?_
  refine s_aload_n dL_law_997 rfl rfl ?_
  refine s_iload_n dL_law_998 rfl rfl ?_
  refine s_iconst (v := nI 1) dL_law_999 (by decide) ?_
  first | refine s_iaddN dL_law_1000 ?_ | refine s_iadd dL_law_1000 ?_
  refine s_saldN dL_law_1001 (by repeat (first | exact up_self | assumption | rw [up_ne (by first | assumption | (intro q0; cases q0; done) | (intro q0; simp at q0; omega))])) (by omega) (by omega) ?_
  refine s_callV (As := [_]) dL_law_1002 cv_L_115 (by repeat (first | exact up_self | assumption | rw [up_ne (by first | assumption | (intro q0; cases q0; done) | (intro q0; simp at q0; omega))])) (p_everyTurn (xs (7 * c + 1)) hc I) (by first | rfl | exact Nat.ble_eq_true_of_le (by omega)) (Nat.ble_eq_true_of_le (by omega)) (Nat.ble_eq_true_of_le (by omega)) rfl (fun v0 h1 q0 => ?_)
  obtain ⟨x0, σ1, h01, rfl, rfl, hs1, cm⟩ := q0
  refine s_aload_n dL_law_1005 rfl rfl ?_
  refine s_aload_n dL_law_1006 rfl rfl ?_
  refine s_iload_n dL_law_1007 rfl rfl ?_
  refine s_iconst (v := nI 1) dL_law_1008 (by decide) ?_
  first | refine s_iaddN dL_law_1009 ?_ | refine s_iadd dL_law_1009 ?_
  refine s_saldN dL_law_1010 (by repeat (first | exact up_self | assumption | rw [up_ne (by first | assumption | (intro q0; cases q0; done) | (intro q0; simp at q0; omega))])) (by omega) (by omega) ?_
  refine s_callV (As := [_]) dL_law_1011 cv_L_118 hM_o (cm) (by first | rfl | exact Nat.ble_eq_true_of_le (by omega)) (Nat.ble_eq_true_of_le (by omega)) (Nat.ble_eq_true_of_le (by omega)) rfl (fun v0 h2 q0 => ?_)
  obtain ⟨rfl, I2⟩ := q0
  refine s_icmp_eq dL_law_1014 (fun _ => ?_) (fun q => absurd rfl q)
  exact kk _ _ _ I2 (by omega) (by omega)
theorem w_turn {nm : String} {H : Hp} {c L k n : Nat} {xs : Nat → Int32} {fm : Nat → PV} (hL : L ≤ 3584) (hc : c ≤ 600) (hi : 7 * c + 7 ≤ L) (hm : H (10, 0, 0) = some (11, 0, fm)) (hs : H (0, 0, 0) = some (29, L, fun j => vI (xs j))) (I : LI c L xs H) (hk : k ≤ 200 + 124 * c) (hn : n ≤ 8000 + 8924 * c) (kk : ∀ H' k' n', LI (c + 1) L xs H' → k' ≤ 200 + 124 * (c + 1) → n' ≤ 8000 + 8924 * (c + 1) → S (mLx nm) 40 600000 7302250 (fun v _ => v = some (vI 1)) 1197 [some (vR (0, 0, 0)), some (vR (10, 0, 0)), some (vR (100, 0, 0)), some (vI (nI (7 * c)))] [] H' k' n') :
    S (mLx nm) 40 600000 7302250 (fun v _ => v = some (vI 1)) 1019 [some (vR (0, 0, 0)), some (vR (10, 0, 0)), some (vR (100, 0, 0)), some (vI (nI (7 * c)))] [] H k n := by
  refine s_aload_n dL_law_1019 rfl rfl ?_
  refine s_callV (As := []) dL_law_1020 cv_L_119 (by repeat (first | exact up_self | assumption | rw [up_ne (by first | assumption | (intro q0; cases q0; done) | (intro q0; simp at q0; omega))])) (p_turn  I) (by first | rfl | exact Nat.ble_eq_true_of_le (by omega)) (Nat.ble_eq_true_of_le (by omega)) (Nat.ble_eq_true_of_le (by omega)) rfl (fun v0 h1 q0 => ?_)
  obtain ⟨x0, σ1, h01, rfl, rfl, hs1, cm⟩ := q0
  refine s_aload_n dL_law_1023 rfl rfl ?_
  refine s_callV (As := []) dL_law_1024 cv_L_122 hM_o (cm) (by first | rfl | exact Nat.ble_eq_true_of_le (by omega)) (Nat.ble_eq_true_of_le (by omega)) (Nat.ble_eq_true_of_le (by omega)) rfl (fun v0 h2 q0 => ?_)
  obtain ⟨rfl, I2⟩ := q0
  refine s_icmp_eq dL_law_1027 (fun _ => ?_) (fun q => absurd rfl q)
  exact kk _ _ _ I2 (by omega) (by omega)
theorem w_event {nm : String} {H : Hp} {c L k n : Nat} {xs : Nat → Int32} {fm : Nat → PV} (hL : L ≤ 3584) (hc : c ≤ 600) (hi : 7 * c + 7 ≤ L) (hm : H (10, 0, 0) = some (11, 0, fm)) (hs : H (0, 0, 0) = some (29, L, fun j => vI (xs j))) (I : LI c L xs H) (hk : k ≤ 200 + 124 * c) (hn : n ≤ 8000 + 8924 * c) (kk : ∀ H' k' n', LI (c + 1) L xs H' → k' ≤ 200 + 124 * (c + 1) → n' ≤ 8000 + 8924 * (c + 1) → S (mLx nm) 40 600000 7302250 (fun v _ => v = some (vI 1)) 1197 [some (vR (0, 0, 0)), some (vR (10, 0, 0)), some (vR (100, 0, 0)), some (vI (nI (7 * c)))] [] H' k' n') :
    S (mLx nm) 40 600000 7302250 (fun v _ => v = some (vI 1)) 1032 [some (vR (0, 0, 0)), some (vR (10, 0, 0)), some (vR (100, 0, 0)), some (vI (nI (7 * c)))] [] H k n := by
  refine s_aload_n dL_law_1032 rfl rfl ?_
  refine s_aload_n dL_law_1033 rfl rfl ?_
  refine s_iload_n dL_law_1034 rfl rfl ?_
  refine s_iconst (v := nI 1) dL_law_1035 (by decide) ?_
  first | refine s_iaddN dL_law_1036 ?_ | refine s_iadd dL_law_1036 ?_
  refine s_saldN dL_law_1037 (by repeat (first | exact up_self | assumption | rw [up_ne (by first | assumption | (intro q0; cases q0; done) | (intro q0; simp at q0; omega))])) (by omega) (by omega) ?_
  refine s_callV (As := [_]) dL_law_1038 cv_L_123 (by repeat (first | exact up_self | assumption | rw [up_ne (by first | assumption | (intro q0; cases q0; done) | (intro q0; simp at q0; omega))])) (p_event (xs (7 * c + 1)) I) (by first | rfl | exact Nat.ble_eq_true_of_le (by omega)) (Nat.ble_eq_true_of_le (by omega)) (Nat.ble_eq_true_of_le (by omega)) rfl (fun v0 h1 q0 => ?_)
  obtain ⟨x0, σ1, h01, rfl, rfl, hs1, cm⟩ := q0
  refine s_aload_n dL_law_1041 rfl rfl ?_
  refine s_aload_n dL_law_1042 rfl rfl ?_
  refine s_iload_n dL_law_1043 rfl rfl ?_
  refine s_iconst (v := nI 1) dL_law_1044 (by decide) ?_
  first | refine s_iaddN dL_law_1045 ?_ | refine s_iadd dL_law_1045 ?_
  refine s_saldN dL_law_1046 (by repeat (first | exact up_self | assumption | rw [up_ne (by first | assumption | (intro q0; cases q0; done) | (intro q0; simp at q0; omega))])) (by omega) (by omega) ?_
  refine s_callV (As := [_]) dL_law_1047 cv_L_126 hM_o (cm) (by first | rfl | exact Nat.ble_eq_true_of_le (by omega)) (Nat.ble_eq_true_of_le (by omega)) (Nat.ble_eq_true_of_le (by omega)) rfl (fun v0 h2 q0 => ?_)
  obtain ⟨rfl, I2⟩ := q0
  refine s_icmp_eq dL_law_1050 (fun _ => ?_) (fun q => absurd rfl q)
  exact kk _ _ _ I2 (by omega) (by omega)
theorem w_happens {nm : String} {H : Hp} {c L k n : Nat} {xs : Nat → Int32} {fm : Nat → PV} (hL : L ≤ 3584) (hc : c ≤ 600) (hi : 7 * c + 7 ≤ L) (hm : H (10, 0, 0) = some (11, 0, fm)) (hs : H (0, 0, 0) = some (29, L, fun j => vI (xs j))) (I : LI c L xs H) (hk : k ≤ 200 + 124 * c) (hn : n ≤ 8000 + 8924 * c) (kk : ∀ H' k' n', LI (c + 1) L xs H' → k' ≤ 200 + 124 * (c + 1) → n' ≤ 8000 + 8924 * (c + 1) → S (mLx nm) 40 600000 7302250 (fun v _ => v = some (vI 1)) 1197 [some (vR (0, 0, 0)), some (vR (10, 0, 0)), some (vR (100, 0, 0)), some (vI (nI (7 * c)))] [] H' k' n') :
    S (mLx nm) 40 600000 7302250 (fun v _ => v = some (vI 1)) 1055 [some (vR (0, 0, 0)), some (vR (10, 0, 0)), some (vR (100, 0, 0)), some (vI (nI (7 * c)))] [] H k n := by
  refine s_aload_n dL_law_1055 rfl rfl ?_
  refine s_aload_n dL_law_1056 rfl rfl ?_
  refine s_iload_n dL_law_1057 rfl rfl ?_
  refine s_iconst (v := nI 1) dL_law_1058 (by decide) ?_
  first | refine s_iaddN dL_law_1059 ?_ | refine s_iadd dL_law_1059 ?_
  refine s_saldN dL_law_1060 (by repeat (first | exact up_self | assumption | rw [up_ne (by first | assumption | (intro q0; cases q0; done) | (intro q0; simp at q0; omega))])) (by omega) (by omega) ?_
  refine s_aload_n dL_law_1061 rfl rfl ?_
  refine s_iload_n dL_law_1062 rfl rfl ?_
  refine s_iconst (v := nI 2) dL_law_1063 (by decide) ?_
  first | refine s_iaddN dL_law_1064 ?_ | refine s_iadd dL_law_1064 ?_
  refine s_saldN dL_law_1065 (by repeat (first | exact up_self | assumption | rw [up_ne (by first | assumption | (intro q0; cases q0; done) | (intro q0; simp at q0; omega))])) (by omega) (by omega) ?_
  refine s_callV (As := [_, _]) dL_law_1066 cv_L_127 (by repeat (first | exact up_self | assumption | rw [up_ne (by first | assumption | (intro q0; cases q0; done) | (intro q0; simp at q0; omega))])) (p_happens (xs (7 * c + 1)) (xs (7 * c + 2)) I) (by first | rfl | exact Nat.ble_eq_true_of_le (by omega)) (Nat.ble_eq_true_of_le (by omega)) (Nat.ble_eq_true_of_le (by omega)) rfl (fun v0 h1 q0 => ?_)
  obtain ⟨x0, σ1, h01, rfl, rfl, hs1, cm⟩ := q0
  refine s_aload_n dL_law_1069 rfl rfl ?_
  refine s_aload_n dL_law_1070 rfl rfl ?_
  refine s_iload_n dL_law_1071 rfl rfl ?_
  refine s_iconst (v := nI 1) dL_law_1072 (by decide) ?_
  first | refine s_iaddN dL_law_1073 ?_ | refine s_iadd dL_law_1073 ?_
  refine s_saldN dL_law_1074 (by repeat (first | exact up_self | assumption | rw [up_ne (by first | assumption | (intro q0; cases q0; done) | (intro q0; simp at q0; omega))])) (by omega) (by omega) ?_
  refine s_aload_n dL_law_1075 rfl rfl ?_
  refine s_iload_n dL_law_1076 rfl rfl ?_
  refine s_iconst (v := nI 2) dL_law_1077 (by decide) ?_
  first | refine s_iaddN dL_law_1078 ?_ | refine s_iadd dL_law_1078 ?_
  refine s_saldN dL_law_1079 (by repeat (first | exact up_self | assumption | rw [up_ne (by first | assumption | (intro q0; cases q0; done) | (intro q0; simp at q0; omega))])) (by omega) (by omega) ?_
  refine s_callV (As := [_, _]) dL_law_1080 cv_L_130 hM_o (cm) (by first | rfl | exact Nat.ble_eq_true_of_le (by omega)) (Nat.ble_eq_true_of_le (by omega)) (Nat.ble_eq_true_of_le (by omega)) rfl (fun v0 h2 q0 => ?_)
  obtain ⟨rfl, I2⟩ := q0
  refine s_icmp_eq dL_law_1083 (fun _ => ?_) (fun q => absurd rfl q)
  exact kk _ _ _ I2 (by omega) (by omega)
theorem w_phrase {nm : String} {H : Hp} {c L k n : Nat} {xs : Nat → Int32} {fm : Nat → PV} (hL : L ≤ 3584) (hc : c ≤ 600) (hi : 7 * c + 7 ≤ L) (hm : H (10, 0, 0) = some (11, 0, fm)) (hs : H (0, 0, 0) = some (29, L, fun j => vI (xs j))) (I : LI c L xs H) (hk : k ≤ 200 + 124 * c) (hn : n ≤ 8000 + 8924 * c) (kk : ∀ H' k' n', LI (c + 1) L xs H' → k' ≤ 200 + 124 * (c + 1) → n' ≤ 8000 + 8924 * (c + 1) → S (mLx nm) 40 600000 7302250 (fun v _ => v = some (vI 1)) 1197 [some (vR (0, 0, 0)), some (vR (10, 0, 0)), some (vR (100, 0, 0)), some (vI (nI (7 * c)))] [] H' k' n') :
    S (mLx nm) 40 600000 7302250 (fun v _ => v = some (vI 1)) 1088 [some (vR (0, 0, 0)), some (vR (10, 0, 0)), some (vR (100, 0, 0)), some (vI (nI (7 * c)))] [] H k n := by
  refine s_aload_n dL_law_1088 rfl rfl ?_
  refine s_aload_n dL_law_1089 rfl rfl ?_
  refine s_iload_n dL_law_1090 rfl rfl ?_
  refine s_iconst (v := nI 1) dL_law_1091 (by decide) ?_
  first | refine s_iaddN dL_law_1092 ?_ | refine s_iadd dL_law_1092 ?_
  refine s_saldN dL_law_1093 (by repeat (first | exact up_self | assumption | rw [up_ne (by first | assumption | (intro q0; cases q0; done) | (intro q0; simp at q0; omega))])) (by omega) (by omega) ?_
  refine s_aload_n dL_law_1094 rfl rfl ?_
  refine s_iload_n dL_law_1095 rfl rfl ?_
  refine s_iconst (v := nI 2) dL_law_1096 (by decide) ?_
  first | refine s_iaddN dL_law_1097 ?_ | refine s_iadd dL_law_1097 ?_
  refine s_saldN dL_law_1098 (by repeat (first | exact up_self | assumption | rw [up_ne (by first | assumption | (intro q0; cases q0; done) | (intro q0; simp at q0; omega))])) (by omega) (by omega) ?_
  refine s_aload_n dL_law_1099 rfl rfl ?_
  refine s_iload_n dL_law_1100 rfl rfl ?_
  refine s_iconst (v := nI 3) dL_law_1101 (by decide) ?_
  first | refine s_iaddN dL_law_1102 ?_ | refine s_iadd dL_law_1102 ?_
  refine s_saldN dL_law_1103 (by repeat (first | exact up_self | assumption | rw [up_ne (by first | assumption | (intro q0; cases q0; done) | (intro q0; simp at q0; omega))])) (by omega) (by omega) ?_
  refine s_callV (As := [_, _, _]) dL_law_1104 cv_L_131 (by repeat (first | exact up_self | assumption | rw [up_ne (by first | assumption | (intro q0; cases q0; done) | (intro q0; simp at q0; omega))])) (p_phrase (xs (7 * c + 1)) (xs (7 * c + 2)) (xs (7 * c + 3)) hc I) (by first | rfl | exact Nat.ble_eq_true_of_le (by omega)) (Nat.ble_eq_true_of_le (by omega)) (Nat.ble_eq_true_of_le (by omega)) rfl (fun v0 h1 q0 => ?_)
  obtain ⟨x0, σ1, h01, rfl, rfl, hs1, cm⟩ := q0
  refine s_aload_n dL_law_1107 rfl rfl ?_
  refine s_aload_n dL_law_1108 rfl rfl ?_
  refine s_iload_n dL_law_1109 rfl rfl ?_
  refine s_iconst (v := nI 1) dL_law_1110 (by decide) ?_
  first | refine s_iaddN dL_law_1111 ?_ | refine s_iadd dL_law_1111 ?_
  refine s_saldN dL_law_1112 (by repeat (first | exact up_self | assumption | rw [up_ne (by first | assumption | (intro q0; cases q0; done) | (intro q0; simp at q0; omega))])) (by omega) (by omega) ?_
  refine s_aload_n dL_law_1113 rfl rfl ?_
  refine s_iload_n dL_law_1114 rfl rfl ?_
  refine s_iconst (v := nI 2) dL_law_1115 (by decide) ?_
  first | refine s_iaddN dL_law_1116 ?_ | refine s_iadd dL_law_1116 ?_
  refine s_saldN dL_law_1117 (by repeat (first | exact up_self | assumption | rw [up_ne (by first | assumption | (intro q0; cases q0; done) | (intro q0; simp at q0; omega))])) (by omega) (by omega) ?_
  refine s_aload_n dL_law_1118 rfl rfl ?_
  refine s_iload_n dL_law_1119 rfl rfl ?_
  refine s_iconst (v := nI 3) dL_law_1120 (by decide) ?_
  first | refine s_iaddN dL_law_1121 ?_ | refine s_iadd dL_law_1121 ?_
  refine s_saldN dL_law_1122 (by repeat (first | exact up_self | assumption | rw [up_ne (by first | assumption | (intro q0; cases q0; done) | (intro q0; simp at q0; omega))])) (by omega) (by omega) ?_
  refine s_callV (As := [_, _, _]) dL_law_1123 cv_L_134 hM_o (cm) (by first | rfl | exact Nat.ble_eq_true_of_le (by omega)) (Nat.ble_eq_true_of_le (by omega)) (Nat.ble_eq_true_of_le (by omega)) rfl (fun v0 h2 q0 => ?_)
  obtain ⟨rfl, I2⟩ := q0
  refine s_icmp_eq dL_law_1126 (fun _ => ?_) (fun q => absurd rfl q)
  exact kk _ _ _ I2 (by omega) (by omega)
theorem w_choose {nm : String} {H : Hp} {c L k n : Nat} {xs : Nat → Int32} {fm : Nat → PV} (hL : L ≤ 3584) (hc : c ≤ 600) (hi : 7 * c + 7 ≤ L) (hm : H (10, 0, 0) = some (11, 0, fm)) (hs : H (0, 0, 0) = some (29, L, fun j => vI (xs j))) (I : LI c L xs H) (hk : k ≤ 200 + 124 * c) (hn : n ≤ 8000 + 8924 * c) (kk : ∀ H' k' n', LI (c + 1) L xs H' → k' ≤ 200 + 124 * (c + 1) → n' ≤ 8000 + 8924 * (c + 1) → S (mLx nm) 40 600000 7302250 (fun v _ => v = some (vI 1)) 1197 [some (vR (0, 0, 0)), some (vR (10, 0, 0)), some (vR (100, 0, 0)), some (vI (nI (7 * c)))] [] H' k' n') :
    S (mLx nm) 40 600000 7302250 (fun v _ => v = some (vI 1)) 1131 [some (vR (0, 0, 0)), some (vR (10, 0, 0)), some (vR (100, 0, 0)), some (vI (nI (7 * c)))] [] H k n := by
  refine s_aload_n dL_law_1131 rfl rfl ?_
  refine s_aload_n dL_law_1132 rfl rfl ?_
  refine s_iload_n dL_law_1133 rfl rfl ?_
  refine s_iconst (v := nI 1) dL_law_1134 (by decide) ?_
  first | refine s_iaddN dL_law_1135 ?_ | refine s_iadd dL_law_1135 ?_
  refine s_saldN dL_law_1136 (by repeat (first | exact up_self | assumption | rw [up_ne (by first | assumption | (intro q0; cases q0; done) | (intro q0; simp at q0; omega))])) (by omega) (by omega) ?_
  refine s_aload_n dL_law_1137 rfl rfl ?_
  refine s_iload_n dL_law_1138 rfl rfl ?_
  refine s_iconst (v := nI 2) dL_law_1139 (by decide) ?_
  first | refine s_iaddN dL_law_1140 ?_ | refine s_iadd dL_law_1140 ?_
  refine s_saldN dL_law_1141 (by repeat (first | exact up_self | assumption | rw [up_ne (by first | assumption | (intro q0; cases q0; done) | (intro q0; simp at q0; omega))])) (by omega) (by omega) ?_
  refine s_aload_n dL_law_1142 rfl rfl ?_
  refine s_iload_n dL_law_1143 rfl rfl ?_
  refine s_iconst (v := nI 3) dL_law_1144 (by decide) ?_
  first | refine s_iaddN dL_law_1145 ?_ | refine s_iadd dL_law_1145 ?_
  refine s_saldN dL_law_1146 (by repeat (first | exact up_self | assumption | rw [up_ne (by first | assumption | (intro q0; cases q0; done) | (intro q0; simp at q0; omega))])) (by omega) (by omega) ?_
  refine s_callV (As := [_, _, _]) dL_law_1147 cv_L_135 (by repeat (first | exact up_self | assumption | rw [up_ne (by first | assumption | (intro q0; cases q0; done) | (intro q0; simp at q0; omega))])) (p_choose (xs (7 * c + 1)) (xs (7 * c + 2)) (xs (7 * c + 3)) I) (by first | rfl | exact Nat.ble_eq_true_of_le (by omega)) (Nat.ble_eq_true_of_le (by omega)) (Nat.ble_eq_true_of_le (by omega)) rfl (fun v0 h1 q0 => ?_)
  obtain ⟨x0, σ1, h01, rfl, rfl, hs1, cm⟩ := q0
  refine s_aload_n dL_law_1150 rfl rfl ?_
  refine s_aload_n dL_law_1151 rfl rfl ?_
  refine s_iload_n dL_law_1152 rfl rfl ?_
  refine s_iconst (v := nI 1) dL_law_1153 (by decide) ?_
  first | refine s_iaddN dL_law_1154 ?_ | refine s_iadd dL_law_1154 ?_
  refine s_saldN dL_law_1155 (by repeat (first | exact up_self | assumption | rw [up_ne (by first | assumption | (intro q0; cases q0; done) | (intro q0; simp at q0; omega))])) (by omega) (by omega) ?_
  refine s_aload_n dL_law_1156 rfl rfl ?_
  refine s_iload_n dL_law_1157 rfl rfl ?_
  refine s_iconst (v := nI 2) dL_law_1158 (by decide) ?_
  first | refine s_iaddN dL_law_1159 ?_ | refine s_iadd dL_law_1159 ?_
  refine s_saldN dL_law_1160 (by repeat (first | exact up_self | assumption | rw [up_ne (by first | assumption | (intro q0; cases q0; done) | (intro q0; simp at q0; omega))])) (by omega) (by omega) ?_
  refine s_aload_n dL_law_1161 rfl rfl ?_
  refine s_iload_n dL_law_1162 rfl rfl ?_
  refine s_iconst (v := nI 3) dL_law_1163 (by decide) ?_
  first | refine s_iaddN dL_law_1164 ?_ | refine s_iadd dL_law_1164 ?_
  refine s_saldN dL_law_1165 (by repeat (first | exact up_self | assumption | rw [up_ne (by first | assumption | (intro q0; cases q0; done) | (intro q0; simp at q0; omega))])) (by omega) (by omega) ?_
  refine s_callV (As := [_, _, _]) dL_law_1166 cv_L_138 hM_o (cm) (by first | rfl | exact Nat.ble_eq_true_of_le (by omega)) (Nat.ble_eq_true_of_le (by omega)) (Nat.ble_eq_true_of_le (by omega)) rfl (fun v0 h2 q0 => ?_)
  obtain ⟨rfl, I2⟩ := q0
  refine s_icmp_eq dL_law_1169 (fun _ => ?_) (fun q => absurd rfl q)
  exact kk _ _ _ I2 (by omega) (by omega)
theorem w_count {nm : String} {H : Hp} {c L k n : Nat} {xs : Nat → Int32} {fm : Nat → PV} (hL : L ≤ 3584) (hc : c ≤ 600) (hi : 7 * c + 7 ≤ L) (hm : H (10, 0, 0) = some (11, 0, fm)) (hs : H (0, 0, 0) = some (29, L, fun j => vI (xs j))) (I : LI c L xs H) (hk : k ≤ 200 + 124 * c) (hn : n ≤ 8000 + 8924 * c) (kk : ∀ H' k' n', LI (c + 1) L xs H' → k' ≤ 200 + 124 * (c + 1) → n' ≤ 8000 + 8924 * (c + 1) → S (mLx nm) 40 600000 7302250 (fun v _ => v = some (vI 1)) 1197 [some (vR (0, 0, 0)), some (vR (10, 0, 0)), some (vR (100, 0, 0)), some (vI (nI (7 * c)))] [] H' k' n') :
    S (mLx nm) 40 600000 7302250 (fun v _ => v = some (vI 1)) 1174 [some (vR (0, 0, 0)), some (vR (10, 0, 0)), some (vR (100, 0, 0)), some (vI (nI (7 * c)))] [] H k n := by
  refine s_aload_n dL_law_1174 rfl rfl ?_
  refine s_aload_n dL_law_1175 rfl rfl ?_
  refine s_iload_n dL_law_1176 rfl rfl ?_
  refine s_iconst (v := nI 1) dL_law_1177 (by decide) ?_
  first | refine s_iaddN dL_law_1178 ?_ | refine s_iadd dL_law_1178 ?_
  refine s_saldN dL_law_1179 (by repeat (first | exact up_self | assumption | rw [up_ne (by first | assumption | (intro q0; cases q0; done) | (intro q0; simp at q0; omega))])) (by omega) (by omega) ?_
  refine s_callV (As := [_]) dL_law_1180 cv_L_139 (by repeat (first | exact up_self | assumption | rw [up_ne (by first | assumption | (intro q0; cases q0; done) | (intro q0; simp at q0; omega))])) (p_count (xs (7 * c + 1)) I) (by first | rfl | exact Nat.ble_eq_true_of_le (by omega)) (Nat.ble_eq_true_of_le (by omega)) (Nat.ble_eq_true_of_le (by omega)) rfl (fun v0 h1 q0 => ?_)
  obtain ⟨x0, σ1, h01, rfl, rfl, hs1, cm⟩ := q0
  refine s_aload_n dL_law_1183 rfl rfl ?_
  refine s_aload_n dL_law_1184 rfl rfl ?_
  refine s_iload_n dL_law_1185 rfl rfl ?_
  refine s_iconst (v := nI 1) dL_law_1186 (by decide) ?_
  first | refine s_iaddN dL_law_1187 ?_ | refine s_iadd dL_law_1187 ?_
  refine s_saldN dL_law_1188 (by repeat (first | exact up_self | assumption | rw [up_ne (by first | assumption | (intro q0; cases q0; done) | (intro q0; simp at q0; omega))])) (by omega) (by omega) ?_
  refine s_callV (As := [_]) dL_law_1189 cv_L_142 hM_o (cm) (by first | rfl | exact Nat.ble_eq_true_of_le (by omega)) (Nat.ble_eq_true_of_le (by omega)) (Nat.ble_eq_true_of_le (by omega)) rfl (fun v0 h2 q0 => ?_)
  obtain ⟨rfl, I2⟩ := q0
  refine s_icmp_eq dL_law_1192 (fun _ => ?_) (fun q => absurd rfl q)
  exact kk _ _ _ I2 (by omega) (by omega)
theorem l_law {nm : String} {L : Nat} {xs : Nat → Int32} (hL : L ≤ 3584) :
    ∀ (m c k n : Nat) (H : Hp), c + m = 513 → LI c L xs H → k ≤ 200 + 124 * c → n ≤ 8000 + 8924 * c → S (mLx nm) 40 600000 7302250 (fun v _ => v = some (vI 1)) 18 [some (vR (0, 0, 0)), some (vR (10, 0, 0)), some (vR (100, 0, 0)), some (vI (nI (7 * c)))] [] H k n := by
  intro m
  induction m with
  | zero =>
    intro c k n H hcm I hk hn
    obtain ⟨⟨fm, hm⟩, hs⟩ := I.mn
    have hc : c ≤ 600 := by omega
    refine s_iload_n dL_law_18 rfl rfl ?_
    refine s_aload_n dL_law_19 rfl rfl ?_
    refine s_alen dL_law_20 (by repeat (first | exact up_self | assumption | rw [up_ne (by first | assumption | (intro q0; cases q0; done) | (intro q0; simp at q0; omega))])) rfl (Or.inr (Or.inr rfl)) ?_
    refine s_bipush (v := nI 7) dL_law_21 (by decide) ?_
    refine s_isub dL_law_23 ?_
    refine s_icmp_gt dL_law_24 (fun _ => ?_) (fun q => absurd (sub7a hL hc (by omega)) q)
    refine s_iconst (v := 1) dL_law_1203 (by decide) ?_
    refine s_zret dL_law_1204 rfl (by first | exact Or.inl rfl | exact Or.inr rfl | assumption) (by first | exact Nat.le_refl _ | decide | omega) (by first | exact Nat.le_refl _ | decide | omega) ?_
    rfl
  | succ m ih1 =>
    intro c k n H hcm I hk hn
    obtain ⟨⟨fm, hm⟩, hs⟩ := I.mn
    have hc : c ≤ 600 := by omega
    have K97 : ∀ H' k' n', LI (c + 1) L xs H' → k' ≤ 200 + 124 * (c + 1) → n' ≤ 8000 + 8924 * (c + 1) → S (mLx nm) 40 600000 7302250 (fun v _ => v = some (vI 1)) 1197 [some (vR (0, 0, 0)), some (vR (10, 0, 0)), some (vR (100, 0, 0)), some (vI (nI (7 * c)))] [] H' k' n' := by
      intro H' k' n' I' hk' hn'
      refine s_iinc dL_law_1197 rfl rfl ?_
      refine s_goto dL_law_1200 ?_
      rw [nI_i7]
      exact ih1 (c + 1) k' n' H' (by omega) I' hk' hn'
    by_cases c1 : 7 * c + 7 ≤ L
    · obtain ⟨d, hd, ed⟩ := and31 (xs (7 * c))
      refine s_iload_n dL_law_18 rfl rfl ?_
      refine s_aload_n dL_law_19 rfl rfl ?_
      refine s_alen dL_law_20 (by repeat (first | exact up_self | assumption | rw [up_ne (by first | assumption | (intro q0; cases q0; done) | (intro q0; simp at q0; omega))])) rfl (Or.inr (Or.inr rfl)) ?_
      refine s_bipush (v := nI 7) dL_law_21 (by decide) ?_
      refine s_isub dL_law_23 ?_
      refine s_icmp_gt dL_law_24 (fun q => absurd q (sub7b hL hc c1)) (fun _ => ?_)
      refine s_aload_n dL_law_27 rfl rfl ?_
      refine s_iload_n dL_law_28 rfl rfl ?_
      refine s_saldN dL_law_29 (by repeat (first | exact up_self | assumption | rw [up_ne (by first | assumption | (intro q0; cases q0; done) | (intro q0; simp at q0; omega))])) (by omega) (by omega) ?_
      refine s_bipush (v := nI 31) dL_law_30 (by decide) ?_
      refine s_iand dL_law_32 ?_
      refine s_tv (congrArg vI ed) ?_
      clear ed
      rcases (show d = 0 ∨ d = 1 ∨ d = 2 ∨ d = 3 ∨ d = 4 ∨ d = 5 ∨ d = 6 ∨ d = 7 ∨ d = 8 ∨ d = 9 ∨ d = 10 ∨ d = 11 ∨ d = 12 ∨ d = 13 ∨ d = 14 ∨ d = 15 ∨ d = 16 ∨ d = 17 ∨ d = 18 ∨ d = 19 ∨ d = 20 ∨ d = 21 ∨ d = 22 ∨ d = 23 ∨ d = 24 ∨ d = 25 ∨ d = 26 ∨ d = 27 ∨ d = 28 ∨ d = 29 ∨ d = 30 ∨ d = 31 by omega) with rfl | rfl | rfl | rfl | rfl | rfl | rfl | rfl | rfl | rfl | rfl | rfl | rfl | rfl | rfl | rfl | rfl | rfl | rfl | rfl | rfl | rfl | rfl | rfl | rfl | rfl | rfl | rfl | rfl | rfl | rfl | rfl
      · refine s_tabIn (off := 139) (tgt := 172) dL_law_33 (by decide +kernel) (by decide +kernel) (by decide +kernel) (by decide) ?_
        exact w_kind hL hc c1 hm hs I hk hn K97
      · refine s_tabIn (off := 162) (tgt := 195) dL_law_33 (by decide +kernel) (by decide +kernel) (by decide +kernel) (by decide) ?_
        exact w_under hL hc c1 hm hs I hk hn K97
      · refine s_tabIn (off := 195) (tgt := 228) dL_law_33 (by decide +kernel) (by decide +kernel) (by decide +kernel) (by decide) ?_
        exact w_subject hL hc c1 hm hs I hk hn K97
      · refine s_tabIn (off := 218) (tgt := 251) dL_law_33 (by decide +kernel) (by decide +kernel) (by decide +kernel) (by decide) ?_
        exact w_set hL hc c1 hm hs I hk hn K97
      · refine s_tabIn (off := 261) (tgt := 294) dL_law_33 (by decide +kernel) (by decide +kernel) (by decide +kernel) (by decide) ?_
        exact w_value hL hc c1 hm hs I hk hn K97
      · refine s_tabIn (off := 294) (tgt := 327) dL_law_33 (by decide +kernel) (by decide +kernel) (by decide +kernel) (by decide) ?_
        exact w_book hL hc c1 hm hs I hk hn K97
      · refine s_tabIn (off := 317) (tgt := 350) dL_law_33 (by decide +kernel) (by decide +kernel) (by decide +kernel) (by decide) ?_
        exact w_variable hL hc c1 hm hs I hk hn K97
      · refine s_tabIn (off := 360) (tgt := 393) dL_law_33 (by decide +kernel) (by decide +kernel) (by decide +kernel) (by decide) ?_
        exact w_rule hL hc c1 hm hs I hk hn K97
      · refine s_tabIn (off := 403) (tgt := 436) dL_law_33 (by decide +kernel) (by decide +kernel) (by decide +kernel) (by decide) ?_
        exact w_condition hL hc c1 hm hs I hk hn K97
      · refine s_tabIn (off := 456) (tgt := 489) dL_law_33 (by decide +kernel) (by decide +kernel) (by decide +kernel) (by decide) ?_
        exact w_does hL hc c1 hm hs I hk hn K97
      · refine s_tabIn (off := 509) (tgt := 542) dL_law_33 (by decide +kernel) (by decide +kernel) (by decide +kernel) (by decide) ?_
        exact w_order hL hc c1 hm hs I hk hn K97
      · refine s_tabIn (off := 552) (tgt := 585) dL_law_33 (by decide +kernel) (by decide +kernel) (by decide +kernel) (by decide) ?_
        exact w_row hL hc c1 hm hs I hk hn K97
      · refine s_tabIn (off := 585) (tgt := 618) dL_law_33 (by decide +kernel) (by decide +kernel) (by decide +kernel) (by decide) ?_
        exact w_run hL hc c1 hm hs I hk hn K97
      · refine s_tabIn (off := 618) (tgt := 651) dL_law_33 (by decide +kernel) (by decide +kernel) (by decide +kernel) (by decide) ?_
        exact w_trace hL hc c1 hm hs I hk hn K97
      · refine s_tabIn (off := 651) (tgt := 684) dL_law_33 (by decide +kernel) (by decide +kernel) (by decide +kernel) (by decide) ?_
        exact w_erred hL hc c1 hm hs I hk hn K97
      · refine s_tabIn (off := 664) (tgt := 697) dL_law_33 (by decide +kernel) (by decide +kernel) (by decide +kernel) (by decide) ?_
        exact w_action hL hc c1 hm hs I hk hn K97
      · refine s_tabIn (off := 739) (tgt := 772) dL_law_33 (by decide +kernel) (by decide +kernel) (by decide +kernel) (by decide) ?_
        exact w_act hL hc c1 hm hs I hk hn K97
      · refine s_tabIn (off := 772) (tgt := 805) dL_law_33 (by decide +kernel) (by decide +kernel) (by decide +kernel) (by decide) ?_
        exact w_activity hL hc c1 hm hs I hk hn K97
      · refine s_tabIn (off := 815) (tgt := 848) dL_law_33 (by decide +kernel) (by decide +kernel) (by decide +kernel) (by decide) ?_
        exact w_begin hL hc c1 hm hs I hk hn K97
      · refine s_tabIn (off := 848) (tgt := 881) dL_law_33 (by decide +kernel) (by decide +kernel) (by decide +kernel) (by decide) ?_
        exact w_middle hL hc c1 hm hs I hk hn K97
      · refine s_tabIn (off := 861) (tgt := 894) dL_law_33 (by decide +kernel) (by decide +kernel) (by decide +kernel) (by decide) ?_
        exact w_finish hL hc c1 hm hs I hk hn K97
      · refine s_tabIn (off := 874) (tgt := 907) dL_law_33 (by decide +kernel) (by decide +kernel) (by decide +kernel) (by decide) ?_
        exact w_abandon hL hc c1 hm hs I hk hn K97
      · refine s_tabIn (off := 887) (tgt := 920) dL_law_33 (by decide +kernel) (by decide +kernel) (by decide +kernel) (by decide) ?_
        exact w_scene hL hc c1 hm hs I hk hn K97
      · refine s_tabIn (off := 910) (tgt := 943) dL_law_33 (by decide +kernel) (by decide +kernel) (by decide +kernel) (by decide) ?_
        exact w_anchor hL hc c1 hm hs I hk hn K97
      · refine s_tabIn (off := 963) (tgt := 996) dL_law_33 (by decide +kernel) (by decide +kernel) (by decide +kernel) (by decide) ?_
        exact w_everyTurn hL hc c1 hm hs I hk hn K97
      · refine s_tabIn (off := 986) (tgt := 1019) dL_law_33 (by decide +kernel) (by decide +kernel) (by decide +kernel) (by decide) ?_
        exact w_turn hL hc c1 hm hs I hk hn K97
      · refine s_tabIn (off := 999) (tgt := 1032) dL_law_33 (by decide +kernel) (by decide +kernel) (by decide +kernel) (by decide) ?_
        exact w_event hL hc c1 hm hs I hk hn K97
      · refine s_tabIn (off := 1022) (tgt := 1055) dL_law_33 (by decide +kernel) (by decide +kernel) (by decide +kernel) (by decide) ?_
        exact w_happens hL hc c1 hm hs I hk hn K97
      · refine s_tabIn (off := 1055) (tgt := 1088) dL_law_33 (by decide +kernel) (by decide +kernel) (by decide +kernel) (by decide) ?_
        exact w_phrase hL hc c1 hm hs I hk hn K97
      · refine s_tabIn (off := 1098) (tgt := 1131) dL_law_33 (by decide +kernel) (by decide +kernel) (by decide +kernel) (by decide) ?_
        exact w_choose hL hc c1 hm hs I hk hn K97
      · refine s_tabIn (off := 1141) (tgt := 1174) dL_law_33 (by decide +kernel) (by decide +kernel) (by decide +kernel) (by decide) ?_
        exact w_count hL hc c1 hm hs I hk hn K97
      · refine s_tabOut (tgt := 1197) dL_law_33 (Or.inr (by decide +kernel)) (by decide) ?_
        exact K97 H k n I.up (by omega) (by omega)
    · refine s_iload_n dL_law_18 rfl rfl ?_
      refine s_aload_n dL_law_19 rfl rfl ?_
      refine s_alen dL_law_20 (by repeat (first | exact up_self | assumption | rw [up_ne (by first | assumption | (intro q0; cases q0; done) | (intro q0; simp at q0; omega))])) rfl (Or.inr (Or.inr rfl)) ?_
      refine s_bipush (v := nI 7) dL_law_21 (by decide) ?_
      refine s_isub dL_law_23 ?_
      refine s_icmp_gt dL_law_24 (fun _ => ?_) (fun q => absurd (sub7a hL hc (by omega)) q)
      refine s_iconst (v := 1) dL_law_1203 (by decide) ?_
      refine s_zret dL_law_1204 rfl (by first | exact Or.inl rfl | exact Or.inr rfl | assumption) (by first | exact Nat.le_refl _ | decide | omega) (by first | exact Nat.le_refl _ | decide | omega) ?_
      rfl

