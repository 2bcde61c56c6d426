/-! the runner's parts -/
theorem sh_nt : ∀ r : Fin 60, (((nI r).toInt64 &&& 63).toBitVec.smod 64).toNat = r := by decide +kernel
def bit (w : Int64) (r : Nat) : Bool := w.toBitVec.getLsbD r
theorem bit_rd {w : Int64} {r : Nat} (hr : r < 60) : ((w >>> ((nI r).toInt64 &&& 63)) &&& 1 = 0) ↔ bit w r = false := by
  have e1 := sh_nt ⟨r, hr⟩
  dsimp only at e1
  have e2 : (w >>> ((nI r).toInt64 &&& 63)).toBitVec = w.toBitVec.sshiftRight r := by
    rw [Int64.toBitVec_shiftRight, BitVec.sshiftRight_eq', e1]
  have e3 : (w.toBitVec.sshiftRight r).getLsbD 0 = bit w r := by
    rw [BitVec.getLsbD_sshiftRight]
    simp [bit, show r < 64 by omega]
  have e4 : ∀ b : BitVec 64, (b &&& 1 = 0) ↔ b.getLsbD 0 = false := by
    intro b
    constructor
    · intro h1
      have h2 := congrArg (fun c => c.getLsbD 0) h1
      rw [BitVec.getLsbD_and] at h2
      simpa using h2
    · intro h1
      apply BitVec.eq_of_getLsbD_eq
      intro i hi
      rw [BitVec.getLsbD_and]
      by_cases c1 : i = 0
      · rw [c1, h1]; rfl
      · have : (1 : BitVec 64).getLsbD i = false := by
          rw [show (1 : BitVec 64) = 1#64 from rfl, BitVec.getLsbD_one]; simp [c1]
        rw [this]; simp
  rw [← e3, ← e4, ← e2, ← Int64.toBitVec_inj, Int64.toBitVec_and]
  exact Iff.rfl
theorem bit_wr {w : Int64} {r r' : Nat} (hr : r < 60) (hr' : r' < 60) : bit (w ||| (1 <<< ((nI r).toInt64 &&& 63))) r' = (if r' = r then true else bit w r') := by
  have e1 := sh_nt ⟨r, hr⟩
  dsimp only at e1
  unfold bit
  rw [Int64.toBitVec_or, Int64.toBitVec_shiftLeft, BitVec.shiftLeft_eq', e1, BitVec.getLsbD_or, BitVec.getLsbD_shiftLeft]
  by_cases c1 : r' = r
  · subst c1
    simp [show r' < 64 by omega]
  · have : r' < r ∨ (1 : Int64).toBitVec.getLsbD (r' - r) = false := by
      by_cases c2 : r' < r
      · exact Or.inl c2
      · right
        rw [show (1 : Int64).toBitVec = 1#64 from rfl, BitVec.getLsbD_one]; simp; omega
    rcases this with c2 | c2
    · simp [c1, c2]
    · rw [c2]; simp [c1]
theorem bit_0 {r : Nat} : bit 0 r = false := by
  unfold bit
  rw [show (0 : Int64).toBitVec = 0#64 from rfl, BitVec.getLsbD_zero]
def oC (h : Hp) (d : Nat) (vr : Nat → Int32) (ap : Nat → Bool) : Prop := ∃ w f, h (45, d, 0) = some (3, 0, fl [vR (46, d, 0), vL w]) ∧ h (46, d, 0) = some (20, 4, f) ∧ (∀ x, x < 4 → f x = vI (vr x)) ∧ ∀ r, r < 60 → bit w r = ap r
theorem oC.fr {h h' : Hp} {d : Nat} {vr : Nat → Int32} {ap : Nat → Bool} (O : oC h d vr ap) (h1 : h' (45, d, 0) = h (45, d, 0)) (h2 : h' (46, d, 0) = h (46, d, 0)) : oC h' d vr ap := by
  obtain ⟨w, f, o1, o2, o3, o4⟩ := O
  exact ⟨w, f, h1.trans o1, h2.trans o2, o3, o4⟩
def tC (h : Hp) (t : Nat → Int32) (n : Nat) : Prop := h (47, 0, 0) = some (10, 0, fl [vR (47, 1, 0), vR (47, 2, 0), vR (47, 3, 0), vI (nI n)]) ∧ ∃ f1 f2 f3, h (47, 1, 0) = some (20, 300, f1) ∧ h (47, 2, 0) = some (20, 300, f2) ∧ h (47, 3, 0) = some (20, 300, f3) ∧ ∀ i, i < n → f1 i = vI (t (3 * i)) ∧ f2 i = vI (t (3 * i + 1)) ∧ f3 i = vI (t (3 * i + 2))
theorem tC.fr {h h' : Hp} {t : Nat → Int32} {n : Nat} (I : tC h t n) (h1 : agT 47 47 h h') : tC h' t n := by
  obtain ⟨e1, f1, f2, f3, e2, e3, e4, e5⟩ := I
  exact ⟨(h1.g 47 0 0).trans e1, f1, f2, f3, (h1.g 47 1 0).trans e2, (h1.g 47 2 0).trans e3, (h1.g 47 3 0).trans e4, e5⟩
def uC (h : Hp) (e r : Int32) : Prop := h (44, 0, 0) = some (6, 0, fl [vR (11, 0, 0), vR (16, 0, 0), vR (38, 0, 0), vR (44, 1, 0), vR (47, 0, 0), vI e, vI r]) ∧ ∃ f, h (44, 1, 0) = some (24, 6, f) ∧ ∀ d, d < 6 → f d = vR (45, d, 0)
theorem uC.fr {h h' : Hp} {e r : Int32} (I : uC h e r) (h1 : agT 44 44 h h') : uC h' e r := by
  obtain ⟨e1, f, e2, e3⟩ := I
  exact ⟨(h1.g 44 0 0).trans e1, f, (h1.g 44 1 0).trans e2, e3⟩
theorem c_startWith {h : Hp} {b d : Nat} {f : Nat → PV} {vr vr0 : Nat → Int32} {ap0 : Nat → Bool} (e1 : h (19, b, 0) = some (20, 4, f)) (hf : ∀ x, x < 4 → f x = vI (vr x)) (O : oC h d vr0 ap0) :
    Con mOwn_startWith 1 0 0 [vR (45, d, 0), vR (19, b, 0)] h (fun v h' => v = none ∧ oC h' d vr (fun _ => false) ∧ ∀ n, n ≠ (45, d, 0) → n ≠ (46, d, 0) → h' n = h n) := by
  obtain ⟨w, g0, o1, o2, -, -⟩ := O
  have z0 : (0 : Int32).toNatClampNeg = 0 := by decide
  have z4 : (nI 4).toNatClampNeg = 4 := by decide
  have hel : ∀ i, i < (nI 4).toNatClampNeg → (20 = 20 → ∃ x, f ((0 : Int32).toNatClampNeg + i) = vI x) ∧ (20 = 22 → isOb h (f ((0 : Int32).toNatClampNeg + i))) := fun i hi1 => by
    rw [z4] at hi1
    rw [z0, Nat.zero_add]
    exact ⟨fun _ => ⟨_, hf i hi1⟩, fun q0 => by cases q0⟩
  refine c_enter (by decide +kernel) rfl rfl ?_
  refine s_aload_n dOwn_startWith_0 rfl rfl ?_
  refine s_iconst (v := 0) dOwn_startWith_1 (by decide) ?_
  refine s_aload_n dOwn_startWith_2 rfl rfl ?_
  refine s_get dOwn_startWith_3 gf_Own_9 (by repeat (first | exact up_self | assumption | rw [up_ne (by first | assumption | (intro q0; cases q0; done) | (intro q0; simp at q0; omega))])) ?_
  refine s_iconst (v := 0) dOwn_startWith_6 (by decide) ?_
  refine s_iconst (v := nI 4) dOwn_startWith_7 (by decide) ?_
  refine s_copy0 dOwn_startWith_8 cy_Own_15 e1 o2 (Or.inl rfl) rfl (by decide) (by decide) (by decide) (by decide) (by decide) hel rfl rfl ?_
  refine s_aload_n dOwn_startWith_11 rfl rfl ?_
  refine s_lconst (v := 0) dOwn_startWith_12 (by decide) ?_
  refine s_putF dOwn_startWith_13 gf_Own_21 (by repeat (first | exact up_self | assumption | rw [up_ne (by first | assumption | (intro q0; cases q0; done) | (intro q0; simp at q0; omega))])) (by first | rfl | assumption) rfl (by first | exact Or.inl rfl | exact Or.inr ⟨rfl, rfl⟩) (by first | exact ⟨_, rfl⟩ | exact Or.inl rfl | exact Or.inr rfl | assumption) ?_
  refine s_vret dOwn_startWith_16 rfl (by first | exact Nat.le_refl _ | decide | omega) (by first | exact Nat.le_refl _ | decide | omega) ?_
  refine ⟨rfl, ⟨0, _, up_self, (up_ne (fun q0 => by simp at q0)).trans up_self, fun x hx1 => ?_, fun r _ => bit_0⟩, fun n a1 a2 => by rw [up_ne a1, up_ne a2]⟩
  rw [z0, z4]
  unfold cpy
  rw [if_pos (by omega), show 0 + (x - 0) = x by omega]
  exact hf x hx1
theorem c_noteApplied {h : Hp} {d r : Nat} {vr : Nat → Int32} {ap : Nat → Bool} (hr : r < 60) (O : oC h d vr ap) :
    Con mOwn_noteApplied 0 0 0 [vR (45, d, 0), vI (nI r)] h (fun v h' => v = none ∧ oC h' d vr (ub ap r) ∧ ∀ n, n ≠ (45, d, 0) → h' n = h n) := by
  obtain ⟨w, f, o1, o2, o3, o4⟩ := O
  refine c_enter (by decide +kernel) rfl rfl ?_
  refine s_aload_n dOwn_noteApplied_0 rfl rfl ?_
  refine s_dup dOwn_noteApplied_1 rfl ?_
  refine s_get dOwn_noteApplied_2 gf_Own_21 (by repeat (first | exact up_self | assumption | rw [up_ne (by first | assumption | (intro q0; cases q0; done) | (intro q0; simp at q0; omega))])) ?_
  refine s_lconst (v := 1) dOwn_noteApplied_5 (by decide) ?_
  refine s_iload_n dOwn_noteApplied_6 rfl rfl ?_
  refine s_lshl dOwn_noteApplied_7 ?_
  refine s_lor dOwn_noteApplied_8 ?_
  refine s_putF dOwn_noteApplied_9 gf_Own_21 (by repeat (first | exact up_self | assumption | rw [up_ne (by first | assumption | (intro q0; cases q0; done) | (intro q0; simp at q0; omega))])) (by first | rfl | assumption) rfl (by first | exact Or.inl rfl | exact Or.inr ⟨rfl, rfl⟩) (by first | exact ⟨_, rfl⟩ | exact Or.inl rfl | exact Or.inr rfl | assumption) ?_
  refine s_vret dOwn_noteApplied_12 rfl (by first | exact Nat.le_refl _ | decide | omega) (by first | exact Nat.le_refl _ | decide | omega) ?_
  refine ⟨rfl, ⟨w ||| (1 <<< ((nI r).toInt64 &&& 63)), f, up_self, (up_ne (fun q0 => by simp at q0)).trans o2, o3, fun r' hr1 => ?_⟩, fun n a1 => up_ne a1⟩
  rw [bit_wr hr hr1, o4 r' hr1]
  rfl
theorem c_hasApplied {h : Hp} {d r : Nat} {vr : Nat → Int32} {ap : Nat → Bool} (hr : r < 60) (O : oC h d vr ap) : ConF mOwn_hasApplied 0 [vR (45, d, 0), vI (nI r)] h (some (vI (zi (ap r)))) h := by
  obtain ⟨w, f, o1, o2, o3, o4⟩ := O
  rw [← o4 r hr]
  refine c_enter (by decide +kernel) rfl rfl ?_
  cases c1 : bit w r with
  | true =>
    refine s_aload_n dOwn_hasApplied_0 rfl rfl ?_
    refine s_get dOwn_hasApplied_1 gf_Own_21 (by repeat (first | exact up_self | assumption | rw [up_ne (by first | assumption | (intro q0; cases q0; done) | (intro q0; simp at q0; omega))])) ?_
    refine s_iload_n dOwn_hasApplied_4 rfl rfl ?_
    refine s_lshr dOwn_hasApplied_5 ?_
    refine s_lconst (v := 1) dOwn_hasApplied_6 (by decide) ?_
    refine s_land dOwn_hasApplied_7 ?_
    refine s_lconst (v := 0) dOwn_hasApplied_8 (by decide) ?_
    refine s_lcmp dOwn_hasApplied_9 ?_
    refine s_if_eq dOwn_hasApplied_10 (fun q => absurd q (fun q0 => by rw [lg_cmp_eq, bit_rd hr, c1] at q0; cases q0)) (fun _ => ?_)
    refine s_iconst (v := 1) dOwn_hasApplied_13 (by decide) ?_
    refine s_goto dOwn_hasApplied_14 ?_
    refine s_zret dOwn_hasApplied_18 rfl (by first | exact Or.inl rfl | exact Or.inr rfl | assumption) (by first | exact Nat.le_refl _ | decide | omega) (by first | exact Nat.le_refl _ | decide | omega) ?_
    exact ⟨rfl, rfl⟩
  | false =>
    refine s_aload_n dOwn_hasApplied_0 rfl rfl ?_
    refine s_get dOwn_hasApplied_1 gf_Own_21 (by repeat (first | exact up_self | assumption | rw [up_ne (by first | assumption | (intro q0; cases q0; done) | (intro q0; simp at q0; omega))])) ?_
    refine s_iload_n dOwn_hasApplied_4 rfl rfl ?_
    refine s_lshr dOwn_hasApplied_5 ?_
    refine s_lconst (v := 1) dOwn_hasApplied_6 (by decide) ?_
    refine s_land dOwn_hasApplied_7 ?_
    refine s_lconst (v := 0) dOwn_hasApplied_8 (by decide) ?_
    refine s_lcmp dOwn_hasApplied_9 ?_
    refine s_if_eq dOwn_hasApplied_10 (fun _ => ?_) (fun q => absurd (by rw [lg_cmp_eq, bit_rd hr]; exact c1) q)
    refine s_iconst (v := 0) dOwn_hasApplied_17 (by decide) ?_
    refine s_zret dOwn_hasApplied_18 rfl (by first | exact Or.inl rfl | exact Or.inr rfl | assumption) (by first | exact Nat.le_refl _ | decide | omega) (by first | exact Nat.le_refl _ | decide | omega) ?_
    exact ⟨rfl, rfl⟩
theorem c_isFull {h : Hp} {t : Nat → Int32} {n : Nat} (I : tC h t n) (hn : n ≤ 300) : ConF mTrc_isFull 0 [vR (47, 0, 0)] h (some (vI (zi (decide (n = 300))))) h := by
  obtain ⟨e1, -⟩ := I
  refine c_enter (by decide +kernel) rfl rfl ?_
  by_cases c1 : n = 300
  · refine s_aload_n dTrc_isFull_0 rfl rfl ?_
    refine s_get dTrc_isFull_1 gf_Trc_21 (by repeat (first | exact up_self | assumption | rw [up_ne (by first | assumption | (intro q0; cases q0; done) | (intro q0; simp at q0; omega))])) ?_
    refine s_sipush (v := nI 300) dTrc_isFull_4 (by decide) ?_
    refine s_icmp_lt dTrc_isFull_7 (fun q => absurd q (nI_nlt (by omega) (by omega))) (fun _ => ?_)
    refine s_iconst (v := 1) dTrc_isFull_10 (by decide) ?_
    refine s_goto dTrc_isFull_11 ?_
    refine s_zret dTrc_isFull_15 rfl (by first | exact Or.inl rfl | exact Or.inr rfl | assumption) (by first | exact Nat.le_refl _ | decide | omega) (by first | exact Nat.le_refl _ | decide | omega) ?_
    exact ⟨by rw [zi_dec.1 c1], rfl⟩
  · refine s_aload_n dTrc_isFull_0 rfl rfl ?_
    refine s_get dTrc_isFull_1 gf_Trc_21 (by repeat (first | exact up_self | assumption | rw [up_ne (by first | assumption | (intro q0; cases q0; done) | (intro q0; simp at q0; omega))])) ?_
    refine s_sipush (v := nI 300) dTrc_isFull_4 (by decide) ?_
    refine s_icmp_lt dTrc_isFull_7 (fun _ => ?_) (fun q => absurd (nI_lt (show n < 300 by omega) (by omega)) q)
    refine s_iconst (v := 0) dTrc_isFull_14 (by decide) ?_
    refine s_zret dTrc_isFull_15 rfl (by first | exact Or.inl rfl | exact Or.inr rfl | assumption) (by first | exact Nat.le_refl _ | decide | omega) (by first | exact Nat.le_refl _ | decide | omega) ?_
    exact ⟨by rw [zi_dec.2 c1], rfl⟩
theorem c_Trc_add {h : Hp} {t : Nat → Int32} {n d : Nat} {r : Int32} {b : Bool} (I : tC h t n) (hn : n < 300) : Con mTrc_add 1 0 0 [vR (47, 0, 0), vI r, vI (zi b), vI (nI d)] h (fun v h' => v = none ∧ fT [47] h h' ∧ tC h' (uf (uf (uf t (3 * n) r) (3 * n + 1) (zi b)) (3 * n + 2) (nI d)) (n + 1)) := by
  obtain ⟨e1, f1, f2, f3, e2, e3, e4, e5⟩ := I
  have ezb : ∀ h : Hp, ConF mX_asNumber 0 [vI (zi b)] h (some (vI (zi b))) h := fun h => c_asN
  refine c_enter (by decide +kernel) rfl rfl ?_
  refine s_aload_n dTrc_add_0 rfl rfl ?_
  refine s_get dTrc_add_1 gf_Trc_9 (by repeat (first | exact up_self | assumption | rw [up_ne (by first | assumption | (intro q0; cases q0; done) | (intro q0; simp at q0; omega))])) ?_
  refine s_aload_n dTrc_add_4 rfl rfl ?_
  refine s_get dTrc_add_5 gf_Trc_21 (by repeat (first | exact up_self | assumption | rw [up_ne (by first | assumption | (intro q0; cases q0; done) | (intro q0; simp at q0; omega))])) ?_
  refine s_iload_n dTrc_add_8 rfl rfl ?_
  refine s_iastN dTrc_add_9 (by repeat (first | exact up_self | assumption | rw [up_ne (by first | assumption | (intro q0; cases q0; done) | (intro q0; simp at q0; omega))])) (by first | rfl | assumption) (by omega) (by omega) ?_
  refine s_aload_n dTrc_add_10 rfl rfl ?_
  refine s_get dTrc_add_11 gf_Trc_15 (by repeat (first | exact up_self | assumption | rw [up_ne (by first | assumption | (intro q0; cases q0; done) | (intro q0; simp at q0; omega))])) ?_
  refine s_aload_n dTrc_add_14 rfl rfl ?_
  refine s_get dTrc_add_15 gf_Trc_21 (by repeat (first | exact up_self | assumption | rw [up_ne (by first | assumption | (intro q0; cases q0; done) | (intro q0; simp at q0; omega))])) ?_
  refine s_iload_n dTrc_add_18 rfl rfl ?_
  refine s_t1 dTrc_add_19 cs_Trc_25 (ezb _) rfl rfl rfl rfl ?_
  refine s_iastN dTrc_add_22 (by repeat (first | exact up_self | assumption | rw [up_ne (by first | assumption | (intro q0; cases q0; done) | (intro q0; simp at q0; omega))])) (by first | rfl | assumption) (by omega) (by omega) ?_
  refine s_aload_n dTrc_add_23 rfl rfl ?_
  refine s_get dTrc_add_24 gf_Trc_18 (by repeat (first | exact up_self | assumption | rw [up_ne (by first | assumption | (intro q0; cases q0; done) | (intro q0; simp at q0; omega))])) ?_
  refine s_aload_n dTrc_add_27 rfl rfl ?_
  refine s_get dTrc_add_28 gf_Trc_21 (by repeat (first | exact up_self | assumption | rw [up_ne (by first | assumption | (intro q0; cases q0; done) | (intro q0; simp at q0; omega))])) ?_
  refine s_iload_n dTrc_add_31 rfl rfl ?_
  refine s_iastN dTrc_add_32 (by repeat (first | exact up_self | assumption | rw [up_ne (by first | assumption | (intro q0; cases q0; done) | (intro q0; simp at q0; omega))])) (by first | rfl | assumption) (by omega) (by omega) ?_
  refine s_aload_n dTrc_add_33 rfl rfl ?_
  refine s_dup dTrc_add_34 rfl ?_
  refine s_get dTrc_add_35 gf_Trc_21 (by repeat (first | exact up_self | assumption | rw [up_ne (by first | assumption | (intro q0; cases q0; done) | (intro q0; simp at q0; omega))])) ?_
  refine s_iconst (v := nI 1) dTrc_add_38 (by decide) ?_
  first | refine s_iaddN dTrc_add_39 ?_ | refine s_iadd dTrc_add_39 ?_
  refine s_putF dTrc_add_40 gf_Trc_21 (by repeat (first | exact up_self | assumption | rw [up_ne (by first | assumption | (intro q0; cases q0; done) | (intro q0; simp at q0; omega))])) (by first | rfl | assumption) rfl (by first | exact Or.inl rfl | exact Or.inr ⟨rfl, rfl⟩) (by first | exact ⟨_, rfl⟩ | exact Or.inl rfl | exact Or.inr rfl | assumption) ?_
  refine s_vret dTrc_add_43 rfl (by first | exact Nat.le_refl _ | decide | omega) (by first | exact Nat.le_refl _ | decide | omega) ?_
  refine ⟨rfl, ((((fT.rf.v).v).v).v), up_self, _, _, _, (up_ne (fun q0 => by simp at q0)).trans ((up_ne (fun q0 => by simp at q0)).trans ((up_ne (fun q0 => by simp at q0)).trans up_self)), (up_ne (fun q0 => by simp at q0)).trans ((up_ne (fun q0 => by simp at q0)).trans up_self), (up_ne (fun q0 => by simp at q0)).trans up_self, fun i hi1 => ?_⟩
  unfold upf uf
  by_cases c1 : i = n
  · subst c1
    simp
  · have e6 := e5 i (by omega)
    simp only [if_neg c1, if_neg (show ¬ 3 * i = 3 * n + 2 by omega), if_neg (show ¬ 3 * i = 3 * n + 1 by omega), if_neg (show ¬ 3 * i = 3 * n by omega), if_neg (show ¬ 3 * i + 1 = 3 * n + 2 by omega), if_neg (show ¬ 3 * i + 1 = 3 * n + 1 by omega), if_neg (show ¬ 3 * i + 1 = 3 * n by omega), if_neg (show ¬ 3 * i + 2 = 3 * n + 2 by omega), if_neg (show ¬ 3 * i + 2 = 3 * n + 1 by omega), if_neg (show ¬ 3 * i + 2 = 3 * n by omega)]
    exact e6
theorem c_Trc_at {h : Hp} {σ : Sg} {n : Nat} (i w : Int32) (I : tC h (σ 28) n) (hn : n ≤ 300) : ConF mTrc_at 0 [vR (47, 0, 0), vI i, vI w] h (some (vI (fTrace σ i w n))) h := by
  obtain ⟨e1, f1, f2, f3, e2, e3, e4, e5⟩ := I
  unfold fTrace
  refine c_enter (by decide +kernel) rfl rfl ?_
  rcases iy_cases i (K := n) (by omega) with ⟨q1, hz⟩ | ⟨j, hj, rfl, q1⟩
  · rw [q1]
    rcases hz with ⟨z1, -⟩ | ⟨-, hn1⟩
    · cases z1
    · by_cases c1 : i < 0
      · refine s_iload_n dTrc_at_0 rfl rfl ?_
        refine s_if_lt dTrc_at_1 (fun _ => ?_) (fun q => absurd c1 q)
        refine s_bipush (v := (-4)) dTrc_at_12 (by decide) ?_
        refine s_iret dTrc_at_14 rfl (by first | exact Nat.le_refl _ | decide | omega) (by first | exact Nat.le_refl _ | decide | omega) ?_
        exact ⟨rfl, rfl⟩
      · refine s_iload_n dTrc_at_0 rfl rfl ?_
        refine s_if_lt dTrc_at_1 (fun q => absurd q c1) (fun _ => ?_)
        refine s_iload_n dTrc_at_4 rfl rfl ?_
        refine s_aload_n dTrc_at_5 rfl rfl ?_
        refine s_get dTrc_at_6 gf_Trc_21 (by repeat (first | exact up_self | assumption | rw [up_ne (by first | assumption | (intro q0; cases q0; done) | (intro q0; simp at q0; omega))])) ?_
        refine s_icmp_lt dTrc_at_9 (fun q => absurd q (fun z1 => hn1 ⟨Int32.not_lt.mp c1, z1⟩)) (fun _ => ?_)
        refine s_bipush (v := (-4)) dTrc_at_12 (by decide) ?_
        refine s_iret dTrc_at_14 rfl (by first | exact Nat.le_refl _ | decide | omega) (by first | exact Nat.le_refl _ | decide | omega) ?_
        exact ⟨rfl, rfl⟩
  · rw [q1]
    obtain ⟨a1, a2, a3⟩ := e5 j hj
    rcases iy_cases w (K := 3) (by omega) with ⟨q2, hz⟩ | ⟨k, hk, rfl, q2⟩
    · rw [q2]
      have h1 : w.toInt < 0 ∨ 2 < w.toInt := by
        rcases hz with ⟨z1, -⟩ | ⟨-, hz⟩
        · cases z1
        · by_cases c1 : w < 0
          · left
            have c2 := Int32.lt_iff_toInt_lt.mp c1
            have e0 : (0 : Int32).toInt = 0 := by decide
            omega
          · right
            have c3 : nI 3 ≤ w := Int32.not_lt.mp fun z1 => hz ⟨Int32.not_lt.mp c1, z1⟩
            rw [Int32.le_iff_toInt_le, nI_toInt (by omega)] at c3
            omega
      refine s_iload_n dTrc_at_0 rfl rfl ?_
      refine s_if_lt dTrc_at_1 (fun q => absurd q (nI_nlt (b := 0) (by omega) (by omega))) (fun _ => ?_)
      refine s_iload_n dTrc_at_4 rfl rfl ?_
      refine s_aload_n dTrc_at_5 rfl rfl ?_
      refine s_get dTrc_at_6 gf_Trc_21 (by repeat (first | exact up_self | assumption | rw [up_ne (by first | assumption | (intro q0; cases q0; done) | (intro q0; simp at q0; omega))])) ?_
      refine s_icmp_lt dTrc_at_9 (fun _ => ?_) (fun q => absurd (nI_lt hj (by omega)) q)
      refine s_iload_n dTrc_at_15 rfl rfl ?_
      refine s_tabOut (tgt := 65) dTrc_at_16 (by rcases h1 with h1 | h1; exact Or.inl h1; exact Or.inr h1) (by decide) ?_
      refine s_bipush (v := (-4)) dTrc_at_65 (by decide) ?_
      refine s_iret dTrc_at_67 rfl (by first | exact Nat.le_refl _ | decide | omega) (by first | exact Nat.le_refl _ | decide | omega) ?_
      exact ⟨rfl, rfl⟩
    · rw [q2]
      dsimp only
      rcases (show k = 0 ∨ k = 1 ∨ k = 2 by omega) with rfl | rfl | rfl
      · refine s_iload_n dTrc_at_0 rfl rfl ?_
        refine s_if_lt dTrc_at_1 (fun q => absurd q (nI_nlt (b := 0) (by omega) (by omega))) (fun _ => ?_)
        refine s_iload_n dTrc_at_4 rfl rfl ?_
        refine s_aload_n dTrc_at_5 rfl rfl ?_
        refine s_get dTrc_at_6 gf_Trc_21 (by repeat (first | exact up_self | assumption | rw [up_ne (by first | assumption | (intro q0; cases q0; done) | (intro q0; simp at q0; omega))])) ?_
        refine s_icmp_lt dTrc_at_9 (fun _ => ?_) (fun q => absurd (nI_lt hj (by omega)) q)
        refine s_iload_n dTrc_at_15 rfl rfl ?_
        refine s_tabIn (off := 28) (tgt := 44) dTrc_at_16 (by decide +kernel) (by decide +kernel) (by decide +kernel) (by decide) ?_
        refine s_aload_n dTrc_at_44 rfl rfl ?_
        refine s_get dTrc_at_45 gf_Trc_9 (by repeat (first | exact up_self | assumption | rw [up_ne (by first | assumption | (intro q0; cases q0; done) | (intro q0; simp at q0; omega))])) ?_
        refine s_iload_n dTrc_at_48 rfl rfl ?_
        refine s_ialdN dTrc_at_49 (by repeat (first | exact up_self | assumption | rw [up_ne (by first | assumption | (intro q0; cases q0; done) | (intro q0; simp at q0; omega))])) (by omega) (by omega) ?_
        refine s_tv a1 ?_
        refine s_iret dTrc_at_50 rfl (by first | exact Nat.le_refl _ | decide | omega) (by first | exact Nat.le_refl _ | decide | omega) ?_
        exact ⟨rfl, rfl⟩
      · refine s_iload_n dTrc_at_0 rfl rfl ?_
        refine s_if_lt dTrc_at_1 (fun q => absurd q (nI_nlt (b := 0) (by omega) (by omega))) (fun _ => ?_)
        refine s_iload_n dTrc_at_4 rfl rfl ?_
        refine s_aload_n dTrc_at_5 rfl rfl ?_
        refine s_get dTrc_at_6 gf_Trc_21 (by repeat (first | exact up_self | assumption | rw [up_ne (by first | assumption | (intro q0; cases q0; done) | (intro q0; simp at q0; omega))])) ?_
        refine s_icmp_lt dTrc_at_9 (fun _ => ?_) (fun q => absurd (nI_lt hj (by omega)) q)
        refine s_iload_n dTrc_at_15 rfl rfl ?_
        refine s_tabIn (off := 35) (tgt := 51) dTrc_at_16 (by decide +kernel) (by decide +kernel) (by decide +kernel) (by decide) ?_
        refine s_aload_n dTrc_at_51 rfl rfl ?_
        refine s_get dTrc_at_52 gf_Trc_15 (by repeat (first | exact up_self | assumption | rw [up_ne (by first | assumption | (intro q0; cases q0; done) | (intro q0; simp at q0; omega))])) ?_
        refine s_iload_n dTrc_at_55 rfl rfl ?_
        refine s_ialdN dTrc_at_56 (by repeat (first | exact up_self | assumption | rw [up_ne (by first | assumption | (intro q0; cases q0; done) | (intro q0; simp at q0; omega))])) (by omega) (by omega) ?_
        refine s_tv a2 ?_
        refine s_iret dTrc_at_57 rfl (by first | exact Nat.le_refl _ | decide | omega) (by first | exact Nat.le_refl _ | decide | omega) ?_
        exact ⟨rfl, rfl⟩
      · refine s_iload_n dTrc_at_0 rfl rfl ?_
        refine s_if_lt dTrc_at_1 (fun q => absurd q (nI_nlt (b := 0) (by omega) (by omega))) (fun _ => ?_)
        refine s_iload_n dTrc_at_4 rfl rfl ?_
        refine s_aload_n dTrc_at_5 rfl rfl ?_
        refine s_get dTrc_at_6 gf_Trc_21 (by repeat (first | exact up_self | assumption | rw [up_ne (by first | assumption | (intro q0; cases q0; done) | (intro q0; simp at q0; omega))])) ?_
        refine s_icmp_lt dTrc_at_9 (fun _ => ?_) (fun q => absurd (nI_lt hj (by omega)) q)
        refine s_iload_n dTrc_at_15 rfl rfl ?_
        refine s_tabIn (off := 42) (tgt := 58) dTrc_at_16 (by decide +kernel) (by decide +kernel) (by decide +kernel) (by decide) ?_
        refine s_aload_n dTrc_at_58 rfl rfl ?_
        refine s_get dTrc_at_59 gf_Trc_18 (by repeat (first | exact up_self | assumption | rw [up_ne (by first | assumption | (intro q0; cases q0; done) | (intro q0; simp at q0; omega))])) ?_
        refine s_iload_n dTrc_at_62 rfl rfl ?_
        refine s_ialdN dTrc_at_63 (by repeat (first | exact up_self | assumption | rw [up_ne (by first | assumption | (intro q0; cases q0; done) | (intro q0; simp at q0; omega))])) (by omega) (by omega) ?_
        refine s_tv a3 ?_
        refine s_iret dTrc_at_64 rfl (by first | exact Nat.le_refl _ | decide | omega) (by first | exact Nat.le_refl _ | decide | omega) ?_
        exact ⟨rfl, rfl⟩
theorem c_Run_err {h : Hp} {σ : Sg} {R r : Nat} {e0 r0 e : Int32} (U : uC h e0 r0) (Ir : rC h σ R) (hr : r < R) : Con mRun_err 0 0 0 [vR (44, 0, 0), vI e, vR (28, r, 0)] h (fun v h' => v = some (vI 0) ∧ uC h' e (nI r) ∧ ∀ n, n ≠ (44, 0, 0) → h' n = h n) := by
  obtain ⟨u1, f, u2, u3⟩ := U
  obtain ⟨⟨b, hw, mk, eb, hb12, er, ehw⟩, -⟩ := Ir.2.1 r hr
  unfold ruL at er
  refine c_enter (by decide +kernel) rfl rfl ?_
  refine s_aload_n dRun_err_0 rfl rfl ?_
  refine s_iload_n dRun_err_1 rfl rfl ?_
  refine s_putF dRun_err_2 gf_Run_70 (by repeat (first | exact up_self | assumption | rw [up_ne (by first | assumption | (intro q0; cases q0; done) | (intro q0; simp at q0; omega))])) (by first | rfl | assumption) rfl (by first | exact Or.inl rfl | exact Or.inr ⟨rfl, rfl⟩) (by first | exact ⟨_, rfl⟩ | exact Or.inl rfl | exact Or.inr rfl | assumption) ?_
  refine s_aload_n dRun_err_5 rfl rfl ?_
  refine s_aload_n dRun_err_6 rfl rfl ?_
  refine s_get dRun_err_7 gf_Run_107 (by repeat (first | exact up_self | assumption | rw [up_ne (by first | assumption | (intro q0; cases q0; done) | (intro q0; simp at q0; omega))])) ?_
  refine s_putF dRun_err_10 gf_Run_73 (by repeat (first | exact up_self | assumption | rw [up_ne (by first | assumption | (intro q0; cases q0; done) | (intro q0; simp at q0; omega))])) (by first | rfl | assumption) rfl (by first | exact Or.inl rfl | exact Or.inr ⟨rfl, rfl⟩) (by first | exact ⟨_, rfl⟩ | exact Or.inl rfl | exact Or.inr rfl | assumption) ?_
  refine s_iconst (v := 0) dRun_err_13 (by decide) ?_
  refine s_iret dRun_err_14 rfl (by first | exact Nat.le_refl _ | decide | omega) (by first | exact Nat.le_refl _ | decide | omega) ?_
  refine ⟨rfl, ?_⟩
  simp only [up_up]
  exact ⟨⟨up_self, f, (up_ne (fun q0 => by simp at q0)).trans u2, u3⟩, fun n a1 => up_ne a1⟩
theorem c_isOn {h : Hp} {σ : Sg} {NS x : Nat} (I : nC h σ NS) (hN : NS ≤ 8) (h42 : ∀ x, x < NS → σ 42 x = 0 ∨ σ 42 x = 1) (hx : x < NS) : ConF mScs_isOn 3 [vR (38, 0, 0), vI (nI x)] h (some (vI (zi (decide (σ 42 x = 1))))) h := by
  have e1 := I.1.1
  obtain ⟨a1, -⟩ := I.2.2.1 x hx
  have hb1 := h42 x hx
  obtain ⟨cap, z, f, e2, -⟩ := id I.2.1
  have ev : σ 42 x = zi (decide (σ 42 x = 1)) := by
    rcases hb1 with q1 | q1
    · rw [zi_dec.2 (by rw [q1]; decide), q1]
    · rw [zi_dec.1 q1, q1]
  refine c_enter (by decide +kernel) rfl rfl ?_
  refine s_aload_n dScs_isOn_0 rfl rfl ?_
  refine s_get dScs_isOn_1 gf_Scs_12 (by repeat (first | exact up_self | assumption | rw [up_ne (by first | assumption | (intro q0; cases q0; done) | (intro q0; simp at q0; omega))])) ?_
  refine s_iload_n dScs_isOn_4 rfl rfl ?_
  refine s_v1 dScs_isOn_5 cv_Scs_38 (by repeat (first | exact up_self | assumption | rw [up_ne (by first | assumption | (intro q0; cases q0; done) | (intro q0; simp at q0; omega))])) (c_get I.2.1 (nmL_get hx)) rfl rfl rfl rfl ?_
  refine s_cast dScs_isOn_8 (by decide) (nw_Scs_29).2.1 (by repeat (first | exact up_self | assumption | rw [up_ne (by first | assumption | (intro q0; cases q0; done) | (intro q0; simp at q0; omega))])) ?_
  refine s_get dScs_isOn_11 gf_Scs_42 (by repeat (first | exact up_self | assumption | rw [up_ne (by first | assumption | (intro q0; cases q0; done) | (intro q0; simp at q0; omega))])) ?_
  refine s_zret dScs_isOn_14 rfl (by first | exact Or.inl rfl | exact Or.inr rfl | assumption) (by first | exact Nat.le_refl _ | decide | omega) (by first | exact Nat.le_refl _ | decide | omega) ?_
  exact ⟨by rw [← ev], rfl⟩
theorem c_Run_isSo {h : Hp} {σ : Sg} {K N NS R r k s d c x : Nat} {y ct e r0 : Int32} {v vr : Nat → Int32} {ap : Nat → Bool} (U : uC h e r0) (Ik : kC h σ K) (P : KP σ K) (S1 : SK σ N K) (Is : sC h σ v N) (In : nC h σ NS) (hNS : NS ≤ 8) (h42 : ∀ x, x < NS → σ 42 x = 0 ∨ σ 42 x = 1) (O : oC h d vr ap) (hs : s < N) (hR : R ≤ 60) (hc : c ≤ 6) (hx : xOk c x K NS R)
    (e31 : h (31, r, k) = some (1, 0, fl [vI (nI c), vI ct, vI (nI x), vI y])) :
    ConF mRun_isSo 4 [vR (44, 0, 0), vR (31, r, k), vR (14, s, 0), vR (45, d, 0)] h (some (vI (zi (soP σ c x y s v vr ap)))) h := by
  obtain ⟨hN, S2⟩ := S1
  obtain ⟨k1, hk1, ek1⟩ := S2 s hs
  have hK := P.2.1
  have u1 := U.1
  have ek := Ik.1
  have en := In.1.1
  obtain ⟨a1, f, a2, a3⟩ := Is.2.1 s hs
  have O0 := O
  obtain ⟨w, g, o1, o2, o3, o4⟩ := O
  refine c_enter (by decide +kernel) rfl rfl ?_
  match c, hc with
  | 0, _ =>
    have hx1 : x < K := hx
    have e1 : soP σ 0 x y s v vr ap = und σ 20 k1 x := by show und σ 20 (nt (σ 3 s)) x = _; rw [ek1, nt_nI (by omega)]
    rw [e1]
    have hb1 := zi_b (und σ 20 k1 x)
    refine s_aload_n dRun_isSo_0 rfl rfl ?_
    refine s_get dRun_isSo_1 gf_Run_131 (by repeat (first | exact up_self | assumption | rw [up_ne (by first | assumption | (intro q0; cases q0; done) | (intro q0; simp at q0; omega))])) ?_
    refine s_istore dRun_isSo_4 rfl ?_
    refine s_aload_n dRun_isSo_6 rfl rfl ?_
    refine s_get dRun_isSo_7 gf_Run_134 (by repeat (first | exact up_self | assumption | rw [up_ne (by first | assumption | (intro q0; cases q0; done) | (intro q0; simp at q0; omega))])) ?_
    refine s_tabIn (off := 42) (tgt := 52) dRun_isSo_10 (by decide +kernel) (by decide +kernel) (by decide +kernel) (by decide) ?_
    refine s_aload_n dRun_isSo_52 rfl rfl ?_
    refine s_get dRun_isSo_53 gf_Run_24 (by repeat (first | exact up_self | assumption | rw [up_ne (by first | assumption | (intro q0; cases q0; done) | (intro q0; simp at q0; omega))])) ?_
    refine s_aload_n dRun_isSo_56 rfl rfl ?_
    refine s_get dRun_isSo_57 gf_Run_137 (by repeat (first | exact up_self | assumption | rw [up_ne (by first | assumption | (intro q0; cases q0; done) | (intro q0; simp at q0; omega))])) ?_
    refine s_tv (congrArg vI ek1) ?_
    refine s_iload dRun_isSo_60 rfl ?_
    refine s_v2 dRun_isSo_62 cv_Run_142 (by repeat (first | exact up_self | assumption | rw [up_ne (by first | assumption | (intro q0; cases q0; done) | (intro q0; simp at q0; omega))])) (c_isUnder Ik P hk1 hx1) rfl rfl rfl rfl ?_
    refine s_zret dRun_isSo_65 rfl (by first | exact Or.inl rfl | exact Or.inr rfl | assumption) (by first | exact Nat.le_refl _ | decide | omega) (by first | exact Nat.le_refl _ | decide | omega) ?_
    exact ⟨rfl, rfl⟩
  | 1, _ =>
    have hx1 : x < 4 := hx
    by_cases c1 : v (4 * s + x) = y
    · refine s_aload_n dRun_isSo_0 rfl rfl ?_
      refine s_get dRun_isSo_1 gf_Run_131 (by repeat (first | exact up_self | assumption | rw [up_ne (by first | assumption | (intro q0; cases q0; done) | (intro q0; simp at q0; omega))])) ?_
      refine s_istore dRun_isSo_4 rfl ?_
      refine s_aload_n dRun_isSo_6 rfl rfl ?_
      refine s_get dRun_isSo_7 gf_Run_134 (by repeat (first | exact up_self | assumption | rw [up_ne (by first | assumption | (intro q0; cases q0; done) | (intro q0; simp at q0; omega))])) ?_
      refine s_tabIn (off := 56) (tgt := 66) dRun_isSo_10 (by decide +kernel) (by decide +kernel) (by decide +kernel) (by decide) ?_
      refine s_aload_n dRun_isSo_66 rfl rfl ?_
      refine s_get dRun_isSo_67 gf_Run_148 (by repeat (first | exact up_self | assumption | rw [up_ne (by first | assumption | (intro q0; cases q0; done) | (intro q0; simp at q0; omega))])) ?_
      refine s_iload dRun_isSo_70 rfl ?_
      refine s_ialdN dRun_isSo_72 (by repeat (first | exact up_self | assumption | rw [up_ne (by first | assumption | (intro q0; cases q0; done) | (intro q0; simp at q0; omega))])) (by omega) (by omega) ?_
      refine s_tv (a3 x hx1) ?_
      refine s_aload_n dRun_isSo_73 rfl rfl ?_
      refine s_get dRun_isSo_74 gf_Run_151 (by repeat (first | exact up_self | assumption | rw [up_ne (by first | assumption | (intro q0; cases q0; done) | (intro q0; simp at q0; omega))])) ?_
      refine s_icmp_ne dRun_isSo_77 (fun q => absurd c1 q) (fun _ => ?_)
      refine s_iconst (v := 1) dRun_isSo_80 (by decide) ?_
      refine s_goto dRun_isSo_81 ?_
      refine s_zret dRun_isSo_85 rfl (by first | exact Or.inl rfl | exact Or.inr rfl | assumption) (by first | exact Nat.le_refl _ | decide | omega) (by first | exact Nat.le_refl _ | decide | omega) ?_
      exact ⟨by rw [show soP σ 1 x y s v vr ap = decide (v (4 * s + x) = y) from rfl, zi_dec.1 c1], rfl⟩
    · refine s_aload_n dRun_isSo_0 rfl rfl ?_
      refine s_get dRun_isSo_1 gf_Run_131 (by repeat (first | exact up_self | assumption | rw [up_ne (by first | assumption | (intro q0; cases q0; done) | (intro q0; simp at q0; omega))])) ?_
      refine s_istore dRun_isSo_4 rfl ?_
      refine s_aload_n dRun_isSo_6 rfl rfl ?_
      refine s_get dRun_isSo_7 gf_Run_134 (by repeat (first | exact up_self | assumption | rw [up_ne (by first | assumption | (intro q0; cases q0; done) | (intro q0; simp at q0; omega))])) ?_
      refine s_tabIn (off := 56) (tgt := 66) dRun_isSo_10 (by decide +kernel) (by decide +kernel) (by decide +kernel) (by decide) ?_
      refine s_aload_n dRun_isSo_66 rfl rfl ?_
      refine s_get dRun_isSo_67 gf_Run_148 (by repeat (first | exact up_self | assumption | rw [up_ne (by first | assumption | (intro q0; cases q0; done) | (intro q0; simp at q0; omega))])) ?_
      refine s_iload dRun_isSo_70 rfl ?_
      refine s_ialdN dRun_isSo_72 (by repeat (first | exact up_self | assumption | rw [up_ne (by first | assumption | (intro q0; cases q0; done) | (intro q0; simp at q0; omega))])) (by omega) (by omega) ?_
      refine s_tv (a3 x hx1) ?_
      refine s_aload_n dRun_isSo_73 rfl rfl ?_
      refine s_get dRun_isSo_74 gf_Run_151 (by repeat (first | exact up_self | assumption | rw [up_ne (by first | assumption | (intro q0; cases q0; done) | (intro q0; simp at q0; omega))])) ?_
      refine s_icmp_ne dRun_isSo_77 (fun _ => ?_) (fun q => absurd q c1)
      refine s_iconst (v := 0) dRun_isSo_84 (by decide) ?_
      refine s_zret dRun_isSo_85 rfl (by first | exact Or.inl rfl | exact Or.inr rfl | assumption) (by first | exact Nat.le_refl _ | decide | omega) (by first | exact Nat.le_refl _ | decide | omega) ?_
      exact ⟨by rw [show soP σ 1 x y s v vr ap = decide (v (4 * s + x) = y) from rfl, zi_dec.2 c1], rfl⟩
  | 2, _ =>
    have hx1 : x < 4 := hx
    by_cases c1 : y < v (4 * s + x)
    · refine s_aload_n dRun_isSo_0 rfl rfl ?_
      refine s_get dRun_isSo_1 gf_Run_131 (by repeat (first | exact up_self | assumption | rw [up_ne (by first | assumption | (intro q0; cases q0; done) | (intro q0; simp at q0; omega))])) ?_
      refine s_istore dRun_isSo_4 rfl ?_
      refine s_aload_n dRun_isSo_6 rfl rfl ?_
      refine s_get dRun_isSo_7 gf_Run_134 (by repeat (first | exact up_self | assumption | rw [up_ne (by first | assumption | (intro q0; cases q0; done) | (intro q0; simp at q0; omega))])) ?_
      refine s_tabIn (off := 76) (tgt := 86) dRun_isSo_10 (by decide +kernel) (by decide +kernel) (by decide +kernel) (by decide) ?_
      refine s_aload_n dRun_isSo_86 rfl rfl ?_
      refine s_get dRun_isSo_87 gf_Run_148 (by repeat (first | exact up_self | assumption | rw [up_ne (by first | assumption | (intro q0; cases q0; done) | (intro q0; simp at q0; omega))])) ?_
      refine s_iload dRun_isSo_90 rfl ?_
      refine s_ialdN dRun_isSo_92 (by repeat (first | exact up_self | assumption | rw [up_ne (by first | assumption | (intro q0; cases q0; done) | (intro q0; simp at q0; omega))])) (by omega) (by omega) ?_
      refine s_tv (a3 x hx1) ?_
      refine s_aload_n dRun_isSo_93 rfl rfl ?_
      refine s_get dRun_isSo_94 gf_Run_151 (by repeat (first | exact up_self | assumption | rw [up_ne (by first | assumption | (intro q0; cases q0; done) | (intro q0; simp at q0; omega))])) ?_
      refine s_icmp_le dRun_isSo_97 (fun q => absurd q (Int32.not_le.mpr c1)) (fun _ => ?_)
      refine s_iconst (v := 1) dRun_isSo_100 (by decide) ?_
      refine s_goto dRun_isSo_101 ?_
      refine s_zret dRun_isSo_105 rfl (by first | exact Or.inl rfl | exact Or.inr rfl | assumption) (by first | exact Nat.le_refl _ | decide | omega) (by first | exact Nat.le_refl _ | decide | omega) ?_
      exact ⟨by rw [show soP σ 2 x y s v vr ap = decide (y < v (4 * s + x)) from rfl, zi_dec.1 c1], rfl⟩
    · refine s_aload_n dRun_isSo_0 rfl rfl ?_
      refine s_get dRun_isSo_1 gf_Run_131 (by repeat (first | exact up_self | assumption | rw [up_ne (by first | assumption | (intro q0; cases q0; done) | (intro q0; simp at q0; omega))])) ?_
      refine s_istore dRun_isSo_4 rfl ?_
      refine s_aload_n dRun_isSo_6 rfl rfl ?_
      refine s_get dRun_isSo_7 gf_Run_134 (by repeat (first | exact up_self | assumption | rw [up_ne (by first | assumption | (intro q0; cases q0; done) | (intro q0; simp at q0; omega))])) ?_
      refine s_tabIn (off := 76) (tgt := 86) dRun_isSo_10 (by decide +kernel) (by decide +kernel) (by decide +kernel) (by decide) ?_
      refine s_aload_n dRun_isSo_86 rfl rfl ?_
      refine s_get dRun_isSo_87 gf_Run_148 (by repeat (first | exact up_self | assumption | rw [up_ne (by first | assumption | (intro q0; cases q0; done) | (intro q0; simp at q0; omega))])) ?_
      refine s_iload dRun_isSo_90 rfl ?_
      refine s_ialdN dRun_isSo_92 (by repeat (first | exact up_self | assumption | rw [up_ne (by first | assumption | (intro q0; cases q0; done) | (intro q0; simp at q0; omega))])) (by omega) (by omega) ?_
      refine s_tv (a3 x hx1) ?_
      refine s_aload_n dRun_isSo_93 rfl rfl ?_
      refine s_get dRun_isSo_94 gf_Run_151 (by repeat (first | exact up_self | assumption | rw [up_ne (by first | assumption | (intro q0; cases q0; done) | (intro q0; simp at q0; omega))])) ?_
      refine s_icmp_le dRun_isSo_97 (fun _ => ?_) (fun q => absurd (Int32.not_lt.mp c1) q)
      refine s_iconst (v := 0) dRun_isSo_104 (by decide) ?_
      refine s_zret dRun_isSo_105 rfl (by first | exact Or.inl rfl | exact Or.inr rfl | assumption) (by first | exact Nat.le_refl _ | decide | omega) (by first | exact Nat.le_refl _ | decide | omega) ?_
      exact ⟨by rw [show soP σ 2 x y s v vr ap = decide (y < v (4 * s + x)) from rfl, zi_dec.2 c1], rfl⟩
  | 3, _ =>
    have hx1 : x < 4 := hx
    by_cases c1 : vr x = y
    · refine s_aload_n dRun_isSo_0 rfl rfl ?_
      refine s_get dRun_isSo_1 gf_Run_131 (by repeat (first | exact up_self | assumption | rw [up_ne (by first | assumption | (intro q0; cases q0; done) | (intro q0; simp at q0; omega))])) ?_
      refine s_istore dRun_isSo_4 rfl ?_
      refine s_aload_n dRun_isSo_6 rfl rfl ?_
      refine s_get dRun_isSo_7 gf_Run_134 (by repeat (first | exact up_self | assumption | rw [up_ne (by first | assumption | (intro q0; cases q0; done) | (intro q0; simp at q0; omega))])) ?_
      refine s_tabIn (off := 96) (tgt := 106) dRun_isSo_10 (by decide +kernel) (by decide +kernel) (by decide +kernel) (by decide) ?_
      refine s_aload_n dRun_isSo_106 rfl rfl ?_
      refine s_get dRun_isSo_107 gf_Run_154 (by repeat (first | exact up_self | assumption | rw [up_ne (by first | assumption | (intro q0; cases q0; done) | (intro q0; simp at q0; omega))])) ?_
      refine s_iload dRun_isSo_110 rfl ?_
      refine s_ialdN dRun_isSo_112 (by repeat (first | exact up_self | assumption | rw [up_ne (by first | assumption | (intro q0; cases q0; done) | (intro q0; simp at q0; omega))])) (by omega) (by omega) ?_
      refine s_tv (o3 x hx1) ?_
      refine s_aload_n dRun_isSo_113 rfl rfl ?_
      refine s_get dRun_isSo_114 gf_Run_151 (by repeat (first | exact up_self | assumption | rw [up_ne (by first | assumption | (intro q0; cases q0; done) | (intro q0; simp at q0; omega))])) ?_
      refine s_icmp_ne dRun_isSo_117 (fun q => absurd c1 q) (fun _ => ?_)
      refine s_iconst (v := 1) dRun_isSo_120 (by decide) ?_
      refine s_goto dRun_isSo_121 ?_
      refine s_zret dRun_isSo_125 rfl (by first | exact Or.inl rfl | exact Or.inr rfl | assumption) (by first | exact Nat.le_refl _ | decide | omega) (by first | exact Nat.le_refl _ | decide | omega) ?_
      exact ⟨by rw [show soP σ 3 x y s v vr ap = decide (vr x = y) from rfl, zi_dec.1 c1], rfl⟩
    · refine s_aload_n dRun_isSo_0 rfl rfl ?_
      refine s_get dRun_isSo_1 gf_Run_131 (by repeat (first | exact up_self | assumption | rw [up_ne (by first | assumption | (intro q0; cases q0; done) | (intro q0; simp at q0; omega))])) ?_
      refine s_istore dRun_isSo_4 rfl ?_
      refine s_aload_n dRun_isSo_6 rfl rfl ?_
      refine s_get dRun_isSo_7 gf_Run_134 (by repeat (first | exact up_self | assumption | rw [up_ne (by first | assumption | (intro q0; cases q0; done) | (intro q0; simp at q0; omega))])) ?_
      refine s_tabIn (off := 96) (tgt := 106) dRun_isSo_10 (by decide +kernel) (by decide +kernel) (by decide +kernel) (by decide) ?_
      refine s_aload_n dRun_isSo_106 rfl rfl ?_
      refine s_get dRun_isSo_107 gf_Run_154 (by repeat (first | exact up_self | assumption | rw [up_ne (by first | assumption | (intro q0; cases q0; done) | (intro q0; simp at q0; omega))])) ?_
      refine s_iload dRun_isSo_110 rfl ?_
      refine s_ialdN dRun_isSo_112 (by repeat (first | exact up_self | assumption | rw [up_ne (by first | assumption | (intro q0; cases q0; done) | (intro q0; simp at q0; omega))])) (by omega) (by omega) ?_
      refine s_tv (o3 x hx1) ?_
      refine s_aload_n dRun_isSo_113 rfl rfl ?_
      refine s_get dRun_isSo_114 gf_Run_151 (by repeat (first | exact up_self | assumption | rw [up_ne (by first | assumption | (intro q0; cases q0; done) | (intro q0; simp at q0; omega))])) ?_
      refine s_icmp_ne dRun_isSo_117 (fun _ => ?_) (fun q => absurd q c1)
      refine s_iconst (v := 0) dRun_isSo_124 (by decide) ?_
      refine s_zret dRun_isSo_125 rfl (by first | exact Or.inl rfl | exact Or.inr rfl | assumption) (by first | exact Nat.le_refl _ | decide | omega) (by first | exact Nat.le_refl _ | decide | omega) ?_
      exact ⟨by rw [show soP σ 3 x y s v vr ap = decide (vr x = y) from rfl, zi_dec.2 c1], rfl⟩
  | 4, _ =>
    have hx1 : x < 4 := hx
    by_cases c1 : y < vr x
    · refine s_aload_n dRun_isSo_0 rfl rfl ?_
      refine s_get dRun_isSo_1 gf_Run_131 (by repeat (first | exact up_self | assumption | rw [up_ne (by first | assumption | (intro q0; cases q0; done) | (intro q0; simp at q0; omega))])) ?_
      refine s_istore dRun_isSo_4 rfl ?_
      refine s_aload_n dRun_isSo_6 rfl rfl ?_
      refine s_get dRun_isSo_7 gf_Run_134 (by repeat (first | exact up_self | assumption | rw [up_ne (by first | assumption | (intro q0; cases q0; done) | (intro q0; simp at q0; omega))])) ?_
      refine s_tabIn (off := 116) (tgt := 126) dRun_isSo_10 (by decide +kernel) (by decide +kernel) (by decide +kernel) (by decide) ?_
      refine s_aload_n dRun_isSo_126 rfl rfl ?_
      refine s_get dRun_isSo_127 gf_Run_154 (by repeat (first | exact up_self | assumption | rw [up_ne (by first | assumption | (intro q0; cases q0; done) | (intro q0; simp at q0; omega))])) ?_
      refine s_iload dRun_isSo_130 rfl ?_
      refine s_ialdN dRun_isSo_132 (by repeat (first | exact up_self | assumption | rw [up_ne (by first | assumption | (intro q0; cases q0; done) | (intro q0; simp at q0; omega))])) (by omega) (by omega) ?_
      refine s_tv (o3 x hx1) ?_
      refine s_aload_n dRun_isSo_133 rfl rfl ?_
      refine s_get dRun_isSo_134 gf_Run_151 (by repeat (first | exact up_self | assumption | rw [up_ne (by first | assumption | (intro q0; cases q0; done) | (intro q0; simp at q0; omega))])) ?_
      refine s_icmp_le dRun_isSo_137 (fun q => absurd q (Int32.not_le.mpr c1)) (fun _ => ?_)
      refine s_iconst (v := 1) dRun_isSo_140 (by decide) ?_
      refine s_goto dRun_isSo_141 ?_
      refine s_zret dRun_isSo_145 rfl (by first | exact Or.inl rfl | exact Or.inr rfl | assumption) (by first | exact Nat.le_refl _ | decide | omega) (by first | exact Nat.le_refl _ | decide | omega) ?_
      exact ⟨by rw [show soP σ 4 x y s v vr ap = decide (y < vr x) from rfl, zi_dec.1 c1], rfl⟩
    · refine s_aload_n dRun_isSo_0 rfl rfl ?_
      refine s_get dRun_isSo_1 gf_Run_131 (by repeat (first | exact up_self | assumption | rw [up_ne (by first | assumption | (intro q0; cases q0; done) | (intro q0; simp at q0; omega))])) ?_
      refine s_istore dRun_isSo_4 rfl ?_
      refine s_aload_n dRun_isSo_6 rfl rfl ?_
      refine s_get dRun_isSo_7 gf_Run_134 (by repeat (first | exact up_self | assumption | rw [up_ne (by first | assumption | (intro q0; cases q0; done) | (intro q0; simp at q0; omega))])) ?_
      refine s_tabIn (off := 116) (tgt := 126) dRun_isSo_10 (by decide +kernel) (by decide +kernel) (by decide +kernel) (by decide) ?_
      refine s_aload_n dRun_isSo_126 rfl rfl ?_
      refine s_get dRun_isSo_127 gf_Run_154 (by repeat (first | exact up_self | assumption | rw [up_ne (by first | assumption | (intro q0; cases q0; done) | (intro q0; simp at q0; omega))])) ?_
      refine s_iload dRun_isSo_130 rfl ?_
      refine s_ialdN dRun_isSo_132 (by repeat (first | exact up_self | assumption | rw [up_ne (by first | assumption | (intro q0; cases q0; done) | (intro q0; simp at q0; omega))])) (by omega) (by omega) ?_
      refine s_tv (o3 x hx1) ?_
      refine s_aload_n dRun_isSo_133 rfl rfl ?_
      refine s_get dRun_isSo_134 gf_Run_151 (by repeat (first | exact up_self | assumption | rw [up_ne (by first | assumption | (intro q0; cases q0; done) | (intro q0; simp at q0; omega))])) ?_
      refine s_icmp_le dRun_isSo_137 (fun _ => ?_) (fun q => absurd (Int32.not_lt.mp c1) q)
      refine s_iconst (v := 0) dRun_isSo_144 (by decide) ?_
      refine s_zret dRun_isSo_145 rfl (by first | exact Or.inl rfl | exact Or.inr rfl | assumption) (by first | exact Nat.le_refl _ | decide | omega) (by first | exact Nat.le_refl _ | decide | omega) ?_
      exact ⟨by rw [show soP σ 4 x y s v vr ap = decide (y < vr x) from rfl, zi_dec.2 c1], rfl⟩
  | 5, _ =>
    have hx1 : x < NS := hx
    have hb1 := zi_b (decide (σ 42 x = 1))
    refine s_aload_n dRun_isSo_0 rfl rfl ?_
    refine s_get dRun_isSo_1 gf_Run_131 (by repeat (first | exact up_self | assumption | rw [up_ne (by first | assumption | (intro q0; cases q0; done) | (intro q0; simp at q0; omega))])) ?_
    refine s_istore dRun_isSo_4 rfl ?_
    refine s_aload_n dRun_isSo_6 rfl rfl ?_
    refine s_get dRun_isSo_7 gf_Run_134 (by repeat (first | exact up_self | assumption | rw [up_ne (by first | assumption | (intro q0; cases q0; done) | (intro q0; simp at q0; omega))])) ?_
    refine s_tabIn (off := 136) (tgt := 146) dRun_isSo_10 (by decide +kernel) (by decide +kernel) (by decide +kernel) (by decide) ?_
    refine s_aload_n dRun_isSo_146 rfl rfl ?_
    refine s_get dRun_isSo_147 gf_Run_32 (by repeat (first | exact up_self | assumption | rw [up_ne (by first | assumption | (intro q0; cases q0; done) | (intro q0; simp at q0; omega))])) ?_
    refine s_iload dRun_isSo_150 rfl ?_
    refine s_v1 dRun_isSo_152 cv_Run_157 (by repeat (first | exact up_self | assumption | rw [up_ne (by first | assumption | (intro q0; cases q0; done) | (intro q0; simp at q0; omega))])) (c_isOn In hNS h42 hx1) rfl rfl rfl rfl ?_
    refine s_zret dRun_isSo_155 rfl (by first | exact Or.inl rfl | exact Or.inr rfl | assumption) (by first | exact Nat.le_refl _ | decide | omega) (by first | exact Nat.le_refl _ | decide | omega) ?_
    exact ⟨rfl, rfl⟩
  | 6, _ =>
    have hx1 : x < R := hx
    have hb1 := zi_b (ap x)
    refine s_aload_n dRun_isSo_0 rfl rfl ?_
    refine s_get dRun_isSo_1 gf_Run_131 (by repeat (first | exact up_self | assumption | rw [up_ne (by first | assumption | (intro q0; cases q0; done) | (intro q0; simp at q0; omega))])) ?_
    refine s_istore dRun_isSo_4 rfl ?_
    refine s_aload_n dRun_isSo_6 rfl rfl ?_
    refine s_get dRun_isSo_7 gf_Run_134 (by repeat (first | exact up_self | assumption | rw [up_ne (by first | assumption | (intro q0; cases q0; done) | (intro q0; simp at q0; omega))])) ?_
    refine s_tabIn (off := 146) (tgt := 156) dRun_isSo_10 (by decide +kernel) (by decide +kernel) (by decide +kernel) (by decide) ?_
    refine s_aload_n dRun_isSo_156 rfl rfl ?_
    refine s_iload dRun_isSo_157 rfl ?_
    refine s_v1 dRun_isSo_159 cv_Run_163 (by repeat (first | exact up_self | assumption | rw [up_ne (by first | assumption | (intro q0; cases q0; done) | (intro q0; simp at q0; omega))])) (c_hasApplied (show x < 60 by omega) O0) rfl rfl rfl rfl ?_
    refine s_zret dRun_isSo_162 rfl (by first | exact Or.inl rfl | exact Or.inr rfl | assumption) (by first | exact Nat.le_refl _ | decide | omega) (by first | exact Nat.le_refl _ | decide | omega) ?_
    exact ⟨rfl, rfl⟩
theorem l_areAllSo {h : Hp} {σ : Sg} {K N NS R r s d m : Nat} {e r0 : Int32} {v vr : Nat → Int32} {ap : Nat → Bool} {Q : Option PV → Hp → Prop} (U : uC h e r0) (Ik : kC h σ K) (P : KP σ K) (S1 : SK σ N K) (Is : sC h σ v N) (In : nC h σ NS) (C1 : CP σ R K NS) (Ir : rC h σ R) (O : oC h d vr ap) (hs : s < N) (hr : r < R) (em : σ 13 r = nI m) (hm : m ≤ 4)
    (hc : ∀ k, k < m → ∃ c x, c ≤ 16 ∧ bs c ≤ 6 ∧ (7 ≤ c → 10 ≤ c) ∧ σ 12 (12 * r + 3 * k) = nI c ∧ σ 12 (12 * r + 3 * k + 1) = nI x ∧ xOk (bs c) x K NS R) (hq : Q (some (vI (zi (apP σ r s v vr ap m)))) h) :
    ∀ (n k : Nat) (o5 : Option PV), k + n = m → apP σ r s v vr ap k = true → S mRun_areAllSo 5 0 0 Q 3 [some (vR (44, 0, 0)), some (vR (29, r, 0)), some (vR (14, s, 0)), some (vR (45, d, 0)), some (vI (nI k)), o5] [] h 0 0 := by
  obtain ⟨hNS, hR, hh, -⟩ := C1
  obtain ⟨-, r2, r3⟩ := id (Ir.2.1 r hr)
  have em0 : nt (σ 13 r) = m := by rw [em, nt_nI (by omega)]
  rw [em0] at r2 r3
  have css := c_size r2
  rw [cnL_len] at css
  obtain ⟨cap, z, f, el, -⟩ := id r2
  have u1 := U.1
  intro n
  induction n with
  | zero =>
    intro k o5 hk1 ht1
    have ek : k = m := by omega
    subst ek
    refine s_iload dRun_areAllSo_3 rfl ?_
    refine s_aload_n dRun_areAllSo_5 rfl rfl ?_
    refine s_v0 dRun_areAllSo_6 cv_Run_58 (by repeat (first | exact up_self | assumption | rw [up_ne (by first | assumption | (intro q0; cases q0; done) | (intro q0; simp at q0; omega))])) (css) rfl rfl rfl rfl ?_
    refine s_icmp_ge dRun_areAllSo_9 (fun _ => ?_) (fun q => absurd (nI_le (Nat.le_refl _) (by omega)) q)
    refine s_iconst (v := 1) dRun_areAllSo_47 (by decide) ?_
    refine s_zret dRun_areAllSo_48 rfl (by first | exact Or.inl rfl | exact Or.inr rfl | assumption) (by first | exact Nat.le_refl _ | decide | omega) (by first | exact Nat.le_refl _ | decide | omega) ?_
    rw [ht1] at hq
    exact hq
  | succ n ih1 =>
    intro k o5 hk1 ht1
    have hkm : k < m := by omega
    obtain ⟨c, x, hc16, hb6, h710, ec, ex, hx⟩ := hc k hkm
    have hx60 : x < 2 ^ 20 := by
      have hK := P.2.1
      unfold xOk at hx
      split at hx <;> omega
    have e1 : cnP σ r k s v vr ap = (soP σ (bs c) x (cYy σ r k) s v vr ap != decide (10 ≤ c)) := by
      unfold cnP cCd cXx
      rw [ec, ex, nt_nI (by omega), nt_nI (by omega)]
    have fals : ∀ k', k < k' → k' ≤ m → cnP σ r k s v vr ap = false → apP σ r s v vr ap k' = false := by
      intro k' h1 h2 h3
      induction k' with
      | zero => omega
      | succ k' ih2 =>
        by_cases c1 : k' = k
        · subst c1
          simp [apP, h3]
        · simp [apP, ih2 (by omega) (by omega)]
    have e31 : h (31, r, k) = some (1, 0, fl [vI (nI (bs c)), vI (zi (decide (10 ≤ c))), vI (nI x), vI (cYy σ r k)]) := by
      rw [(r3 k).1 hkm]
      unfold cdL cCd
      rw [ec, ex, nt_nI (by omega)]
    have cso := c_Run_isSo U Ik P S1 Is In hNS hh O hs hR hb6 hx e31
    cases hcn : cnP σ r k s v vr ap with
    | true =>
      have hne : ¬ zi (soP σ (bs c) x (cYy σ r k) s v vr ap) = zi (decide (10 ≤ c)) := by
        rw [e1] at hcn
        generalize soP σ (bs c) x (cYy σ r k) s v vr ap = p1 at hcn
        generalize decide (10 ≤ c) = p2 at hcn
        cases p1 <;> cases p2 <;> simp_all [zi]
      refine s_iload dRun_areAllSo_3 rfl ?_
      refine s_aload_n dRun_areAllSo_5 rfl rfl ?_
      refine s_v0 dRun_areAllSo_6 cv_Run_58 (by repeat (first | exact up_self | assumption | rw [up_ne (by first | assumption | (intro q0; cases q0; done) | (intro q0; simp at q0; omega))])) (css) rfl rfl rfl rfl ?_
      refine s_icmp_ge dRun_areAllSo_9 (fun q => absurd q (nI_ge hkm (by omega))) (fun _ => ?_)
      refine s_aload_n dRun_areAllSo_12 rfl rfl ?_
      refine s_iload dRun_areAllSo_13 rfl ?_
      refine s_v1 dRun_areAllSo_15 cv_Run_63 (by repeat (first | exact up_self | assumption | rw [up_ne (by first | assumption | (intro q0; cases q0; done) | (intro q0; simp at q0; omega))])) (c_get r2 (cnL_get hkm)) rfl rfl rfl rfl ?_
      refine s_cast dRun_areAllSo_18 (by decide) (nw_Run_121).2.1 (by repeat (first | exact up_self | assumption | rw [up_ne (by first | assumption | (intro q0; cases q0; done) | (intro q0; simp at q0; omega))])) ?_
      refine s_astore dRun_areAllSo_21 rfl ?_
      refine s_aload_n dRun_areAllSo_23 rfl rfl ?_
      refine s_aload dRun_areAllSo_24 rfl ?_
      refine s_aload_n dRun_areAllSo_26 rfl rfl ?_
      refine s_aload_n dRun_areAllSo_27 rfl rfl ?_
      refine s_v3 dRun_areAllSo_28 cv_Run_123 (by repeat (first | exact up_self | assumption | rw [up_ne (by first | assumption | (intro q0; cases q0; done) | (intro q0; simp at q0; omega))])) (cso) rfl rfl rfl rfl ?_
      refine s_aload dRun_areAllSo_31 rfl ?_
      refine s_get dRun_areAllSo_33 gf_Run_127 (by repeat (first | exact up_self | assumption | rw [up_ne (by first | assumption | (intro q0; cases q0; done) | (intro q0; simp at q0; omega))])) ?_
      refine s_icmp_ne dRun_areAllSo_36 (fun _ => ?_) (fun q => absurd q hne)
      first | refine s_iincN dRun_areAllSo_41 rfl rfl ?_ | refine s_iinc dRun_areAllSo_41 rfl rfl ?_
      refine s_goto dRun_areAllSo_44 ?_
      exact ih1 (k + 1) _ (by omega) (by simp [apP, ht1, hcn])
    | false =>
      have heq : zi (soP σ (bs c) x (cYy σ r k) s v vr ap) = zi (decide (10 ≤ c)) := by
        rw [e1] at hcn
        generalize soP σ (bs c) x (cYy σ r k) s v vr ap = p1 at hcn
        generalize decide (10 ≤ c) = p2 at hcn
        cases p1 <;> cases p2 <;> simp_all [zi]
      refine s_iload dRun_areAllSo_3 rfl ?_
      refine s_aload_n dRun_areAllSo_5 rfl rfl ?_
      refine s_v0 dRun_areAllSo_6 cv_Run_58 (by repeat (first | exact up_self | assumption | rw [up_ne (by first | assumption | (intro q0; cases q0; done) | (intro q0; simp at q0; omega))])) (css) rfl rfl rfl rfl ?_
      refine s_icmp_ge dRun_areAllSo_9 (fun q => absurd q (nI_ge hkm (by omega))) (fun _ => ?_)
      refine s_aload_n dRun_areAllSo_12 rfl rfl ?_
      refine s_iload dRun_areAllSo_13 rfl ?_
      refine s_v1 dRun_areAllSo_15 cv_Run_63 (by repeat (first | exact up_self | assumption | rw [up_ne (by first | assumption | (intro q0; cases q0; done) | (intro q0; simp at q0; omega))])) (c_get r2 (cnL_get hkm)) rfl rfl rfl rfl ?_
      refine s_cast dRun_areAllSo_18 (by decide) (nw_Run_121).2.1 (by repeat (first | exact up_self | assumption | rw [up_ne (by first | assumption | (intro q0; cases q0; done) | (intro q0; simp at q0; omega))])) ?_
      refine s_astore dRun_areAllSo_21 rfl ?_
      refine s_aload_n dRun_areAllSo_23 rfl rfl ?_
      refine s_aload dRun_areAllSo_24 rfl ?_
      refine s_aload_n dRun_areAllSo_26 rfl rfl ?_
      refine s_aload_n dRun_areAllSo_27 rfl rfl ?_
      refine s_v3 dRun_areAllSo_28 cv_Run_123 (by repeat (first | exact up_self | assumption | rw [up_ne (by first | assumption | (intro q0; cases q0; done) | (intro q0; simp at q0; omega))])) (cso) rfl rfl rfl rfl ?_
      refine s_aload dRun_areAllSo_31 rfl ?_
      refine s_get dRun_areAllSo_33 gf_Run_127 (by repeat (first | exact up_self | assumption | rw [up_ne (by first | assumption | (intro q0; cases q0; done) | (intro q0; simp at q0; omega))])) ?_
      refine s_icmp_ne dRun_areAllSo_36 (fun q => absurd heq q) (fun _ => ?_)
      refine s_iconst (v := 0) dRun_areAllSo_39 (by decide) ?_
      refine s_zret dRun_areAllSo_40 rfl (by first | exact Or.inl rfl | exact Or.inr rfl | assumption) (by first | exact Nat.le_refl _ | decide | omega) (by first | exact Nat.le_refl _ | decide | omega) ?_
      rw [fals m hkm (Nat.le_refl _) hcn] at hq
      exact hq
theorem c_areAllSo {h : Hp} {σ : Sg} {K N NS R r s d : Nat} {e r0 : Int32} {v vr : Nat → Int32} {ap : Nat → Bool} (U : uC h e r0) (Ik : kC h σ K) (P : KP σ K) (S1 : SK σ N K) (Is : sC h σ v N) (In : nC h σ NS) (C1 : CP σ R K NS) (Ir : rC h σ R) (O : oC h d vr ap) (hs : s < N) (hr : r < R) :
    ConF mRun_areAllSo 5 [vR (44, 0, 0), vR (29, r, 0), vR (14, s, 0), vR (45, d, 0)] h (some (vI (zi (apP σ r s v vr ap (nt (σ 13 r)))))) h := by
  obtain ⟨m, hm, em, hc⟩ := C1.2.2.2 r hr
  rw [em, nt_nI (by omega)]
  refine c_enter (by decide +kernel) rfl rfl ?_
  refine s_iconst (v := 0) dRun_areAllSo_0 (by decide) ?_
  refine s_istore dRun_areAllSo_1 rfl ?_
  exact l_areAllSo U Ik P S1 Is In C1 Ir O hs hr em hm hc ⟨rfl, rfl⟩ m 0 none (by omega) rfl
