def isAb (n : Nat) : Bool := decide (2 ≤ n) && decide (n ≤ 4)
def ordOk (σ : Sg) (j n : Nat) (o : Int32) (R : Nat) : Bool := !isAb n || match ix o R with
  | some i => decide (i ≠ j) && decide (σ 9 i = σ 9 j)
  | none => false
def fOrder (σ : Sg) (r w o : Int32) (R T : Nat) : Int32 × Sg := match ix r R, ix w 6 with
  | some j, some n => if ordOk σ j n o R then (0, us (us (us (us σ 15 j w) 16 j o) 18 0 (nI (T + 1))) 17 j (nI (T + 1))) else (-1, σ)
  | _, _ => (-1, σ)
theorem c_in24 {n : Nat} {h : Hp} (hn : n < 6) : ConF mM_isIn 0 [vI (nI n), vI (nI 2), vI (nI 4)] h (some (vI (zi (isAb n)))) h := by
  match n, hn with
  | 0, _ => exact c_isIn (Or.inr ⟨rfl, by decide⟩)
  | 1, _ => exact c_isIn (Or.inr ⟨rfl, by decide⟩)
  | 2, _ => exact c_isIn (Or.inl ⟨rfl, by decide, by decide⟩)
  | 3, _ => exact c_isIn (Or.inl ⟨rfl, by decide, by decide⟩)
  | 4, _ => exact c_isIn (Or.inl ⟨rfl, by decide, by decide⟩)
  | 5, _ => exact c_isIn (Or.inr ⟨rfl, by decide⟩)
theorem c_M_order {σ : Sg} {h : Hp} {R T : Nat} (r w o : Int32) (hR : σ 8 0 = nI R) (h2 : R ≤ 60) (hT : σ 18 0 = nI T) : ConF mM_order 2 [vR (100, 0, 0), vI r, vI w, vI o] (hM σ h) (some (vI (fOrder σ r w o R T).1)) (hM (fOrder σ r w o R T).2 h) := by
  unfold fOrder
  refine c_enter (by decide +kernel) rfl rfl ?_
  rcases iz_cases r (K := R) (by omega) with ⟨e, hz⟩ | ⟨j, hj, rfl, e⟩
  · rw [e]
    refine s_aload_n dM_order_0 rfl rfl ?_
    refine s_iload_n dM_order_1 rfl rfl ?_
    refine s_v1 dM_order_2 cv_M_141 hM_o (c_M_isRule hR (by omega) hz) rfl rfl rfl rfl ?_
    refine s_if_eq dM_order_5 (fun _ => ?_) (fun q => absurd rfl q)
    refine s_iconst (v := (-1)) dM_order_17 (by decide) ?_
    refine s_iret dM_order_18 rfl (by first | exact Nat.le_refl _ | decide | omega) (by first | exact Nat.le_refl _ | decide | omega) ?_
    exact ⟨rfl, rfl⟩
  · rcases iz_cases w (K := 6) (by omega) with ⟨e1, hz⟩ | ⟨n, hn, rfl, e1⟩
    · rw [e, e1]
      refine s_aload_n dM_order_0 rfl rfl ?_
      refine s_iload_n dM_order_1 rfl rfl ?_
      refine s_v1 dM_order_2 cv_M_141 hM_o (c_M_isRule hR (by omega) (Iz1 hj)) rfl rfl rfl rfl ?_
      refine s_if_eq dM_order_5 (fun q => absurd q (by decide)) (fun _ => ?_)
      refine s_iload_n dM_order_8 rfl rfl ?_
      refine s_iconst (v := 0) dM_order_9 (by decide) ?_
      refine s_iconst (v := nI 5) dM_order_10 (by decide) ?_
      refine s_t3 dM_order_11 cs_M_117 (c_inZ (K := 6) (by omega) hz) rfl rfl rfl rfl ?_
      refine s_if_ne dM_order_14 (fun q => absurd rfl q) (fun _ => ?_)
      refine s_iconst (v := (-1)) dM_order_17 (by decide) ?_
      refine s_iret dM_order_18 rfl (by first | exact Nat.le_refl _ | decide | omega) (by first | exact Nat.le_refl _ | decide | omega) ?_
      exact ⟨rfl, rfl⟩
    · rw [e, e1]
      dsimp only
      have fin : ordOk σ j n o R = true → S mM_order 2 0 0 (fun v' h' => v' = some (vI (if ordOk σ j n o R = true then (0, us (us (us (us σ 15 j (nI n)) 16 j o) 18 0 (nI (T + 1))) 17 j (nI (T + 1))) else (-1, σ)).1) ∧ h' = hM (if ordOk σ j n o R = true then ((0 : Int32), us (us (us (us σ 15 j (nI n)) 16 j o) 18 0 (nI (T + 1))) 17 j (nI (T + 1))) else (-1, σ)).2 h) 58 [some (vR (100, 0, 0)), some (vI (nI j)), some (vI (nI n)), some (vI o)] [] (hM σ h) 0 0 := by
        intro q
        rw [if_pos q]
        refine s_aload_n dM_order_58 rfl rfl ?_
        refine s_mga dM_order_59 gf_M_43 rfl ?_
        refine s_iload_n dM_order_62 rfl rfl ?_
        refine s_iload_n dM_order_63 rfl rfl ?_
        refine s_mast dM_order_64 rfl rfl (show _ < 60 by omega) rfl ?_
        refine s_aload_n dM_order_65 rfl rfl ?_
        refine s_mga dM_order_66 gf_M_46 rfl ?_
        refine s_iload_n dM_order_69 rfl rfl ?_
        refine s_iload_n dM_order_70 rfl rfl ?_
        refine s_mast dM_order_71 rfl rfl (show _ < 60 by omega) rfl ?_
        refine s_aload_n dM_order_72 rfl rfl ?_
        refine s_dup dM_order_73 rfl ?_
        refine s_mgi dM_order_74 gf_M_147 rfl ?_
        refine s_top hT ?_
        refine s_iconst (v := nI 1) dM_order_77 (by decide) ?_
        first | refine s_iaddN dM_order_78 ?_ | refine s_iadd dM_order_78 ?_
        refine s_mpi dM_order_79 gf_M_147 rfl rfl (by first | exact ⟨_, rfl⟩ | exact Or.inl rfl | exact Or.inr rfl) ?_
        refine s_aload_n dM_order_82 rfl rfl ?_
        refine s_mga dM_order_83 gf_M_49 rfl ?_
        refine s_iload_n dM_order_86 rfl rfl ?_
        refine s_aload_n dM_order_87 rfl rfl ?_
        refine s_mgi dM_order_88 gf_M_147 rfl ?_
        refine s_top (show _ = nI (T + 1) from rfl) ?_
        refine s_mast dM_order_91 rfl rfl (show _ < 60 by omega) rfl ?_
        refine s_iconst (v := 0) dM_order_92 (by decide) ?_
        refine s_iret dM_order_93 rfl (by first | exact Nat.le_refl _ | decide | omega) (by first | exact Nat.le_refl _ | decide | omega) ?_
        exact ⟨rfl, rfl⟩
      cases ha : isAb n with
      | false =>
        refine s_aload_n dM_order_0 rfl rfl ?_
        refine s_iload_n dM_order_1 rfl rfl ?_
        refine s_v1 dM_order_2 cv_M_141 hM_o (c_M_isRule hR (by omega) (Iz1 hj)) rfl rfl rfl rfl ?_
        refine s_if_eq dM_order_5 (fun q => absurd q (by decide)) (fun _ => ?_)
        refine s_iload_n dM_order_8 rfl rfl ?_
        refine s_iconst (v := 0) dM_order_9 (by decide) ?_
        refine s_iconst (v := nI 5) dM_order_10 (by decide) ?_
        refine s_t3 dM_order_11 cs_M_117 (c_inZ (K := 6) (by omega) (Iz1 hn)) rfl rfl rfl rfl ?_
        refine s_if_ne dM_order_14 (fun _ => ?_) (fun q => absurd q (by decide))
        refine s_iload_n dM_order_19 rfl rfl ?_
        refine s_iconst (v := nI 2) dM_order_20 (by decide) ?_
        refine s_iconst (v := nI 4) dM_order_21 (by decide) ?_
        refine s_t3 dM_order_22 cs_M_117 (c_in24 hn) rfl rfl rfl rfl ?_
        refine s_if_eq dM_order_25 (fun _ => ?_) (fun q => absurd (by rw [ha]; decide) q)
        exact fin (by simp [ordOk, ha])
      | true =>
        rcases iz_cases o (K := R) (by omega) with ⟨e2, hz⟩ | ⟨i, hi, rfl, e2⟩
        · refine s_aload_n dM_order_0 rfl rfl ?_
          refine s_iload_n dM_order_1 rfl rfl ?_
          refine s_v1 dM_order_2 cv_M_141 hM_o (c_M_isRule hR (by omega) (Iz1 hj)) rfl rfl rfl rfl ?_
          refine s_if_eq dM_order_5 (fun q => absurd q (by decide)) (fun _ => ?_)
          refine s_iload_n dM_order_8 rfl rfl ?_
          refine s_iconst (v := 0) dM_order_9 (by decide) ?_
          refine s_iconst (v := nI 5) dM_order_10 (by decide) ?_
          refine s_t3 dM_order_11 cs_M_117 (c_inZ (K := 6) (by omega) (Iz1 hn)) rfl rfl rfl rfl ?_
          refine s_if_ne dM_order_14 (fun _ => ?_) (fun q => absurd q (by decide))
          refine s_iload_n dM_order_19 rfl rfl ?_
          refine s_iconst (v := nI 2) dM_order_20 (by decide) ?_
          refine s_iconst (v := nI 4) dM_order_21 (by decide) ?_
          refine s_t3 dM_order_22 cs_M_117 (c_in24 hn) rfl rfl rfl rfl ?_
          refine s_if_eq dM_order_25 (fun q => absurd q (by rw [ha]; decide)) (fun _ => ?_)
          refine s_aload_n dM_order_28 rfl rfl ?_
          refine s_iload_n dM_order_29 rfl rfl ?_
          refine s_v1 dM_order_30 cv_M_141 hM_o (c_M_isRule hR (by omega) hz) rfl rfl rfl rfl ?_
          refine s_if_eq dM_order_33 (fun _ => ?_) (fun q => absurd rfl q)
          refine s_iconst (v := (-1)) dM_order_56 (by decide) ?_
          refine s_iret dM_order_57 rfl (by first | exact Nat.le_refl _ | decide | omega) (by first | exact Nat.le_refl _ | decide | omega) ?_
          rw [if_neg (by simp [ordOk, ha, e2])]
          exact ⟨rfl, rfl⟩
        · by_cases hij : i = j
          · subst hij
            refine s_aload_n dM_order_0 rfl rfl ?_
            refine s_iload_n dM_order_1 rfl rfl ?_
            refine s_v1 dM_order_2 cv_M_141 hM_o (c_M_isRule hR (by omega) (Iz1 hj)) rfl rfl rfl rfl ?_
            refine s_if_eq dM_order_5 (fun q => absurd q (by decide)) (fun _ => ?_)
            refine s_iload_n dM_order_8 rfl rfl ?_
            refine s_iconst (v := 0) dM_order_9 (by decide) ?_
            refine s_iconst (v := nI 5) dM_order_10 (by decide) ?_
            refine s_t3 dM_order_11 cs_M_117 (c_inZ (K := 6) (by omega) (Iz1 hn)) rfl rfl rfl rfl ?_
            refine s_if_ne dM_order_14 (fun _ => ?_) (fun q => absurd q (by decide))
            refine s_iload_n dM_order_19 rfl rfl ?_
            refine s_iconst (v := nI 2) dM_order_20 (by decide) ?_
            refine s_iconst (v := nI 4) dM_order_21 (by decide) ?_
            refine s_t3 dM_order_22 cs_M_117 (c_in24 hn) rfl rfl rfl rfl ?_
            refine s_if_eq dM_order_25 (fun q => absurd q (by rw [ha]; decide)) (fun _ => ?_)
            refine s_aload_n dM_order_28 rfl rfl ?_
            refine s_iload_n dM_order_29 rfl rfl ?_
            refine s_v1 dM_order_30 cv_M_141 hM_o (c_M_isRule hR (by omega) (Iz1 hi)) rfl rfl rfl rfl ?_
            refine s_if_eq dM_order_33 (fun q => absurd q (by decide)) (fun _ => ?_)
            refine s_iload_n dM_order_36 rfl rfl ?_
            refine s_iload_n dM_order_37 rfl rfl ?_
            refine s_icmp_eq dM_order_38 (fun _ => ?_) (fun q => absurd rfl q)
            refine s_iconst (v := (-1)) dM_order_56 (by decide) ?_
            refine s_iret dM_order_57 rfl (by first | exact Nat.le_refl _ | decide | omega) (by first | exact Nat.le_refl _ | decide | omega) ?_
            rw [if_neg (by simp [ordOk, ha, e2])]
            exact ⟨rfl, rfl⟩
          · by_cases hb : σ 9 i = σ 9 j
            · refine s_aload_n dM_order_0 rfl rfl ?_
              refine s_iload_n dM_order_1 rfl rfl ?_
              refine s_v1 dM_order_2 cv_M_141 hM_o (c_M_isRule hR (by omega) (Iz1 hj)) rfl rfl rfl rfl ?_
              refine s_if_eq dM_order_5 (fun q => absurd q (by decide)) (fun _ => ?_)
              refine s_iload_n dM_order_8 rfl rfl ?_
              refine s_iconst (v := 0) dM_order_9 (by decide) ?_
              refine s_iconst (v := nI 5) dM_order_10 (by decide) ?_
              refine s_t3 dM_order_11 cs_M_117 (c_inZ (K := 6) (by omega) (Iz1 hn)) rfl rfl rfl rfl ?_
              refine s_if_ne dM_order_14 (fun _ => ?_) (fun q => absurd q (by decide))
              refine s_iload_n dM_order_19 rfl rfl ?_
              refine s_iconst (v := nI 2) dM_order_20 (by decide) ?_
              refine s_iconst (v := nI 4) dM_order_21 (by decide) ?_
              refine s_t3 dM_order_22 cs_M_117 (c_in24 hn) rfl rfl rfl rfl ?_
              refine s_if_eq dM_order_25 (fun q => absurd q (by rw [ha]; decide)) (fun _ => ?_)
              refine s_aload_n dM_order_28 rfl rfl ?_
              refine s_iload_n dM_order_29 rfl rfl ?_
              refine s_v1 dM_order_30 cv_M_141 hM_o (c_M_isRule hR (by omega) (Iz1 hi)) rfl rfl rfl rfl ?_
              refine s_if_eq dM_order_33 (fun q => absurd q (by decide)) (fun _ => ?_)
              refine s_iload_n dM_order_36 rfl rfl ?_
              refine s_iload_n dM_order_37 rfl rfl ?_
              refine s_icmp_eq dM_order_38 (fun q => absurd q (nI_ne hij (by omega) (by omega))) (fun _ => ?_)
              refine s_aload_n dM_order_41 rfl rfl ?_
              refine s_mga dM_order_42 gf_M_25 rfl ?_
              refine s_iload_n dM_order_45 rfl rfl ?_
              refine s_mald dM_order_46 rfl rfl (show _ < 60 by omega) rfl ?_
              refine s_aload_n dM_order_47 rfl rfl ?_
              refine s_mga dM_order_48 gf_M_25 rfl ?_
              refine s_iload_n dM_order_51 rfl rfl ?_
              refine s_mald dM_order_52 rfl rfl (show _ < 60 by omega) rfl ?_
              refine s_icmp_eq dM_order_53 (fun _ => ?_) (fun q => absurd hb q)
              exact fin (by simp [ordOk, ha, e2, hij, hb])
            · refine s_aload_n dM_order_0 rfl rfl ?_
              refine s_iload_n dM_order_1 rfl rfl ?_
              refine s_v1 dM_order_2 cv_M_141 hM_o (c_M_isRule hR (by omega) (Iz1 hj)) rfl rfl rfl rfl ?_
              refine s_if_eq dM_order_5 (fun q => absurd q (by decide)) (fun _ => ?_)
              refine s_iload_n dM_order_8 rfl rfl ?_
              refine s_iconst (v := 0) dM_order_9 (by decide) ?_
              refine s_iconst (v := nI 5) dM_order_10 (by decide) ?_
              refine s_t3 dM_order_11 cs_M_117 (c_inZ (K := 6) (by omega) (Iz1 hn)) rfl rfl rfl rfl ?_
              refine s_if_ne dM_order_14 (fun _ => ?_) (fun q => absurd q (by decide))
              refine s_iload_n dM_order_19 rfl rfl ?_
              refine s_iconst (v := nI 2) dM_order_20 (by decide) ?_
              refine s_iconst (v := nI 4) dM_order_21 (by decide) ?_
              refine s_t3 dM_order_22 cs_M_117 (c_in24 hn) rfl rfl rfl rfl ?_
              refine s_if_eq dM_order_25 (fun q => absurd q (by rw [ha]; decide)) (fun _ => ?_)
              refine s_aload_n dM_order_28 rfl rfl ?_
              refine s_iload_n dM_order_29 rfl rfl ?_
              refine s_v1 dM_order_30 cv_M_141 hM_o (c_M_isRule hR (by omega) (Iz1 hi)) rfl rfl rfl rfl ?_
              refine s_if_eq dM_order_33 (fun q => absurd q (by decide)) (fun _ => ?_)
              refine s_iload_n dM_order_36 rfl rfl ?_
              refine s_iload_n dM_order_37 rfl rfl ?_
              refine s_icmp_eq dM_order_38 (fun q => absurd q (nI_ne hij (by omega) (by omega))) (fun _ => ?_)
              refine s_aload_n dM_order_41 rfl rfl ?_
              refine s_mga dM_order_42 gf_M_25 rfl ?_
              refine s_iload_n dM_order_45 rfl rfl ?_
              refine s_mald dM_order_46 rfl rfl (show _ < 60 by omega) rfl ?_
              refine s_aload_n dM_order_47 rfl rfl ?_
              refine s_mga dM_order_48 gf_M_25 rfl ?_
              refine s_iload_n dM_order_51 rfl rfl ?_
              refine s_mald dM_order_52 rfl rfl (show _ < 60 by omega) rfl ?_
              refine s_icmp_eq dM_order_53 (fun q => absurd q hb) (fun _ => ?_)
              refine s_iconst (v := (-1)) dM_order_56 (by decide) ?_
              refine s_iret dM_order_57 rfl (by first | exact Nat.le_refl _ | decide | omega) (by first | exact Nat.le_refl _ | decide | omega) ?_
              rw [if_neg (by simp [ordOk, ha, e2, hij, hb])]
              exact ⟨rfl, rfl⟩
/-! conditions -/
def cdB (c : Int32) : Option Nat := match ix c 17 with
  | none => none
  | some n => if n ≤ 6 then some n else if n < 10 then none else some (n - 10)
def cdX (σ : Sg) (b j : Nat) (x : Int32) (K R NS : Nat) : Bool := if b = 0 then (ix x K).isSome else if b < 5 then (ix x 4).isSome else if b = 5 then (ix x NS).isSome else match ix x R with
  | some i => decide (σ 9 i = σ 9 j)
  | none => false
def fCond (σ : Sg) (r c x y : Int32) (K R NS : Nat) : Int32 × Sg := match ix r R, cdB c with
  | some j, some b => if cdX σ b j x K R NS then (if nt (σ 13 j) = 4 then (-3, σ) else (nI (nt (σ 13 j) + 1), us (us (us (us σ 12 (12 * j + 3 * nt (σ 13 j)) c) 12 (12 * j + 3 * nt (σ 13 j) + 1) x) 12 (12 * j + 3 * nt (σ 13 j) + 2) y) 13 j (nI (nt (σ 13 j) + 1)))) else (-1, σ)
  | _, _ => (-1, σ)
theorem i32_sub10 {c : Int32} (h : nI 17 ≤ c) : nI 6 < c - nI 10 := by
  rw [Int32.lt_iff_toInt_lt]
  rw [Int32.le_iff_toInt_le, nI_toInt (by omega)] at h
  rw [nI_toInt (by omega), Int32.toInt_sub, nI_toInt (by omega)]
  have h1 : c.toInt < 2 ^ 31 := Int32.toInt_lt c
  rw [Int.bmod_eq_of_le (by omega) (by omega)]
  omega
theorem c_M_condition {σ : Sg} {h : Hp} {K R NS : Nat} (r c x y : Int32) (hK : σ 0 0 = nI K) (h1 : K ≤ 20) (hR : σ 8 0 = nI R) (h2 : R ≤ 60) (hNS : σ 40 0 = nI NS) (h3 : NS ≤ 8) (hm : ∀ j, j < R → ∃ m, m ≤ 4 ∧ σ 13 j = nI m) : ConF mM_condition 2 [vR (100, 0, 0), vI r, vI c, vI x, vI y] (hM σ h) (some (vI (fCond σ r c x y K R NS).1)) (hM (fCond σ r c x y K R NS).2 h) := by
  show Con mM_condition 2 0 0 _ (hM σ h) (fun v' h' => v' = some (vI (fCond σ r c x y K R NS).1) ∧ h' = hM (fCond σ r c x y K R NS).2 h)
  generalize hQ : (fun (v' : Option PV) (h' : Hp) => v' = some (vI (fCond σ r c x y K R NS).1) ∧ h' = hM (fCond σ r c x y K R NS).2 h) = Q
  have qb : (fCond σ r c x y K R NS) = (-1, σ) → Q (some (vI (-1))) (hM σ h) := fun e => by rw [← hQ, e]; exact ⟨rfl, rfl⟩
  refine c_enter (by decide +kernel) rfl rfl ?_
  -- the bad ends
  have bad : ∀ lv, fCond σ r c x y K R NS = (-1, σ) → S mM_condition 2 0 0 Q 47 lv [] (hM σ h) 0 0 := by
    intro lv e
    refine s_iconst (v := (-1)) dM_condition_47 (by decide) ?_
    refine s_iret dM_condition_48 rfl (by first | exact Nat.le_refl _ | decide | omega) (by first | exact Nat.le_refl _ | decide | omega) ?_
    exact qb e
  have J131 : ∀ (j b : Nat) (z c5 : Int32), j < R → r = nI j → cdB c = some b → z = zi (cdX σ b j x K R NS) → S mM_condition 2 0 0 Q 131 [some (vR (100, 0, 0)), some (vI r), some (vI c), some (vI x), some (vI y), some (vI c5), none, none] [vI z] (hM σ h) 0 0 := by
    intro j b z c5 hj hr hb hz
    obtain ⟨m, hm4, em⟩ := hm j hj
    have er : ix r R = some j := by rw [hr]; exact ix_nI hj (by omega)
    cases hx : cdX σ b j x K R NS with
    | false =>
      have e9 : fCond σ r c x y K R NS = (-1, σ) := by simp [fCond, er, hb, hx]
      rw [hx] at hz
      subst hz
      refine s_istore dM_condition_131 rfl ?_
      refine s_iload dM_condition_133 rfl ?_
      refine s_if_ne dM_condition_135 (fun q => absurd rfl q) (fun _ => ?_)
      refine s_iconst (v := (-1)) dM_condition_138 (by decide) ?_
      refine s_iret dM_condition_139 rfl (by first | exact Nat.le_refl _ | decide | omega) (by first | exact Nat.le_refl _ | decide | omega) ?_
      exact qb e9
    | true =>
      rw [hx] at hz
      subst hz
      subst hr
      have ent : nt (σ 13 j) = m := by rw [em]; exact nt_nI (by omega)
      by_cases h4 : m = 4
      · have e9 : fCond σ (nI j) c x y K R NS = (-3, σ) := by simp [fCond, er, hb, hx, ent, h4]
        subst h4
        refine s_istore dM_condition_131 rfl ?_
        refine s_iload dM_condition_133 rfl ?_
        refine s_if_ne dM_condition_135 (fun _ => ?_) (fun q => absurd q (by decide))
        refine s_aload_n dM_condition_140 rfl rfl ?_
        refine s_mga dM_condition_141 gf_M_37 rfl ?_
        refine s_iload_n dM_condition_144 rfl rfl ?_
        refine s_mald dM_condition_145 rfl rfl (show _ < 60 by omega) rfl ?_
        refine s_top em ?_
        refine s_iconst (v := nI 4) dM_condition_146 (by decide) ?_
        refine s_icmp_ne dM_condition_147 (fun q => absurd rfl q) (fun _ => ?_)
        refine s_bipush (v := (-3)) dM_condition_150 (by decide) ?_
        refine s_iret dM_condition_152 rfl (by first | exact Nat.le_refl _ | decide | omega) (by first | exact Nat.le_refl _ | decide | omega) ?_
        rw [← hQ, e9]
        exact ⟨rfl, rfl⟩
      · have e9 : fCond σ (nI j) c x y K R NS = (nI (m + 1), us (us (us (us σ 12 (12 * j + 3 * m) c) 12 (12 * j + 3 * m + 1) x) 12 (12 * j + 3 * m + 2) y) 13 j (nI (m + 1))) := by simp [fCond, er, hb, hx, ent, h4]
        refine s_istore dM_condition_131 rfl ?_
        refine s_iload dM_condition_133 rfl ?_
        refine s_if_ne dM_condition_135 (fun _ => ?_) (fun q => absurd q (by decide))
        refine s_aload_n dM_condition_140 rfl rfl ?_
        refine s_mga dM_condition_141 gf_M_37 rfl ?_
        refine s_iload_n dM_condition_144 rfl rfl ?_
        refine s_mald dM_condition_145 rfl rfl (show _ < 60 by omega) rfl ?_
        refine s_top em ?_
        refine s_iconst (v := nI 4) dM_condition_146 (by decide) ?_
        refine s_icmp_ne dM_condition_147 (fun _ => ?_) (fun q => absurd q (nI_ne h4 (by omega) (by omega)))
        refine s_bipush (v := nI 12) dM_condition_153 (by decide) ?_
        refine s_iload_n dM_condition_155 rfl rfl ?_
        first | refine s_imulN dM_condition_156 ?_ | refine s_imul dM_condition_156 ?_
        refine s_iconst (v := nI 3) dM_condition_157 (by decide) ?_
        refine s_aload_n dM_condition_158 rfl rfl ?_
        refine s_mga dM_condition_159 gf_M_37 rfl ?_
        refine s_iload_n dM_condition_162 rfl rfl ?_
        refine s_mald dM_condition_163 rfl rfl (show _ < 60 by omega) rfl ?_
        refine s_top em ?_
        first | refine s_imulN dM_condition_164 ?_ | refine s_imul dM_condition_164 ?_
        first | refine s_iaddN dM_condition_165 ?_ | refine s_iadd dM_condition_165 ?_
        refine s_istore dM_condition_166 rfl ?_
        refine s_aload_n dM_condition_168 rfl rfl ?_
        refine s_mga dM_condition_169 gf_M_34 rfl ?_
        refine s_iload dM_condition_172 rfl ?_
        refine s_iload_n dM_condition_174 rfl rfl ?_
        refine s_mast dM_condition_175 rfl rfl (show _ < 720 by omega) rfl ?_
        refine s_aload_n dM_condition_176 rfl rfl ?_
        refine s_mga dM_condition_177 gf_M_34 rfl ?_
        refine s_iload dM_condition_180 rfl ?_
        refine s_iconst (v := nI 1) dM_condition_182 (by decide) ?_
        first | refine s_iaddN dM_condition_183 ?_ | refine s_iadd dM_condition_183 ?_
        refine s_iload_n dM_condition_184 rfl rfl ?_
        refine s_mast dM_condition_185 rfl rfl (show _ < 720 by omega) rfl ?_
        refine s_aload_n dM_condition_186 rfl rfl ?_
        refine s_mga dM_condition_187 gf_M_34 rfl ?_
        refine s_iload dM_condition_190 rfl ?_
        refine s_iconst (v := nI 2) dM_condition_192 (by decide) ?_
        first | refine s_iaddN dM_condition_193 ?_ | refine s_iadd dM_condition_193 ?_
        refine s_iload dM_condition_194 rfl ?_
        refine s_mast dM_condition_196 rfl rfl (show _ < 720 by omega) rfl ?_
        refine s_aload_n dM_condition_197 rfl rfl ?_
        refine s_mga dM_condition_198 gf_M_37 rfl ?_
        refine s_iload_n dM_condition_201 rfl rfl ?_
        refine s_dup2 dM_condition_202 rfl rfl ?_
        refine s_mald dM_condition_203 rfl rfl (show _ < 60 by omega) rfl ?_
        refine s_top em ?_
        refine s_iconst (v := nI 1) dM_condition_204 (by decide) ?_
        first | refine s_iaddN dM_condition_205 ?_ | refine s_iadd dM_condition_205 ?_
        refine s_mast dM_condition_206 rfl rfl (show _ < 60 by omega) rfl ?_
        refine s_aload_n dM_condition_207 rfl rfl ?_
        refine s_mga dM_condition_208 gf_M_37 rfl ?_
        refine s_iload_n dM_condition_211 rfl rfl ?_
        refine s_mald dM_condition_212 rfl rfl (show _ < 60 by omega) rfl ?_
        refine s_top us_s ?_
        refine s_iret dM_condition_213 rfl (by first | exact Nat.le_refl _ | decide | omega) (by first | exact Nat.le_refl _ | decide | omega) ?_
        rw [← hQ, e9]
        exact ⟨rfl, rfl⟩
  have J49 : ∀ (j b : Nat), j < R → r = nI j → cdB c = some b → b ≤ 6 → S mM_condition 2 0 0 Q 49 [some (vR (100, 0, 0)), some (vI r), some (vI c), some (vI x), some (vI y), some (vI (nI b)), none, none] [] (hM σ h) 0 0 := by
    intro j b hj hr hb hb6
    by_cases b0 : b = 0
    · subst b0
      rcases iz_cases x (K := K) (by omega) with ⟨e, hz⟩ | ⟨i, hi, rfl, e⟩
      · refine s_iload dM_condition_49 rfl ?_
        refine s_if_ne dM_condition_51 (fun q => absurd rfl q) (fun _ => ?_)
        refine s_iload_n dM_condition_54 rfl rfl ?_
        refine s_iconst (v := 0) dM_condition_55 (by decide) ?_
        refine s_aload_n dM_condition_56 rfl rfl ?_
        refine s_mgi dM_condition_57 gf_M_110 rfl ?_
        refine s_top hK ?_
        refine s_iconst (v := nI 1) dM_condition_60 (by decide) ?_
        first | refine s_isubN dM_condition_61 (by omega) ?_ | refine s_isub dM_condition_61 ?_
        refine s_t3 dM_condition_62 cs_M_117 (c_inZ (by omega) hz) rfl rfl rfl rfl ?_
        refine s_goto dM_condition_65 ?_
        exact J131 j 0 _ _ hj hr hb (by simp [cdX, e])
      · refine s_iload dM_condition_49 rfl ?_
        refine s_if_ne dM_condition_51 (fun q => absurd rfl q) (fun _ => ?_)
        refine s_iload_n dM_condition_54 rfl rfl ?_
        refine s_iconst (v := 0) dM_condition_55 (by decide) ?_
        refine s_aload_n dM_condition_56 rfl rfl ?_
        refine s_mgi dM_condition_57 gf_M_110 rfl ?_
        refine s_top hK ?_
        refine s_iconst (v := nI 1) dM_condition_60 (by decide) ?_
        first | refine s_isubN dM_condition_61 (by omega) ?_ | refine s_isub dM_condition_61 ?_
        refine s_t3 dM_condition_62 cs_M_117 (c_inZ (K := K) (by omega) (Iz1 hi)) rfl rfl rfl rfl ?_
        refine s_goto dM_condition_65 ?_
        exact J131 j 0 _ _ hj hr hb (by simp [cdX, e])
    · by_cases b5 : b < 5
      · rcases iz_cases x (K := 4) (by omega) with ⟨e, hz⟩ | ⟨i, hi, rfl, e⟩
        · refine s_iload dM_condition_49 rfl ?_
          refine s_if_ne dM_condition_51 (fun _ => ?_) (fun q => absurd q (nI_ne0 (by omega) (by omega)))
          refine s_iload dM_condition_68 rfl ?_
          refine s_iconst (v := nI 5) dM_condition_70 (by decide) ?_
          refine s_icmp_ge dM_condition_71 (fun q => absurd q (nI_ge (by omega) (by omega))) (fun _ => ?_)
          refine s_iload_n dM_condition_74 rfl rfl ?_
          refine s_iconst (v := 0) dM_condition_75 (by decide) ?_
          refine s_iconst (v := nI 3) dM_condition_76 (by decide) ?_
          refine s_t3 dM_condition_77 cs_M_117 (c_inZ (K := 4) (by omega) hz) rfl rfl rfl rfl ?_
          refine s_goto dM_condition_80 ?_
          exact J131 j b _ _ hj hr hb (by simp [cdX, e, b0, b5])
        · refine s_iload dM_condition_49 rfl ?_
          refine s_if_ne dM_condition_51 (fun _ => ?_) (fun q => absurd q (nI_ne0 (by omega) (by omega)))
          refine s_iload dM_condition_68 rfl ?_
          refine s_iconst (v := nI 5) dM_condition_70 (by decide) ?_
          refine s_icmp_ge dM_condition_71 (fun q => absurd q (nI_ge (by omega) (by omega))) (fun _ => ?_)
          refine s_iload_n dM_condition_74 rfl rfl ?_
          refine s_iconst (v := 0) dM_condition_75 (by decide) ?_
          refine s_iconst (v := nI 3) dM_condition_76 (by decide) ?_
          refine s_t3 dM_condition_77 cs_M_117 (c_inZ (K := 4) (by omega) (Iz1 hi)) rfl rfl rfl rfl ?_
          refine s_goto dM_condition_80 ?_
          exact J131 j b _ _ hj hr hb (by simp [cdX, e, b0, b5])
      · by_cases b6 : b = 5
        · subst b6
          rcases iz_cases x (K := NS) (by omega) with ⟨e, hz⟩ | ⟨i, hi, rfl, e⟩
          · refine s_iload dM_condition_49 rfl ?_
            refine s_if_ne dM_condition_51 (fun _ => ?_) (fun q => absurd q (by decide))
            refine s_iload dM_condition_68 rfl ?_
            refine s_iconst (v := nI 5) dM_condition_70 (by decide) ?_
            refine s_icmp_ge dM_condition_71 (fun _ => ?_) (fun q => absurd (by decide) q)
            refine s_iload dM_condition_83 rfl ?_
            refine s_iconst (v := nI 5) dM_condition_85 (by decide) ?_
            refine s_icmp_ne dM_condition_86 (fun q => absurd rfl q) (fun _ => ?_)
            refine s_iload_n dM_condition_89 rfl rfl ?_
            refine s_iconst (v := 0) dM_condition_90 (by decide) ?_
            refine s_aload_n dM_condition_91 rfl rfl ?_
            refine s_mgi dM_condition_92 gf_M_144 rfl ?_
            refine s_top hNS ?_
            refine s_iconst (v := nI 1) dM_condition_95 (by decide) ?_
            first | refine s_isubN dM_condition_96 (by omega) ?_ | refine s_isub dM_condition_96 ?_
            refine s_t3 dM_condition_97 cs_M_117 (c_inZ (by omega) hz) rfl rfl rfl rfl ?_
            refine s_goto dM_condition_100 ?_
            exact J131 j 5 _ _ hj hr hb (by simp [cdX, e])
          · refine s_iload dM_condition_49 rfl ?_
            refine s_if_ne dM_condition_51 (fun _ => ?_) (fun q => absurd q (by decide))
            refine s_iload dM_condition_68 rfl ?_
            refine s_iconst (v := nI 5) dM_condition_70 (by decide) ?_
            refine s_icmp_ge dM_condition_71 (fun _ => ?_) (fun q => absurd (by decide) q)
            refine s_iload dM_condition_83 rfl ?_
            refine s_iconst (v := nI 5) dM_condition_85 (by decide) ?_
            refine s_icmp_ne dM_condition_86 (fun q => absurd rfl q) (fun _ => ?_)
            refine s_iload_n dM_condition_89 rfl rfl ?_
            refine s_iconst (v := 0) dM_condition_90 (by decide) ?_
            refine s_aload_n dM_condition_91 rfl rfl ?_
            refine s_mgi dM_condition_92 gf_M_144 rfl ?_
            refine s_top hNS ?_
            refine s_iconst (v := nI 1) dM_condition_95 (by decide) ?_
            first | refine s_isubN dM_condition_96 (by omega) ?_ | refine s_isub dM_condition_96 ?_
            refine s_t3 dM_condition_97 cs_M_117 (c_inZ (K := NS) (by omega) (Iz1 hi)) rfl rfl rfl rfl ?_
            refine s_goto dM_condition_100 ?_
            exact J131 j 5 _ _ hj hr hb (by simp [cdX, e])
        · have b7 : b = 6 := by omega
          subst b7
          rcases iz_cases x (K := R) (by omega) with ⟨e, hz⟩ | ⟨i, hi, rfl, e⟩
          · refine s_iload dM_condition_49 rfl ?_
            refine s_if_ne dM_condition_51 (fun _ => ?_) (fun q => absurd q (by decide))
            refine s_iload dM_condition_68 rfl ?_
            refine s_iconst (v := nI 5) dM_condition_70 (by decide) ?_
            refine s_icmp_ge dM_condition_71 (fun _ => ?_) (fun q => absurd (by decide) q)
            refine s_iload dM_condition_83 rfl ?_
            refine s_iconst (v := nI 5) dM_condition_85 (by decide) ?_
            refine s_icmp_ne dM_condition_86 (fun _ => ?_) (fun q => absurd q (by decide))
            refine s_aload_n dM_condition_103 rfl rfl ?_
            refine s_iload_n dM_condition_104 rfl rfl ?_
            refine s_v1 dM_condition_105 cv_M_141 hM_o (c_M_isRule hR (by omega) hz) rfl rfl rfl rfl ?_
            refine s_if_eq dM_condition_108 (fun _ => ?_) (fun q => absurd rfl q)
            refine s_iconst (v := 0) dM_condition_130 (by decide) ?_
            exact J131 j 6 _ _ hj hr hb (by simp [cdX, e])
          · subst hr
            by_cases hbk : σ 9 i = σ 9 j
            · refine s_iload dM_condition_49 rfl ?_
              refine s_if_ne dM_condition_51 (fun _ => ?_) (fun q => absurd q (by decide))
              refine s_iload dM_condition_68 rfl ?_
              refine s_iconst (v := nI 5) dM_condition_70 (by decide) ?_
              refine s_icmp_ge dM_condition_71 (fun _ => ?_) (fun q => absurd (by decide) q)
              refine s_iload dM_condition_83 rfl ?_
              refine s_iconst (v := nI 5) dM_condition_85 (by decide) ?_
              refine s_icmp_ne dM_condition_86 (fun _ => ?_) (fun q => absurd q (by decide))
              refine s_aload_n dM_condition_103 rfl rfl ?_
              refine s_iload_n dM_condition_104 rfl rfl ?_
              refine s_v1 dM_condition_105 cv_M_141 hM_o (c_M_isRule hR (by omega) (Iz1 hi)) rfl rfl rfl rfl ?_
              refine s_if_eq dM_condition_108 (fun q => absurd q (by decide)) (fun _ => ?_)
              refine s_aload_n dM_condition_111 rfl rfl ?_
              refine s_mga dM_condition_112 gf_M_25 rfl ?_
              refine s_iload_n dM_condition_115 rfl rfl ?_
              refine s_mald dM_condition_116 rfl rfl (show _ < 60 by omega) rfl ?_
              refine s_aload_n dM_condition_117 rfl rfl ?_
              refine s_mga dM_condition_118 gf_M_25 rfl ?_
              refine s_iload_n dM_condition_121 rfl rfl ?_
              refine s_mald dM_condition_122 rfl rfl (show _ < 60 by omega) rfl ?_
              refine s_icmp_ne dM_condition_123 (fun q => absurd hbk q) (fun _ => ?_)
              refine s_iconst (v := 1) dM_condition_126 (by decide) ?_
              refine s_goto dM_condition_127 ?_
              exact J131 j 6 _ _ hj rfl hb (by simp [cdX, e, hbk])
            · refine s_iload dM_condition_49 rfl ?_
              refine s_if_ne dM_condition_51 (fun _ => ?_) (fun q => absurd q (by decide))
              refine s_iload dM_condition_68 rfl ?_
              refine s_iconst (v := nI 5) dM_condition_70 (by decide) ?_
              refine s_icmp_ge dM_condition_71 (fun _ => ?_) (fun q => absurd (by decide) q)
              refine s_iload dM_condition_83 rfl ?_
              refine s_iconst (v := nI 5) dM_condition_85 (by decide) ?_
              refine s_icmp_ne dM_condition_86 (fun _ => ?_) (fun q => absurd q (by decide))
              refine s_aload_n dM_condition_103 rfl rfl ?_
              refine s_iload_n dM_condition_104 rfl rfl ?_
              refine s_v1 dM_condition_105 cv_M_141 hM_o (c_M_isRule hR (by omega) (Iz1 hi)) rfl rfl rfl rfl ?_
              refine s_if_eq dM_condition_108 (fun q => absurd q (by decide)) (fun _ => ?_)
              refine s_aload_n dM_condition_111 rfl rfl ?_
              refine s_mga dM_condition_112 gf_M_25 rfl ?_
              refine s_iload_n dM_condition_115 rfl rfl ?_
              refine s_mald dM_condition_116 rfl rfl (show _ < 60 by omega) rfl ?_
              refine s_aload_n dM_condition_117 rfl rfl ?_
              refine s_mga dM_condition_118 gf_M_25 rfl ?_
              refine s_iload_n dM_condition_121 rfl rfl ?_
              refine s_mald dM_condition_122 rfl rfl (show _ < 60 by omega) rfl ?_
              refine s_icmp_ne dM_condition_123 (fun _ => ?_) (fun q => absurd q hbk)
              refine s_iconst (v := 0) dM_condition_130 (by decide) ?_
              exact J131 j 6 _ _ hj rfl hb (by simp [cdX, e, hbk])
  have J16 : ∀ c5 : Int32, (c < nI 10 ∧ c5 = c ∨ ¬ c < nI 10 ∧ c5 = c - nI 10) → S mM_condition 2 0 0 Q 16 [some (vR (100, 0, 0)), some (vI r), some (vI c), some (vI x), some (vI y), some (vI c5), none, none] [] (hM σ h) 0 0 := by
    intro c5 h5
    rcases iz_cases r (K := R) (by omega) with ⟨e, hz⟩ | ⟨j, hj, hr, e⟩
    · refine s_aload_n dM_condition_16 rfl rfl ?_
      refine s_iload_n dM_condition_17 rfl rfl ?_
      refine s_v1 dM_condition_18 cv_M_141 hM_o (c_M_isRule hR (by omega) hz) rfl rfl rfl rfl ?_
      refine s_if_eq dM_condition_21 (fun _ => ?_) (fun q => absurd rfl q)
      exact bad _ (by simp [fCond, e])
    · subst hr
      rcases ix_cases c (K := 17) (by omega) with ⟨e1, hn, -⟩ | ⟨n, hn, rfl, e1⟩
      · have ebd : fCond σ (nI j) c x y K R NS = (-1, σ) := by simp [fCond, cdB, e1]
        by_cases c0 : c < 0
        · refine s_aload_n dM_condition_16 rfl rfl ?_
          refine s_iload_n dM_condition_17 rfl rfl ?_
          refine s_v1 dM_condition_18 cv_M_141 hM_o (c_M_isRule hR (by omega) (Iz1 hj)) rfl rfl rfl rfl ?_
          refine s_if_eq dM_condition_21 (fun q => absurd q (by decide)) (fun _ => ?_)
          refine s_iload_n dM_condition_24 rfl rfl ?_
          refine s_if_lt dM_condition_25 (fun _ => ?_) (fun q => absurd c0 q)
          exact bad _ ebd
        · have c17 : nI 17 ≤ c := Int32.not_lt.mp fun q => hn ⟨Int32.not_lt.mp c0, q⟩
          have c10 : ¬ c < nI 10 := Int32.not_lt.mpr (Int32.le_trans (show nI 10 ≤ nI 17 by decide) c17)
          have e5 : c5 = c - nI 10 := by rcases h5 with ⟨q, -⟩ | ⟨-, q⟩ <;> first | exact absurd q c10 | exact q
          subst e5
          refine s_aload_n dM_condition_16 rfl rfl ?_
          refine s_iload_n dM_condition_17 rfl rfl ?_
          refine s_v1 dM_condition_18 cv_M_141 hM_o (c_M_isRule hR (by omega) (Iz1 hj)) rfl rfl rfl rfl ?_
          refine s_if_eq dM_condition_21 (fun q => absurd q (by decide)) (fun _ => ?_)
          refine s_iload_n dM_condition_24 rfl rfl ?_
          refine s_if_lt dM_condition_25 (fun q => absurd q c0) (fun _ => ?_)
          refine s_iload dM_condition_28 rfl ?_
          refine s_bipush (v := nI 6) dM_condition_30 (by decide) ?_
          refine s_icmp_gt dM_condition_32 (fun _ => ?_) (fun q => absurd (i32_sub10 c17) q)
          exact bad _ ebd
      · have n0 : ¬ nI n < 0 := nI_pos (by omega)
        by_cases n6 : n ≤ 6
        · have eb : cdB (nI n) = some n := by simp [cdB, e1, n6]
          have e5 : c5 = nI n := by rcases h5 with ⟨-, q⟩ | ⟨q, -⟩ <;> first | exact q | exact absurd (nI_lt (by omega) (by omega)) q
          subst e5
          refine s_aload_n dM_condition_16 rfl rfl ?_
          refine s_iload_n dM_condition_17 rfl rfl ?_
          refine s_v1 dM_condition_18 cv_M_141 hM_o (c_M_isRule hR (by omega) (Iz1 hj)) rfl rfl rfl rfl ?_
          refine s_if_eq dM_condition_21 (fun q => absurd q (by decide)) (fun _ => ?_)
          refine s_iload_n dM_condition_24 rfl rfl ?_
          refine s_if_lt dM_condition_25 (fun q => absurd q n0) (fun _ => ?_)
          refine s_iload dM_condition_28 rfl ?_
          refine s_bipush (v := nI 6) dM_condition_30 (by decide) ?_
          refine s_icmp_gt dM_condition_32 (fun q => absurd q (nI_nlt (by omega) (by omega))) (fun _ => ?_)
          refine s_iload_n dM_condition_35 rfl rfl ?_
          refine s_bipush (v := nI 6) dM_condition_36 (by decide) ?_
          refine s_icmp_le dM_condition_38 (fun _ => ?_) (fun q => absurd (nI_le (by omega) (by omega)) q)
          exact J49 j n hj rfl eb n6
        · by_cases n10 : n < 10
          · have ebd : fCond σ (nI j) (nI n) x y K R NS = (-1, σ) := by simp [fCond, cdB, e1, n6, n10]
            have e5 : c5 = nI n := by rcases h5 with ⟨-, q⟩ | ⟨q, -⟩ <;> first | exact q | exact absurd (nI_lt (by omega) (by omega)) q
            subst e5
            refine s_aload_n dM_condition_16 rfl rfl ?_
            refine s_iload_n dM_condition_17 rfl rfl ?_
            refine s_v1 dM_condition_18 cv_M_141 hM_o (c_M_isRule hR (by omega) (Iz1 hj)) rfl rfl rfl rfl ?_
            refine s_if_eq dM_condition_21 (fun q => absurd q (by decide)) (fun _ => ?_)
            refine s_iload_n dM_condition_24 rfl rfl ?_
            refine s_if_lt dM_condition_25 (fun q => absurd q n0) (fun _ => ?_)
            refine s_iload dM_condition_28 rfl ?_
            refine s_bipush (v := nI 6) dM_condition_30 (by decide) ?_
            refine s_icmp_gt dM_condition_32 (fun _ => ?_) (fun q => absurd (nI_lt (by omega) (by omega)) q)
            exact bad _ ebd
          · have eb : cdB (nI n) = some (n - 10) := by simp [cdB, e1, n6, n10]
            have e5 : c5 = nI (n - 10) := by
              rcases h5 with ⟨q, -⟩ | ⟨-, q⟩
              · exact absurd q (nI_nlt (by omega) (by omega))
              · rw [q, pk_sub (by omega)]
            subst e5
            refine s_aload_n dM_condition_16 rfl rfl ?_
            refine s_iload_n dM_condition_17 rfl rfl ?_
            refine s_v1 dM_condition_18 cv_M_141 hM_o (c_M_isRule hR (by omega) (Iz1 hj)) rfl rfl rfl rfl ?_
            refine s_if_eq dM_condition_21 (fun q => absurd q (by decide)) (fun _ => ?_)
            refine s_iload_n dM_condition_24 rfl rfl ?_
            refine s_if_lt dM_condition_25 (fun q => absurd q n0) (fun _ => ?_)
            refine s_iload dM_condition_28 rfl ?_
            refine s_bipush (v := nI 6) dM_condition_30 (by decide) ?_
            refine s_icmp_gt dM_condition_32 (fun q => absurd q (nI_nlt (by omega) (by omega))) (fun _ => ?_)
            refine s_iload_n dM_condition_35 rfl rfl ?_
            refine s_bipush (v := nI 6) dM_condition_36 (by decide) ?_
            refine s_icmp_le dM_condition_38 (fun q => absurd q (nI_ge (by omega) (by omega))) (fun _ => ?_)
            refine s_iload_n dM_condition_41 rfl rfl ?_
            refine s_bipush (v := nI 10) dM_condition_42 (by decide) ?_
            refine s_icmp_ge dM_condition_44 (fun _ => ?_) (fun q => absurd (nI_le (by omega) (by omega)) q)
            exact J49 j (n - 10) hj rfl eb (by omega)
  by_cases c10 : c < nI 10
  · refine s_iload_n dM_condition_0 rfl rfl ?_
    refine s_bipush (v := nI 10) dM_condition_1 (by decide) ?_
    refine s_icmp_lt dM_condition_3 (fun _ => ?_) (fun q => absurd c10 q)
    refine s_iload_n dM_condition_13 rfl rfl ?_
    refine s_istore dM_condition_14 rfl ?_
    exact J16 c (Or.inl ⟨c10, rfl⟩)
  · refine s_iload_n dM_condition_0 rfl rfl ?_
    refine s_bipush (v := nI 10) dM_condition_1 (by decide) ?_
    refine s_icmp_lt dM_condition_3 (fun q => absurd q c10) (fun _ => ?_)
    refine s_iload_n dM_condition_6 rfl rfl ?_
    refine s_bipush (v := nI 10) dM_condition_7 (by decide) ?_
    refine s_isub dM_condition_9 ?_
    refine s_goto dM_condition_10 ?_
    refine s_istore dM_condition_14 rfl ?_
    exact J16 _ (Or.inr ⟨c10, rfl⟩)

/-! phrases -/
def isTo (σ : Sg) (n a b : Int32) : Nat → Bool
  | 0 => false
  | k + 1 => isTo σ n a b k || (decide (σ 51 (3 * k) = n) && decide (σ 51 (3 * k + 1) = a) && decide (σ 51 (3 * k + 2) = b))
def fPhrase (σ : Sg) (n a b : Int32) (K N : Nat) : Int32 × Sg := match ix n 10, ix a K, ix b K with
  | some _, some _, some _ => if isTo σ n a b N then (-2, σ) else if N = 40 then (-3, σ) else (nI N, us (us (us (us σ 51 (3 * N) n) 51 (3 * N + 1) a) 51 (3 * N + 2) b) 50 0 (nI (N + 1)))
  | _, _, _ => (-1, σ)
theorem isTo_of {σ : Sg} {n a b : Int32} {N k : Nat} (hk : k < N) (h : (decide (σ 51 (3 * k) = n) && decide (σ 51 (3 * k + 1) = a) && decide (σ 51 (3 * k + 2) = b)) = true) : isTo σ n a b N = true := by
  induction N with
  | zero => omega
  | succ N ih =>
    by_cases e : k = N
    · subst e
      simp only [isTo, h, Bool.or_true]
    · simp only [isTo, ih (by omega), Bool.true_or]
theorem l_M_phrase {σ : Sg} {h : Hp} {N : Nat} {n a b : Int32} {Q : Option PV → Hp → Prop} (hN : σ 50 0 = nI N) (h3 : N ≤ 40) (q1 : isTo σ n a b N = true → Q (some (vI (-2))) (hM σ h)) (q2 : isTo σ n a b N = false → S mM_phrase 1 0 0 Q 104 [some (vR (100, 0, 0)), some (vI n), some (vI a), some (vI b), some (vI (nI N))] [] (hM σ h) 0 0) :
    ∀ (m k : Nat), k + m = N → isTo σ n a b k = false → S mM_phrase 1 0 0 Q 43 [some (vR (100, 0, 0)), some (vI n), some (vI a), some (vI b), some (vI (nI k))] [] (hM σ h) 0 0 := by
  intro m
  induction m with
  | zero =>
    intro k hk ht
    have : k = N := by omega
    subst this
    refine s_iload dM_phrase_43 rfl ?_
    refine s_aload_n dM_phrase_45 rfl rfl ?_
    refine s_mgi dM_phrase_46 gf_M_251 rfl ?_
    refine s_top hN ?_
    refine s_icmp_ge dM_phrase_49 (fun _ => ?_) (fun q => absurd (nI_le (Nat.le_refl _) (by omega)) q)
    exact q2 ht
  | succ m ih =>
    intro k hk ht
    have hkN : k < N := by omega
    have nx : isTo σ n a b (k + 1) = false → S mM_phrase 1 0 0 Q 98 [some (vR (100, 0, 0)), some (vI n), some (vI a), some (vI b), some (vI (nI k))] [] (hM σ h) 0 0 := by
      intro e
      first | refine s_iincN dM_phrase_98 rfl rfl ?_ | refine s_iinc dM_phrase_98 rfl rfl ?_
      refine s_goto dM_phrase_101 ?_
      exact ih (k + 1) (by omega) e
    by_cases e1 : σ 51 (3 * k) = n
    · by_cases e2 : σ 51 (3 * k + 1) = a
      · by_cases e3 : σ 51 (3 * k + 2) = b
        · refine s_iload dM_phrase_43 rfl ?_
          refine s_aload_n dM_phrase_45 rfl rfl ?_
          refine s_mgi dM_phrase_46 gf_M_251 rfl ?_
          refine s_top hN ?_
          refine s_icmp_ge dM_phrase_49 (fun q => absurd q (nI_ge hkN (by omega))) (fun _ => ?_)
          refine s_aload_n dM_phrase_52 rfl rfl ?_
          refine s_mga dM_phrase_53 gf_M_107 rfl ?_
          refine s_iconst (v := nI 3) dM_phrase_56 (by decide) ?_
          refine s_iload dM_phrase_57 rfl ?_
          first | refine s_imulN dM_phrase_59 ?_ | refine s_imul dM_phrase_59 ?_
          refine s_mald dM_phrase_60 rfl rfl (show _ < 120 by omega) rfl ?_
          refine s_iload_n dM_phrase_61 rfl rfl ?_
          refine s_icmp_ne dM_phrase_62 (fun q => absurd e1 q) (fun _ => ?_)
          refine s_aload_n dM_phrase_65 rfl rfl ?_
          refine s_mga dM_phrase_66 gf_M_107 rfl ?_
          refine s_iconst (v := nI 3) dM_phrase_69 (by decide) ?_
          refine s_iload dM_phrase_70 rfl ?_
          first | refine s_imulN dM_phrase_72 ?_ | refine s_imul dM_phrase_72 ?_
          refine s_iconst (v := nI 1) dM_phrase_73 (by decide) ?_
          first | refine s_iaddN dM_phrase_74 ?_ | refine s_iadd dM_phrase_74 ?_
          refine s_mald dM_phrase_75 rfl rfl (show _ < 120 by omega) rfl ?_
          refine s_iload_n dM_phrase_76 rfl rfl ?_
          refine s_icmp_ne dM_phrase_77 (fun q => absurd e2 q) (fun _ => ?_)
          refine s_aload_n dM_phrase_80 rfl rfl ?_
          refine s_mga dM_phrase_81 gf_M_107 rfl ?_
          refine s_iconst (v := nI 3) dM_phrase_84 (by decide) ?_
          refine s_iload dM_phrase_85 rfl ?_
          first | refine s_imulN dM_phrase_87 ?_ | refine s_imul dM_phrase_87 ?_
          refine s_iconst (v := nI 2) dM_phrase_88 (by decide) ?_
          first | refine s_iaddN dM_phrase_89 ?_ | refine s_iadd dM_phrase_89 ?_
          refine s_mald dM_phrase_90 rfl rfl (show _ < 120 by omega) rfl ?_
          refine s_iload_n dM_phrase_91 rfl rfl ?_
          refine s_icmp_ne dM_phrase_92 (fun q => absurd e3 q) (fun _ => ?_)
          refine s_bipush (v := (-2)) dM_phrase_95 (by decide) ?_
          refine s_iret dM_phrase_97 rfl (by first | exact Nat.le_refl _ | decide | omega) (by first | exact Nat.le_refl _ | decide | omega) ?_
          exact q1 (isTo_of hkN (by simp [e1, e2, e3]))
        · refine s_iload dM_phrase_43 rfl ?_
          refine s_aload_n dM_phrase_45 rfl rfl ?_
          refine s_mgi dM_phrase_46 gf_M_251 rfl ?_
          refine s_top hN ?_
          refine s_icmp_ge dM_phrase_49 (fun q => absurd q (nI_ge hkN (by omega))) (fun _ => ?_)
          refine s_aload_n dM_phrase_52 rfl rfl ?_
          refine s_mga dM_phrase_53 gf_M_107 rfl ?_
          refine s_iconst (v := nI 3) dM_phrase_56 (by decide) ?_
          refine s_iload dM_phrase_57 rfl ?_
          first | refine s_imulN dM_phrase_59 ?_ | refine s_imul dM_phrase_59 ?_
          refine s_mald dM_phrase_60 rfl rfl (show _ < 120 by omega) rfl ?_
          refine s_iload_n dM_phrase_61 rfl rfl ?_
          refine s_icmp_ne dM_phrase_62 (fun q => absurd e1 q) (fun _ => ?_)
          refine s_aload_n dM_phrase_65 rfl rfl ?_
          refine s_mga dM_phrase_66 gf_M_107 rfl ?_
          refine s_iconst (v := nI 3) dM_phrase_69 (by decide) ?_
          refine s_iload dM_phrase_70 rfl ?_
          first | refine s_imulN dM_phrase_72 ?_ | refine s_imul dM_phrase_72 ?_
          refine s_iconst (v := nI 1) dM_phrase_73 (by decide) ?_
          first | refine s_iaddN dM_phrase_74 ?_ | refine s_iadd dM_phrase_74 ?_
          refine s_mald dM_phrase_75 rfl rfl (show _ < 120 by omega) rfl ?_
          refine s_iload_n dM_phrase_76 rfl rfl ?_
          refine s_icmp_ne dM_phrase_77 (fun q => absurd e2 q) (fun _ => ?_)
          refine s_aload_n dM_phrase_80 rfl rfl ?_
          refine s_mga dM_phrase_81 gf_M_107 rfl ?_
          refine s_iconst (v := nI 3) dM_phrase_84 (by decide) ?_
          refine s_iload dM_phrase_85 rfl ?_
          first | refine s_imulN dM_phrase_87 ?_ | refine s_imul dM_phrase_87 ?_
          refine s_iconst (v := nI 2) dM_phrase_88 (by decide) ?_
          first | refine s_iaddN dM_phrase_89 ?_ | refine s_iadd dM_phrase_89 ?_
          refine s_mald dM_phrase_90 rfl rfl (show _ < 120 by omega) rfl ?_
          refine s_iload_n dM_phrase_91 rfl rfl ?_
          refine s_icmp_ne dM_phrase_92 (fun _ => ?_) (fun q => absurd q e3)
          exact nx (by simp [isTo, ht, e3])
      · refine s_iload dM_phrase_43 rfl ?_
        refine s_aload_n dM_phrase_45 rfl rfl ?_
        refine s_mgi dM_phrase_46 gf_M_251 rfl ?_
        refine s_top hN ?_
        refine s_icmp_ge dM_phrase_49 (fun q => absurd q (nI_ge hkN (by omega))) (fun _ => ?_)
        refine s_aload_n dM_phrase_52 rfl rfl ?_
        refine s_mga dM_phrase_53 gf_M_107 rfl ?_
        refine s_iconst (v := nI 3) dM_phrase_56 (by decide) ?_
        refine s_iload dM_phrase_57 rfl ?_
        first | refine s_imulN dM_phrase_59 ?_ | refine s_imul dM_phrase_59 ?_
        refine s_mald dM_phrase_60 rfl rfl (show _ < 120 by omega) rfl ?_
        refine s_iload_n dM_phrase_61 rfl rfl ?_
        refine s_icmp_ne dM_phrase_62 (fun q => absurd e1 q) (fun _ => ?_)
        refine s_aload_n dM_phrase_65 rfl rfl ?_
        refine s_mga dM_phrase_66 gf_M_107 rfl ?_
        refine s_iconst (v := nI 3) dM_phrase_69 (by decide) ?_
        refine s_iload dM_phrase_70 rfl ?_
        first | refine s_imulN dM_phrase_72 ?_ | refine s_imul dM_phrase_72 ?_
        refine s_iconst (v := nI 1) dM_phrase_73 (by decide) ?_
        first | refine s_iaddN dM_phrase_74 ?_ | refine s_iadd dM_phrase_74 ?_
        refine s_mald dM_phrase_75 rfl rfl (show _ < 120 by omega) rfl ?_
        refine s_iload_n dM_phrase_76 rfl rfl ?_
        refine s_icmp_ne dM_phrase_77 (fun _ => ?_) (fun q => absurd q e2)
        exact nx (by simp [isTo, ht, e2])
    · refine s_iload dM_phrase_43 rfl ?_
      refine s_aload_n dM_phrase_45 rfl rfl ?_
      refine s_mgi dM_phrase_46 gf_M_251 rfl ?_
      refine s_top hN ?_
      refine s_icmp_ge dM_phrase_49 (fun q => absurd q (nI_ge hkN (by omega))) (fun _ => ?_)
      refine s_aload_n dM_phrase_52 rfl rfl ?_
      refine s_mga dM_phrase_53 gf_M_107 rfl ?_
      refine s_iconst (v := nI 3) dM_phrase_56 (by decide) ?_
      refine s_iload dM_phrase_57 rfl ?_
      first | refine s_imulN dM_phrase_59 ?_ | refine s_imul dM_phrase_59 ?_
      refine s_mald dM_phrase_60 rfl rfl (show _ < 120 by omega) rfl ?_
      refine s_iload_n dM_phrase_61 rfl rfl ?_
      refine s_icmp_ne dM_phrase_62 (fun _ => ?_) (fun q => absurd q e1)
      exact nx (by simp [isTo, ht, e1])
theorem c_M_phrase {σ : Sg} {h : Hp} {K N : Nat} (n a b : Int32) (hK : σ 0 0 = nI K) (h1 : 1 ≤ K) (h2 : K ≤ 20) (hN : σ 50 0 = nI N) (h3 : N ≤ 40) : ConF mM_phrase 1 [vR (100, 0, 0), vI n, vI a, vI b] (hM σ h) (some (vI (fPhrase σ n a b K N).1)) (hM (fPhrase σ n a b K N).2 h) := by
  unfold fPhrase
  refine c_enter (by decide +kernel) rfl rfl ?_
  rcases iz_cases n (K := 10) (by omega) with ⟨e, hz⟩ | ⟨j, hj, rfl, e⟩
  · rw [e]
    refine s_iload_n dM_phrase_0 rfl rfl ?_
    refine s_iconst (v := 0) dM_phrase_1 (by decide) ?_
    refine s_bipush (v := nI 9) dM_phrase_2 (by decide) ?_
    refine s_t3 dM_phrase_4 cs_M_117 (c_inZ (K := 10) (by omega) hz) rfl rfl rfl rfl ?_
    refine s_if_eq dM_phrase_7 (fun _ => ?_) (fun q => absurd rfl q)
    refine s_iconst (v := (-1)) dM_phrase_38 (by decide) ?_
    refine s_iret dM_phrase_39 rfl (by first | exact Nat.le_refl _ | decide | omega) (by first | exact Nat.le_refl _ | decide | omega) ?_
    exact ⟨rfl, rfl⟩
  · rcases iz_cases a (K := K) (by omega) with ⟨e1, hz⟩ | ⟨i, hi, rfl, e1⟩
    · rw [e, e1]
      refine s_iload_n dM_phrase_0 rfl rfl ?_
      refine s_iconst (v := 0) dM_phrase_1 (by decide) ?_
      refine s_bipush (v := nI 9) dM_phrase_2 (by decide) ?_
      refine s_t3 dM_phrase_4 cs_M_117 (c_inZ (K := 10) (by omega) (Iz1 hj)) rfl rfl rfl rfl ?_
      refine s_if_eq dM_phrase_7 (fun q => absurd q (by decide)) (fun _ => ?_)
      refine s_iload_n dM_phrase_10 rfl rfl ?_
      refine s_iconst (v := 0) dM_phrase_11 (by decide) ?_
      refine s_aload_n dM_phrase_12 rfl rfl ?_
      refine s_mgi dM_phrase_13 gf_M_110 rfl ?_
      refine s_top hK ?_
      refine s_iconst (v := nI 1) dM_phrase_16 (by decide) ?_
      first | refine s_isubN dM_phrase_17 (by omega) ?_ | refine s_isub dM_phrase_17 ?_
      refine s_t3 dM_phrase_18 cs_M_117 (c_inZ (by omega) hz) rfl rfl rfl rfl ?_
      refine s_if_eq dM_phrase_21 (fun _ => ?_) (fun q => absurd rfl q)
      refine s_iconst (v := (-1)) dM_phrase_38 (by decide) ?_
      refine s_iret dM_phrase_39 rfl (by first | exact Nat.le_refl _ | decide | omega) (by first | exact Nat.le_refl _ | decide | omega) ?_
      exact ⟨rfl, rfl⟩
    · rcases iz_cases b (K := K) (by omega) with ⟨e2, hz⟩ | ⟨i2, hi2, rfl, e2⟩
      · rw [e, e1, e2]
        refine s_iload_n dM_phrase_0 rfl rfl ?_
        refine s_iconst (v := 0) dM_phrase_1 (by decide) ?_
        refine s_bipush (v := nI 9) dM_phrase_2 (by decide) ?_
        refine s_t3 dM_phrase_4 cs_M_117 (c_inZ (K := 10) (by omega) (Iz1 hj)) rfl rfl rfl rfl ?_
        refine s_if_eq dM_phrase_7 (fun q => absurd q (by decide)) (fun _ => ?_)
        refine s_iload_n dM_phrase_10 rfl rfl ?_
        refine s_iconst (v := 0) dM_phrase_11 (by decide) ?_
        refine s_aload_n dM_phrase_12 rfl rfl ?_
        refine s_mgi dM_phrase_13 gf_M_110 rfl ?_
        refine s_top hK ?_
        refine s_iconst (v := nI 1) dM_phrase_16 (by decide) ?_
        first | refine s_isubN dM_phrase_17 (by omega) ?_ | refine s_isub dM_phrase_17 ?_
        refine s_t3 dM_phrase_18 cs_M_117 (c_inZ (K := K) (by omega) (Iz1 hi)) rfl rfl rfl rfl ?_
        refine s_if_eq dM_phrase_21 (fun q => absurd q (by decide)) (fun _ => ?_)
        refine s_iload_n dM_phrase_24 rfl rfl ?_
        refine s_iconst (v := 0) dM_phrase_25 (by decide) ?_
        refine s_aload_n dM_phrase_26 rfl rfl ?_
        refine s_mgi dM_phrase_27 gf_M_110 rfl ?_
        refine s_top hK ?_
        refine s_iconst (v := nI 1) dM_phrase_30 (by decide) ?_
        first | refine s_isubN dM_phrase_31 (by omega) ?_ | refine s_isub dM_phrase_31 ?_
        refine s_t3 dM_phrase_32 cs_M_117 (c_inZ (by omega) hz) rfl rfl rfl rfl ?_
        refine s_if_ne dM_phrase_35 (fun q => absurd rfl q) (fun _ => ?_)
        refine s_iconst (v := (-1)) dM_phrase_38 (by decide) ?_
        refine s_iret dM_phrase_39 rfl (by first | exact Nat.le_refl _ | decide | omega) (by first | exact Nat.le_refl _ | decide | omega) ?_
        exact ⟨rfl, rfl⟩
      · rw [e, e1, e2]
        dsimp only
        refine s_iload_n dM_phrase_0 rfl rfl ?_
        refine s_iconst (v := 0) dM_phrase_1 (by decide) ?_
        refine s_bipush (v := nI 9) dM_phrase_2 (by decide) ?_
        refine s_t3 dM_phrase_4 cs_M_117 (c_inZ (K := 10) (by omega) (Iz1 hj)) rfl rfl rfl rfl ?_
        refine s_if_eq dM_phrase_7 (fun q => absurd q (by decide)) (fun _ => ?_)
        refine s_iload_n dM_phrase_10 rfl rfl ?_
        refine s_iconst (v := 0) dM_phrase_11 (by decide) ?_
        refine s_aload_n dM_phrase_12 rfl rfl ?_
        refine s_mgi dM_phrase_13 gf_M_110 rfl ?_
        refine s_top hK ?_
        refine s_iconst (v := nI 1) dM_phrase_16 (by decide) ?_
        first | refine s_isubN dM_phrase_17 (by omega) ?_ | refine s_isub dM_phrase_17 ?_
        refine s_t3 dM_phrase_18 cs_M_117 (c_inZ (K := K) (by omega) (Iz1 hi)) rfl rfl rfl rfl ?_
        refine s_if_eq dM_phrase_21 (fun q => absurd q (by decide)) (fun _ => ?_)
        refine s_iload_n dM_phrase_24 rfl rfl ?_
        refine s_iconst (v := 0) dM_phrase_25 (by decide) ?_
        refine s_aload_n dM_phrase_26 rfl rfl ?_
        refine s_mgi dM_phrase_27 gf_M_110 rfl ?_
        refine s_top hK ?_
        refine s_iconst (v := nI 1) dM_phrase_30 (by decide) ?_
        first | refine s_isubN dM_phrase_31 (by omega) ?_ | refine s_isub dM_phrase_31 ?_
        refine s_t3 dM_phrase_32 cs_M_117 (c_inZ (K := K) (by omega) (Iz1 hi2)) rfl rfl rfl rfl ?_
        refine s_if_ne dM_phrase_35 (fun _ => ?_) (fun q => absurd q (by decide))
        refine s_iconst (v := 0) dM_phrase_40 (by decide) ?_
        refine s_istore dM_phrase_41 rfl ?_
        refine l_M_phrase hN h3 (fun q => ?_) (fun q => ?_) N 0 (by omega) rfl
        · rw [if_pos q]
          exact ⟨rfl, rfl⟩
        · rw [if_neg (by rw [q]; decide)]
          by_cases h20 : N = 40
          · subst h20
            refine s_aload_n dM_phrase_104 rfl rfl ?_
            refine s_mgi dM_phrase_105 gf_M_251 rfl ?_
            refine s_top hN ?_
            refine s_bipush (v := nI 40) dM_phrase_108 (by decide) ?_
            refine s_icmp_ne dM_phrase_110 (fun q => absurd rfl q) (fun _ => ?_)
            refine s_bipush (v := (-3)) dM_phrase_113 (by decide) ?_
            refine s_iret dM_phrase_115 rfl (by first | exact Nat.le_refl _ | decide | omega) (by first | exact Nat.le_refl _ | decide | omega) ?_
            exact ⟨rfl, rfl⟩
          · refine s_aload_n dM_phrase_104 rfl rfl ?_
            refine s_mgi dM_phrase_105 gf_M_251 rfl ?_
            refine s_top hN ?_
            refine s_bipush (v := nI 40) dM_phrase_108 (by decide) ?_
            refine s_icmp_ne dM_phrase_110 (fun _ => ?_) (fun q => absurd q (nI_ne h20 (by omega) (by omega)))
            refine s_aload_n dM_phrase_116 rfl rfl ?_
            refine s_mga dM_phrase_117 gf_M_107 rfl ?_
            refine s_iconst (v := nI 3) dM_phrase_120 (by decide) ?_
            refine s_aload_n dM_phrase_121 rfl rfl ?_
            refine s_mgi dM_phrase_122 gf_M_251 rfl ?_
            refine s_top hN ?_
            first | refine s_imulN dM_phrase_125 ?_ | refine s_imul dM_phrase_125 ?_
            refine s_iload_n dM_phrase_126 rfl rfl ?_
            refine s_mast dM_phrase_127 rfl rfl (show _ < 120 by omega) rfl ?_
            refine s_aload_n dM_phrase_128 rfl rfl ?_
            refine s_mga dM_phrase_129 gf_M_107 rfl ?_
            refine s_iconst (v := nI 3) dM_phrase_132 (by decide) ?_
            refine s_aload_n dM_phrase_133 rfl rfl ?_
            refine s_mgi dM_phrase_134 gf_M_251 rfl ?_
            refine s_top hN ?_
            first | refine s_imulN dM_phrase_137 ?_ | refine s_imul dM_phrase_137 ?_
            refine s_iconst (v := nI 1) dM_phrase_138 (by decide) ?_
            first | refine s_iaddN dM_phrase_139 ?_ | refine s_iadd dM_phrase_139 ?_
            refine s_iload_n dM_phrase_140 rfl rfl ?_
            refine s_mast dM_phrase_141 rfl rfl (show _ < 120 by omega) rfl ?_
            refine s_aload_n dM_phrase_142 rfl rfl ?_
            refine s_mga dM_phrase_143 gf_M_107 rfl ?_
            refine s_iconst (v := nI 3) dM_phrase_146 (by decide) ?_
            refine s_aload_n dM_phrase_147 rfl rfl ?_
            refine s_mgi dM_phrase_148 gf_M_251 rfl ?_
            refine s_top hN ?_
            first | refine s_imulN dM_phrase_151 ?_ | refine s_imul dM_phrase_151 ?_
            refine s_iconst (v := nI 2) dM_phrase_152 (by decide) ?_
            first | refine s_iaddN dM_phrase_153 ?_ | refine s_iadd dM_phrase_153 ?_
            refine s_iload_n dM_phrase_154 rfl rfl ?_
            refine s_mast dM_phrase_155 rfl rfl (show _ < 120 by omega) rfl ?_
            refine s_aload_n dM_phrase_156 rfl rfl ?_
            refine s_dup dM_phrase_157 rfl ?_
            refine s_mgi dM_phrase_158 gf_M_251 rfl ?_
            refine s_top hN ?_
            refine s_iconst (v := nI 1) dM_phrase_161 (by decide) ?_
            first | refine s_iaddN dM_phrase_162 ?_ | refine s_iadd dM_phrase_162 ?_
            refine s_mpi dM_phrase_163 gf_M_251 rfl rfl (by first | exact ⟨_, rfl⟩ | exact Or.inl rfl | exact Or.inr rfl) ?_
            refine s_aload_n dM_phrase_166 rfl rfl ?_
            refine s_mgi dM_phrase_167 gf_M_251 rfl ?_
            refine s_top (show _ = nI (N + 1) from rfl) ?_
            refine s_iconst (v := nI 1) dM_phrase_170 (by decide) ?_
            first | refine s_isubN dM_phrase_171 (by omega) ?_ | refine s_isub dM_phrase_171 ?_
            refine s_iret dM_phrase_172 rfl (by first | exact Nat.le_refl _ | decide | omega) (by first | exact Nat.le_refl _ | decide | omega) ?_
            rw [if_neg h20]
            exact ⟨by first | rfl | rw [nI_pred]; rfl, rfl⟩
