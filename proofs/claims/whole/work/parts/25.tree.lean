/-! the tree of kinds -/
def nt (x : Int32) : Nat := x.toNatClampNeg
theorem nt_nI {a : Nat} (h : a < 2 ^ 30) : nt (nI a) = a := nI_clamp (by omega)
/-- the kinds' parents are well told -/
def KP (σ : Sg) (K : Nat) : Prop := 1 ≤ K ∧ K ≤ 20 ∧ σ 1 0 = -4 ∧ ∀ i, 0 < i → i < K → ∃ p, p < i ∧ σ 1 i = nI p
def und (σ : Sg) : Nat → Nat → Nat → Bool
  | 0, k, o => decide (k = o)
  | n + 1, k, o => decide (k = o) || (decide (k ≠ 0) && und σ n (nt (σ 1 k)) o)
def dpt (σ : Sg) : Nat → Nat → Nat
  | 0, _ => 0
  | n + 1, k => if k = 0 then 0 else dpt σ n (nt (σ 1 k)) + 1
abbrev zi (b : Bool) : Int32 := if b = true then 1 else 0
theorem nI_m4 {k : Nat} (h : k < 2 ^ 30) : ¬ nI k = -4 := fun q => by
  have h1 := nI_toInt (n := k) (by omega)
  rw [q] at h1
  have h2 : (-4 : Int32).toInt = -4 := by decide
  omega
theorem l_M_isUnder {σ : Sg} {h : Hp} {K o k0 : Nat} {Q : Option PV → Hp → Prop} (P : KP σ K) (ho : o < K) : ∀ (n k : Nat), k ≤ n → k < K → Q (some (vI (zi (und σ n k o)))) (hM σ h) → S mM_isUnder 0 0 0 Q 2 [some (vR (100, 0, 0)), some (vI (nI k0)), some (vI (nI o)), some (vI (nI k))] [] (hM σ h) 0 0 := by
  obtain ⟨p1, p2, p3, p4⟩ := P
  intro n
  induction n with
  | zero =>
    intro k hk hkK hq
    have : k = 0 := by omega
    subst this
    by_cases e : 0 = o
    · subst e
      refine s_iload_n dM_isUnder_2 rfl rfl ?_
      refine s_bipush (v := (-4)) dM_isUnder_3 (by decide) ?_
      refine s_icmp_eq dM_isUnder_5 (fun q => absurd q (nI_m4 (by omega))) (fun _ => ?_)
      refine s_iload_n dM_isUnder_8 rfl rfl ?_
      refine s_iload_n dM_isUnder_9 rfl rfl ?_
      refine s_icmp_eq dM_isUnder_10 (fun _ => ?_) (fun q => absurd rfl q)
      refine s_iload_n dM_isUnder_23 rfl rfl ?_
      refine s_iload_n dM_isUnder_24 rfl rfl ?_
      refine s_icmp_ne dM_isUnder_25 (fun q => absurd rfl q) (fun _ => ?_)
      refine s_iconst (v := 1) dM_isUnder_28 (by decide) ?_
      refine s_goto dM_isUnder_29 ?_
      refine s_zret dM_isUnder_33 rfl (by first | exact Or.inl rfl | exact Or.inr rfl | assumption) (by first | exact Nat.le_refl _ | decide | omega) (by first | exact Nat.le_refl _ | decide | omega) ?_
      simpa [und, zi] using hq
    · refine s_iload_n dM_isUnder_2 rfl rfl ?_
      refine s_bipush (v := (-4)) dM_isUnder_3 (by decide) ?_
      refine s_icmp_eq dM_isUnder_5 (fun q => absurd q (nI_m4 (by omega))) (fun _ => ?_)
      refine s_iload_n dM_isUnder_8 rfl rfl ?_
      refine s_iload_n dM_isUnder_9 rfl rfl ?_
      refine s_icmp_eq dM_isUnder_10 (fun q => absurd q (nI_ne e (by omega) (by omega))) (fun _ => ?_)
      refine s_aload_n dM_isUnder_13 rfl rfl ?_
      refine s_mga dM_isUnder_14 gf_M_7 rfl ?_
      refine s_iload_n dM_isUnder_17 rfl rfl ?_
      refine s_mald dM_isUnder_18 rfl rfl (show _ < 20 by omega) rfl ?_
      refine s_top p3 ?_
      refine s_istore_n dM_isUnder_19 rfl rfl ?_
      refine s_goto dM_isUnder_20 ?_
      refine s_iload_n dM_isUnder_2 rfl rfl ?_
      refine s_bipush (v := (-4)) dM_isUnder_3 (by decide) ?_
      refine s_icmp_eq dM_isUnder_5 (fun _ => ?_) (fun q => absurd rfl q)
      refine s_iload_n dM_isUnder_23 rfl rfl ?_
      refine s_iload_n dM_isUnder_24 rfl rfl ?_
      refine s_icmp_ne dM_isUnder_25 (fun _ => ?_) (fun q => absurd q (fun q => nI_m4 (k := o) (by omega) q.symm))
      refine s_iconst (v := 0) dM_isUnder_32 (by decide) ?_
      refine s_zret dM_isUnder_33 rfl (by first | exact Or.inl rfl | exact Or.inr rfl | assumption) (by first | exact Nat.le_refl _ | decide | omega) (by first | exact Nat.le_refl _ | decide | omega) ?_
      simpa [und, e, zi] using hq
  | succ n ih =>
    intro k hk hkK hq
    by_cases e : k = o
    · subst e
      refine s_iload_n dM_isUnder_2 rfl rfl ?_
      refine s_bipush (v := (-4)) dM_isUnder_3 (by decide) ?_
      refine s_icmp_eq dM_isUnder_5 (fun q => absurd q (nI_m4 (by omega))) (fun _ => ?_)
      refine s_iload_n dM_isUnder_8 rfl rfl ?_
      refine s_iload_n dM_isUnder_9 rfl rfl ?_
      refine s_icmp_eq dM_isUnder_10 (fun _ => ?_) (fun q => absurd rfl q)
      refine s_iload_n dM_isUnder_23 rfl rfl ?_
      refine s_iload_n dM_isUnder_24 rfl rfl ?_
      refine s_icmp_ne dM_isUnder_25 (fun q => absurd rfl q) (fun _ => ?_)
      refine s_iconst (v := 1) dM_isUnder_28 (by decide) ?_
      refine s_goto dM_isUnder_29 ?_
      refine s_zret dM_isUnder_33 rfl (by first | exact Or.inl rfl | exact Or.inr rfl | assumption) (by first | exact Nat.le_refl _ | decide | omega) (by first | exact Nat.le_refl _ | decide | omega) ?_
      simpa [und, zi] using hq
    · by_cases e0 : k = 0
      · subst e0
        refine s_iload_n dM_isUnder_2 rfl rfl ?_
        refine s_bipush (v := (-4)) dM_isUnder_3 (by decide) ?_
        refine s_icmp_eq dM_isUnder_5 (fun q => absurd q (nI_m4 (by omega))) (fun _ => ?_)
        refine s_iload_n dM_isUnder_8 rfl rfl ?_
        refine s_iload_n dM_isUnder_9 rfl rfl ?_
        refine s_icmp_eq dM_isUnder_10 (fun q => absurd q (nI_ne e (by omega) (by omega))) (fun _ => ?_)
        refine s_aload_n dM_isUnder_13 rfl rfl ?_
        refine s_mga dM_isUnder_14 gf_M_7 rfl ?_
        refine s_iload_n dM_isUnder_17 rfl rfl ?_
        refine s_mald dM_isUnder_18 rfl rfl (show _ < 20 by omega) rfl ?_
        refine s_top p3 ?_
        refine s_istore_n dM_isUnder_19 rfl rfl ?_
        refine s_goto dM_isUnder_20 ?_
        refine s_iload_n dM_isUnder_2 rfl rfl ?_
        refine s_bipush (v := (-4)) dM_isUnder_3 (by decide) ?_
        refine s_icmp_eq dM_isUnder_5 (fun _ => ?_) (fun q => absurd rfl q)
        refine s_iload_n dM_isUnder_23 rfl rfl ?_
        refine s_iload_n dM_isUnder_24 rfl rfl ?_
        refine s_icmp_ne dM_isUnder_25 (fun _ => ?_) (fun q => absurd q (fun q => nI_m4 (k := o) (by omega) q.symm))
        refine s_iconst (v := 0) dM_isUnder_32 (by decide) ?_
        refine s_zret dM_isUnder_33 rfl (by first | exact Or.inl rfl | exact Or.inr rfl | assumption) (by first | exact Nat.le_refl _ | decide | omega) (by first | exact Nat.le_refl _ | decide | omega) ?_
        simpa [und, e, zi] using hq
      · obtain ⟨p, hp, ep⟩ := p4 k (by omega) hkK
        refine s_iload_n dM_isUnder_2 rfl rfl ?_
        refine s_bipush (v := (-4)) dM_isUnder_3 (by decide) ?_
        refine s_icmp_eq dM_isUnder_5 (fun q => absurd q (nI_m4 (by omega))) (fun _ => ?_)
        refine s_iload_n dM_isUnder_8 rfl rfl ?_
        refine s_iload_n dM_isUnder_9 rfl rfl ?_
        refine s_icmp_eq dM_isUnder_10 (fun q => absurd q (nI_ne e (by omega) (by omega))) (fun _ => ?_)
        refine s_aload_n dM_isUnder_13 rfl rfl ?_
        refine s_mga dM_isUnder_14 gf_M_7 rfl ?_
        refine s_iload_n dM_isUnder_17 rfl rfl ?_
        refine s_mald dM_isUnder_18 rfl rfl (show _ < 20 by omega) rfl ?_
        refine s_top ep ?_
        refine s_istore_n dM_isUnder_19 rfl rfl ?_
        refine s_goto dM_isUnder_20 ?_
        refine ih p (by omega) (by omega) ?_
        rw [show und σ (n + 1) k o = und σ n p o by simp [und, e, e0, ep, nt_nI (a := p) (by omega)]] at hq
        exact hq
theorem c_M_isUnder {σ : Sg} {h : Hp} {K k o : Nat} (P : KP σ K) (hk : k < K) (ho : o < K) : ConF mM_isUnder 0 [vR (100, 0, 0), vI (nI k), vI (nI o)] (hM σ h) (some (vI (zi (und σ 20 k o)))) (hM σ h) := by
  refine c_enter (by decide +kernel) rfl rfl ?_
  refine s_iload_n dM_isUnder_0 rfl rfl ?_
  refine s_istore_n dM_isUnder_1 rfl rfl ?_
  exact l_M_isUnder P ho 20 k (by have := P.2.1; omega) hk ⟨rfl, rfl⟩
theorem l_M_deep {σ : Sg} {h : Hp} {K k0 : Nat} {Q : Option PV → Hp → Prop} (P : KP σ K) : ∀ (n k a : Nat), k ≤ n → k < K → Q (some (vI (nI (a + dpt σ n k)))) (hM σ h) → S mM_deep 0 0 0 Q 4 [some (vR (100, 0, 0)), some (vI (nI k0)), some (vI (nI a)), some (vI (nI k))] [] (hM σ h) 0 0 := by
  obtain ⟨p1, p2, p3, p4⟩ := P
  intro n
  induction n with
  | zero =>
    intro k a hk hkK hq
    have : k = 0 := by omega
    subst this
    refine s_aload_n dM_deep_4 rfl rfl ?_
    refine s_mga dM_deep_5 gf_M_7 rfl ?_
    refine s_iload_n dM_deep_8 rfl rfl ?_
    refine s_mald dM_deep_9 rfl rfl (show _ < 20 by omega) rfl ?_
    refine s_top p3 ?_
    refine s_bipush (v := (-4)) dM_deep_10 (by decide) ?_
    refine s_icmp_eq dM_deep_12 (fun _ => ?_) (fun q => absurd rfl q)
    refine s_iload_n dM_deep_28 rfl rfl ?_
    refine s_iret dM_deep_29 rfl (by first | exact Nat.le_refl _ | decide | omega) (by first | exact Nat.le_refl _ | decide | omega) ?_
    simpa [dpt] using hq
  | succ n ih =>
    intro k a hk hkK hq
    by_cases e0 : k = 0
    · subst e0
      refine s_aload_n dM_deep_4 rfl rfl ?_
      refine s_mga dM_deep_5 gf_M_7 rfl ?_
      refine s_iload_n dM_deep_8 rfl rfl ?_
      refine s_mald dM_deep_9 rfl rfl (show _ < 20 by omega) rfl ?_
      refine s_top p3 ?_
      refine s_bipush (v := (-4)) dM_deep_10 (by decide) ?_
      refine s_icmp_eq dM_deep_12 (fun _ => ?_) (fun q => absurd rfl q)
      refine s_iload_n dM_deep_28 rfl rfl ?_
      refine s_iret dM_deep_29 rfl (by first | exact Nat.le_refl _ | decide | omega) (by first | exact Nat.le_refl _ | decide | omega) ?_
      simpa [dpt] using hq
    · obtain ⟨p, hp, ep⟩ := p4 k (by omega) hkK
      refine s_aload_n dM_deep_4 rfl rfl ?_
      refine s_mga dM_deep_5 gf_M_7 rfl ?_
      refine s_iload_n dM_deep_8 rfl rfl ?_
      refine s_mald dM_deep_9 rfl rfl (show _ < 20 by omega) rfl ?_
      refine s_top ep ?_
      refine s_bipush (v := (-4)) dM_deep_10 (by decide) ?_
      refine s_icmp_eq dM_deep_12 (fun q => absurd q (nI_m4 (by omega))) (fun _ => ?_)
      refine s_aload_n dM_deep_15 rfl rfl ?_
      refine s_mga dM_deep_16 gf_M_7 rfl ?_
      refine s_iload_n dM_deep_19 rfl rfl ?_
      refine s_mald dM_deep_20 rfl rfl (show _ < 20 by omega) rfl ?_
      refine s_top ep ?_
      refine s_istore_n dM_deep_21 rfl rfl ?_
      first | refine s_iincN dM_deep_22 rfl rfl ?_ | refine s_iinc dM_deep_22 rfl rfl ?_
      refine s_goto dM_deep_25 ?_
      refine ih p (a + 1) (by omega) (by omega) ?_
      rw [show a + dpt σ (n + 1) k = a + 1 + dpt σ n p by simp [dpt, e0, ep, nt_nI (a := p) (by omega)]; omega] at hq
      exact hq
theorem c_M_deep {σ : Sg} {h : Hp} {K k : Nat} (P : KP σ K) (hk : k < K) : ConF mM_deep 0 [vR (100, 0, 0), vI (nI k)] (hM σ h) (some (vI (nI (dpt σ 20 k)))) (hM σ h) := by
  refine c_enter (by decide +kernel) rfl rfl ?_
  refine s_iconst (v := 0) dM_deep_0 (by decide) ?_
  refine s_istore_n dM_deep_1 rfl rfl ?_
  refine s_iload_n dM_deep_2 rfl rfl ?_
  refine s_istore_n dM_deep_3 rfl rfl ?_
  exact l_M_deep P 20 k 0 (by have := P.2.1; omega) hk ⟨by simp, rfl⟩
theorem zi_b (b : Bool) : zi b = 0 ∨ zi b = 1 := by cases b <;> simp [zi]
def fUnder (σ : Sg) (k o : Int32) (K : Nat) : Int32 := match ix k K, ix o K with
  | some i, some j => zi (und σ 20 i j)
  | _, _ => -1
theorem c_M_under {σ : Sg} {h : Hp} {K : Nat} (k o : Int32) (P : KP σ K) (hK : σ 0 0 = nI K) : ConF mM_under 1 [vR (100, 0, 0), vI k, vI o] (hM σ h) (some (vI (fUnder σ k o K))) (hM σ h) := by
  have p1 := P.1
  have p2 := P.2.1
  unfold fUnder
  refine c_enter (by decide +kernel) rfl rfl ?_
  rcases iz_cases k (K := K) (by omega) with ⟨e, hz⟩ | ⟨i, hi, rfl, e⟩
  · rw [e]
    refine s_iload_n dM_under_0 rfl rfl ?_
    refine s_iconst (v := 0) dM_under_1 (by decide) ?_
    refine s_aload_n dM_under_2 rfl rfl ?_
    refine s_mgi dM_under_3 gf_M_110 rfl ?_
    refine s_top hK ?_
    refine s_iconst (v := nI 1) dM_under_6 (by decide) ?_
    first | refine s_isubN dM_under_7 (by omega) ?_ | refine s_isub dM_under_7 ?_
    refine s_t3 dM_under_8 cs_M_117 (c_inZ (by omega) hz) rfl rfl rfl rfl ?_
    refine s_if_eq dM_under_11 (fun _ => ?_) (fun q => absurd rfl q)
    refine s_iconst (v := (-1)) dM_under_28 (by decide) ?_
    refine s_iret dM_under_29 rfl (by first | exact Nat.le_refl _ | decide | omega) (by first | exact Nat.le_refl _ | decide | omega) ?_
    exact ⟨rfl, rfl⟩
  · rcases iz_cases o (K := K) (by omega) with ⟨e1, hz⟩ | ⟨j, hj, rfl, e1⟩
    · rw [e, e1]
      refine s_iload_n dM_under_0 rfl rfl ?_
      refine s_iconst (v := 0) dM_under_1 (by decide) ?_
      refine s_aload_n dM_under_2 rfl rfl ?_
      refine s_mgi dM_under_3 gf_M_110 rfl ?_
      refine s_top hK ?_
      refine s_iconst (v := nI 1) dM_under_6 (by decide) ?_
      first | refine s_isubN dM_under_7 (by omega) ?_ | refine s_isub dM_under_7 ?_
      refine s_t3 dM_under_8 cs_M_117 (c_inZ (K := K) (by omega) (Iz1 hi)) rfl rfl rfl rfl ?_
      refine s_if_eq dM_under_11 (fun q => absurd q (by decide)) (fun _ => ?_)
      refine s_iload_n dM_under_14 rfl rfl ?_
      refine s_iconst (v := 0) dM_under_15 (by decide) ?_
      refine s_aload_n dM_under_16 rfl rfl ?_
      refine s_mgi dM_under_17 gf_M_110 rfl ?_
      refine s_top hK ?_
      refine s_iconst (v := nI 1) dM_under_20 (by decide) ?_
      first | refine s_isubN dM_under_21 (by omega) ?_ | refine s_isub dM_under_21 ?_
      refine s_t3 dM_under_22 cs_M_117 (c_inZ (by omega) hz) rfl rfl rfl rfl ?_
      refine s_if_ne dM_under_25 (fun q => absurd rfl q) (fun _ => ?_)
      refine s_iconst (v := (-1)) dM_under_28 (by decide) ?_
      refine s_iret dM_under_29 rfl (by first | exact Nat.le_refl _ | decide | omega) (by first | exact Nat.le_refl _ | decide | omega) ?_
      exact ⟨rfl, rfl⟩
    · rw [e, e1]
      cases hu : und σ 20 i j with
      | true =>
        refine s_iload_n dM_under_0 rfl rfl ?_
        refine s_iconst (v := 0) dM_under_1 (by decide) ?_
        refine s_aload_n dM_under_2 rfl rfl ?_
        refine s_mgi dM_under_3 gf_M_110 rfl ?_
        refine s_top hK ?_
        refine s_iconst (v := nI 1) dM_under_6 (by decide) ?_
        first | refine s_isubN dM_under_7 (by omega) ?_ | refine s_isub dM_under_7 ?_
        refine s_t3 dM_under_8 cs_M_117 (c_inZ (K := K) (by omega) (Iz1 hi)) rfl rfl rfl rfl ?_
        refine s_if_eq dM_under_11 (fun q => absurd q (by decide)) (fun _ => ?_)
        refine s_iload_n dM_under_14 rfl rfl ?_
        refine s_iconst (v := 0) dM_under_15 (by decide) ?_
        refine s_aload_n dM_under_16 rfl rfl ?_
        refine s_mgi dM_under_17 gf_M_110 rfl ?_
        refine s_top hK ?_
        refine s_iconst (v := nI 1) dM_under_20 (by decide) ?_
        first | refine s_isubN dM_under_21 (by omega) ?_ | refine s_isub dM_under_21 ?_
        refine s_t3 dM_under_22 cs_M_117 (c_inZ (K := K) (by omega) (Iz1 hj)) rfl rfl rfl rfl ?_
        refine s_if_ne dM_under_25 (fun _ => ?_) (fun q => absurd q (by decide))
        refine s_aload_n dM_under_30 rfl rfl ?_
        refine s_iload_n dM_under_31 rfl rfl ?_
        refine s_iload_n dM_under_32 rfl rfl ?_
        refine s_v2 dM_under_33 cv_M_121 hM_o (c_M_isUnder P hi hj) rfl rfl rfl rfl ?_
        refine s_if_eq dM_under_36 (fun q => absurd q (by rw [hu]; decide)) (fun _ => ?_)
        refine s_iconst (v := 1) dM_under_39 (by decide) ?_
        refine s_goto dM_under_40 ?_
        refine s_iret dM_under_44 rfl (by first | exact Nat.le_refl _ | decide | omega) (by first | exact Nat.le_refl _ | decide | omega) ?_
        exact ⟨by dsimp only; rw [hu]; rfl, rfl⟩
      | false =>
        refine s_iload_n dM_under_0 rfl rfl ?_
        refine s_iconst (v := 0) dM_under_1 (by decide) ?_
        refine s_aload_n dM_under_2 rfl rfl ?_
        refine s_mgi dM_under_3 gf_M_110 rfl ?_
        refine s_top hK ?_
        refine s_iconst (v := nI 1) dM_under_6 (by decide) ?_
        first | refine s_isubN dM_under_7 (by omega) ?_ | refine s_isub dM_under_7 ?_
        refine s_t3 dM_under_8 cs_M_117 (c_inZ (K := K) (by omega) (Iz1 hi)) rfl rfl rfl rfl ?_
        refine s_if_eq dM_under_11 (fun q => absurd q (by decide)) (fun _ => ?_)
        refine s_iload_n dM_under_14 rfl rfl ?_
        refine s_iconst (v := 0) dM_under_15 (by decide) ?_
        refine s_aload_n dM_under_16 rfl rfl ?_
        refine s_mgi dM_under_17 gf_M_110 rfl ?_
        refine s_top hK ?_
        refine s_iconst (v := nI 1) dM_under_20 (by decide) ?_
        first | refine s_isubN dM_under_21 (by omega) ?_ | refine s_isub dM_under_21 ?_
        refine s_t3 dM_under_22 cs_M_117 (c_inZ (K := K) (by omega) (Iz1 hj)) rfl rfl rfl rfl ?_
        refine s_if_ne dM_under_25 (fun _ => ?_) (fun q => absurd q (by decide))
        refine s_aload_n dM_under_30 rfl rfl ?_
        refine s_iload_n dM_under_31 rfl rfl ?_
        refine s_iload_n dM_under_32 rfl rfl ?_
        refine s_v2 dM_under_33 cv_M_121 hM_o (c_M_isUnder P hi hj) rfl rfl rfl rfl ?_
        refine s_if_eq dM_under_36 (fun _ => ?_) (fun q => absurd (by rw [hu]; decide) q)
        refine s_iconst (v := 0) dM_under_43 (by decide) ?_
        refine s_iret dM_under_44 rfl (by first | exact Nat.le_refl _ | decide | omega) (by first | exact Nat.le_refl _ | decide | omega) ?_
        exact ⟨by dsimp only; rw [hu]; rfl, rfl⟩
