/-! how rules stand in a row -/
theorem dpt_le {σ : Sg} {K : Nat} (P : KP σ K) : ∀ (n k : Nat), k < K → dpt σ n k ≤ k := by
  intro n
  induction n with
  | zero => intro k hk; simp [dpt]
  | succ n ih =>
    intro k hk
    by_cases e : k = 0
    · simp [dpt, e]
    · obtain ⟨p, hp, ep⟩ := P.2.2.2 k (by omega) hk
      have p2 := P.2.1
      have := ih p (by omega)
      simp only [dpt, e, if_false, ep, nt_nI (a := p) (by omega)]
      omega
/-- what a rule's condition adds -/
def dp1 (σ : Sg) (r k : Nat) : Nat := if σ 12 (12 * r + 3 * k) = 0 then dpt σ 20 (nt (σ 12 (12 * r + 3 * k + 1))) else 0
def dps (σ : Sg) (r : Nat) : Nat → Nat
  | 0 => 0
  | k + 1 => dps σ r k + dp1 σ r k
/-- the rules' numbers are well told -/
def RK (σ : Sg) (R K : Nat) : Prop := R ≤ 60 ∧ ∀ r, r < R → (∃ s, s ≤ 2 ∧ σ 10 r = nI s) ∧ (∃ p, p ≤ 9 ∧ σ 11 r = nI p) ∧ ∃ m, m ≤ 4 ∧ σ 13 r = nI m ∧ ∀ k, k < m → σ 12 (12 * r + 3 * k) = 0 → ∃ x, x < K ∧ σ 12 (12 * r + 3 * k + 1) = nI x
def ky (σ : Sg) (r : Nat) : Nat := (((2 - nt (σ 10 r)) * 10 + nt (σ 11 r)) * 5 + nt (σ 13 r)) * 100 + dps σ r (nt (σ 13 r))
theorem dps_le {σ : Sg} {R K r m : Nat} (P : KP σ K) (hr : r < R) (hc : ∀ k, k < m → σ 12 (12 * r + 3 * k) = 0 → ∃ x, x < K ∧ σ 12 (12 * r + 3 * k + 1) = nI x) : ∀ k, k ≤ m → dps σ r k ≤ 19 * k := by
  intro k
  induction k with
  | zero => intro _; simp [dps]
  | succ k ih =>
    intro hk
    have i1 := ih (by omega)
    have p2 := P.2.1
    have : dp1 σ r k ≤ 19 := by
      unfold dp1
      split
      · rename_i e
        obtain ⟨x, hx, ex⟩ := hc k (by omega) e
        rw [ex, nt_nI (a := x) (by omega)]
        have := dpt_le P 20 x hx
        omega
      · omega
    simp only [dps]
    omega
theorem l_M_deeps {σ : Sg} {h : Hp} {K r m : Nat} {o4 : Option PV} {Q : Option PV → Hp → Prop} (P : KP σ K) (hr : r < 60) (em : σ 13 r = nI m) (hm : m ≤ 4) (hc : ∀ k, k < m → σ 12 (12 * r + 3 * k) = 0 → ∃ x, x < K ∧ σ 12 (12 * r + 3 * k + 1) = nI x) (hq : Q (some (vI (nI (dps σ r m)))) (hM σ h)) :
    ∀ (d k : Nat) (o : Option PV), k + d = m → S mM_deeps 1 0 0 Q 4 [some (vR (100, 0, 0)), some (vI (nI r)), some (vI (nI (dps σ r k))), some (vI (nI k)), o] [] (hM σ h) 0 0 := by
  intro d
  induction d with
  | zero =>
    intro k o hk
    have : k = m := by omega
    subst this
    refine s_iload_n dM_deeps_4 rfl rfl ?_
    refine s_aload_n dM_deeps_5 rfl rfl ?_
    refine s_mga dM_deeps_6 gf_M_37 rfl ?_
    refine s_iload_n dM_deeps_9 rfl rfl ?_
    refine s_mald dM_deeps_10 rfl rfl (show _ < 60 by omega) rfl ?_
    refine s_top em ?_
    refine s_icmp_ge dM_deeps_11 (fun _ => ?_) (fun q => absurd (nI_le (Nat.le_refl _) (by omega)) q)
    refine s_iload_n dM_deeps_60 rfl rfl ?_
    refine s_iret dM_deeps_61 rfl (by first | exact Nat.le_refl _ | decide | omega) (by first | exact Nat.le_refl _ | decide | omega) ?_
    exact hq
  | succ d ih =>
    intro k o hk
    have hkm : k < m := by omega
    by_cases e : σ 12 (12 * r + 3 * k) = 0
    · obtain ⟨x, hx, ex⟩ := hc k hkm e
      have p2 := P.2.1
      have e2 : dps σ r k + dpt σ 20 x = dps σ r (k + 1) := by simp [dps, dp1, e, ex, nt_nI (a := x) (by omega)]
      refine s_iload_n dM_deeps_4 rfl rfl ?_
      refine s_aload_n dM_deeps_5 rfl rfl ?_
      refine s_mga dM_deeps_6 gf_M_37 rfl ?_
      refine s_iload_n dM_deeps_9 rfl rfl ?_
      refine s_mald dM_deeps_10 rfl rfl (show _ < 60 by omega) rfl ?_
      refine s_top em ?_
      refine s_icmp_ge dM_deeps_11 (fun q => absurd q (nI_ge hkm (by omega))) (fun _ => ?_)
      refine s_bipush (v := nI 12) dM_deeps_14 (by decide) ?_
      refine s_iload_n dM_deeps_16 rfl rfl ?_
      first | refine s_imulN dM_deeps_17 ?_ | refine s_imul dM_deeps_17 ?_
      refine s_iconst (v := nI 3) dM_deeps_18 (by decide) ?_
      refine s_iload_n dM_deeps_19 rfl rfl ?_
      first | refine s_imulN dM_deeps_20 ?_ | refine s_imul dM_deeps_20 ?_
      first | refine s_iaddN dM_deeps_21 ?_ | refine s_iadd dM_deeps_21 ?_
      refine s_istore dM_deeps_22 rfl ?_
      refine s_iload_n dM_deeps_24 rfl rfl ?_
      refine s_aload_n dM_deeps_25 rfl rfl ?_
      refine s_mga dM_deeps_26 gf_M_34 rfl ?_
      refine s_iload dM_deeps_29 rfl ?_
      refine s_mald dM_deeps_31 rfl rfl (show _ < 720 by omega) rfl ?_
      refine s_if_ne dM_deeps_32 (fun q => absurd e q) (fun _ => ?_)
      refine s_aload_n dM_deeps_35 rfl rfl ?_
      refine s_aload_n dM_deeps_36 rfl rfl ?_
      refine s_mga dM_deeps_37 gf_M_34 rfl ?_
      refine s_iload dM_deeps_40 rfl ?_
      refine s_iconst (v := nI 1) dM_deeps_42 (by decide) ?_
      first | refine s_iaddN dM_deeps_43 ?_ | refine s_iadd dM_deeps_43 ?_
      refine s_mald dM_deeps_44 rfl rfl (show _ < 720 by omega) rfl ?_
      refine s_top ex ?_
      refine s_v1 dM_deeps_45 cv_M_150 hM_o (c_M_deep P hx) rfl rfl rfl rfl ?_
      refine s_goto dM_deeps_48 ?_
      first | refine s_iaddN dM_deeps_52 ?_ | refine s_iadd dM_deeps_52 ?_
      rw [e2]
      refine s_istore_n dM_deeps_53 rfl rfl ?_
      first | refine s_iincN dM_deeps_54 rfl rfl ?_ | refine s_iinc dM_deeps_54 rfl rfl ?_
      refine s_goto dM_deeps_57 ?_
      exact ih (k + 1) _ (by omega)
    · have e2 : dps σ r k = dps σ r (k + 1) := by simp [dps, dp1, e]
      refine s_iload_n dM_deeps_4 rfl rfl ?_
      refine s_aload_n dM_deeps_5 rfl rfl ?_
      refine s_mga dM_deeps_6 gf_M_37 rfl ?_
      refine s_iload_n dM_deeps_9 rfl rfl ?_
      refine s_mald dM_deeps_10 rfl rfl (show _ < 60 by omega) rfl ?_
      refine s_top em ?_
      refine s_icmp_ge dM_deeps_11 (fun q => absurd q (nI_ge hkm (by omega))) (fun _ => ?_)
      refine s_bipush (v := nI 12) dM_deeps_14 (by decide) ?_
      refine s_iload_n dM_deeps_16 rfl rfl ?_
      first | refine s_imulN dM_deeps_17 ?_ | refine s_imul dM_deeps_17 ?_
      refine s_iconst (v := nI 3) dM_deeps_18 (by decide) ?_
      refine s_iload_n dM_deeps_19 rfl rfl ?_
      first | refine s_imulN dM_deeps_20 ?_ | refine s_imul dM_deeps_20 ?_
      first | refine s_iaddN dM_deeps_21 ?_ | refine s_iadd dM_deeps_21 ?_
      refine s_istore dM_deeps_22 rfl ?_
      refine s_iload_n dM_deeps_24 rfl rfl ?_
      refine s_aload_n dM_deeps_25 rfl rfl ?_
      refine s_mga dM_deeps_26 gf_M_34 rfl ?_
      refine s_iload dM_deeps_29 rfl ?_
      refine s_mald dM_deeps_31 rfl rfl (show _ < 720 by omega) rfl ?_
      refine s_if_ne dM_deeps_32 (fun _ => ?_) (fun q => absurd q e)
      refine s_iconst (v := nI 0) dM_deeps_51 (by decide) ?_
      refine s_iadd dM_deeps_52 ?_
      refine s_top (y := nI (dps σ r (k + 1))) (by rw [← e2]; exact Int32.add_zero _) ?_
      refine s_istore_n dM_deeps_53 rfl rfl ?_
      first | refine s_iincN dM_deeps_54 rfl rfl ?_ | refine s_iinc dM_deeps_54 rfl rfl ?_
      refine s_goto dM_deeps_57 ?_
      exact ih (k + 1) _ (by omega)
theorem c_M_deeps {σ : Sg} {h : Hp} {K r m : Nat} (P : KP σ K) (hr : r < 60) (em : σ 13 r = nI m) (hm : m ≤ 4) (hc : ∀ k, k < m → σ 12 (12 * r + 3 * k) = 0 → ∃ x, x < K ∧ σ 12 (12 * r + 3 * k + 1) = nI x) : ConF mM_deeps 1 [vR (100, 0, 0), vI (nI r)] (hM σ h) (some (vI (nI (dps σ r m)))) (hM σ h) := by
  refine c_enter (by decide +kernel) rfl rfl ?_
  refine s_iconst (v := 0) dM_deeps_0 (by decide) ?_
  refine s_istore_n dM_deeps_1 rfl rfl ?_
  refine s_iconst (v := 0) dM_deeps_2 (by decide) ?_
  refine s_istore_n dM_deeps_3 rfl rfl ?_
  exact l_M_deeps (o4 := none) P hr em hm hc ⟨rfl, rfl⟩ m 0 none (by omega)
def ahd (σ : Sg) (a b : Nat) : Bool := decide (ky σ b < ky σ a) || (decide (ky σ a = ky σ b) && decide (a < b))
theorem c_M_isAhead {σ : Sg} {h : Hp} {R K a b : Nat} (P : KP σ K) (L : RK σ R K) (ha : a < R) (hb : b < R) : ConF mM_isAhead 2 [vR (100, 0, 0), vI (nI a), vI (nI b)] (hM σ h) (some (vI (zi (ahd σ a b)))) (hM σ h) := by
  obtain ⟨h60, L⟩ := L
  obtain ⟨⟨sa, sa2, esa⟩, ⟨pa, pa9, epa⟩, ma, ma4, ema, ca⟩ := L a ha
  obtain ⟨⟨sb, sb2, esb⟩, ⟨pb, pb9, epb⟩, mb, mb4, emb, cb⟩ := L b hb
  have da := dps_le P ha ca ma (Nat.le_refl _)
  have db := dps_le P hb cb mb (Nat.le_refl _)
  have ka : ky σ a = (((2 - sa) * 10 + pa) * 5 + ma) * 100 + dps σ a ma := by unfold ky; rw [esa, epa, ema, nt_nI (by omega), nt_nI (by omega), nt_nI (by omega)]
  have kb : ky σ b = (((2 - sb) * 10 + pb) * 5 + mb) * 100 + dps σ b mb := by unfold ky; rw [esb, epb, emb, nt_nI (by omega), nt_nI (by omega), nt_nI (by omega)]
  have tt : (ky σ b < ky σ a ∨ (ky σ a = ky σ b ∧ a < b)) → zi (ahd σ a b) = 1 := fun q => by
    unfold ahd
    rcases q with q | ⟨q, q2⟩
    · simp [zi, q]
    · simp [zi, q, q2]
  have ff : ¬ (ky σ b < ky σ a ∨ (ky σ a = ky σ b ∧ a < b)) → zi (ahd σ a b) = 0 := fun q => by
    have q1 : ¬ ky σ b < ky σ a := fun z => q (Or.inl z)
    have q2 : ¬ (ky σ a = ky σ b ∧ a < b) := fun z => q (Or.inr z)
    unfold ahd
    simp only [zi, q1, decide_false, Bool.false_or, Bool.and_eq_true, decide_eq_true_eq, if_neg q2]
  rw [ka, kb] at tt ff
  refine c_enter (by decide +kernel) rfl rfl ?_
  by_cases s1 : sa = sb
  · subst s1
    by_cases p1 : pa = pb
    · subst p1
      by_cases m1 : ma = mb
      · subst m1
        have J : S mM_isAhead 2 0 0 (fun v' h' => v' = some (vI (zi (ahd σ a b))) ∧ h' = hM σ h) 121 [some (vR (100, 0, 0)), some (vI (nI a)), some (vI (nI b)), some (vI (nI (dps σ a ma))), some (vI (nI (dps σ b ma)))] [] (hM σ h) 0 0 := by
          by_cases d1 : dps σ a ma = dps σ b ma
          · rw [d1] at tt ff ⊢
            by_cases ab : a < b
            · refine s_iload_n dM_isAhead_121 rfl rfl ?_
              refine s_iload dM_isAhead_122 rfl ?_
              refine s_icmp_eq dM_isAhead_124 (fun _ => ?_) (fun q => absurd rfl q)
              refine s_iload_n dM_isAhead_141 rfl rfl ?_
              refine s_iload_n dM_isAhead_142 rfl rfl ?_
              refine s_icmp_ge dM_isAhead_143 (fun q => absurd q (nI_ge ab (by omega))) (fun _ => ?_)
              refine s_iconst (v := 1) dM_isAhead_146 (by decide) ?_
              refine s_goto dM_isAhead_147 ?_
              refine s_zret dM_isAhead_151 rfl (by first | exact Or.inl rfl | exact Or.inr rfl | assumption) (by first | exact Nat.le_refl _ | decide | omega) (by first | exact Nat.le_refl _ | decide | omega) ?_
              exact ⟨by rw [tt (by omega)], rfl⟩
            · refine s_iload_n dM_isAhead_121 rfl rfl ?_
              refine s_iload dM_isAhead_122 rfl ?_
              refine s_icmp_eq dM_isAhead_124 (fun _ => ?_) (fun q => absurd rfl q)
              refine s_iload_n dM_isAhead_141 rfl rfl ?_
              refine s_iload_n dM_isAhead_142 rfl rfl ?_
              refine s_icmp_ge dM_isAhead_143 (fun _ => ?_) (fun q => absurd (nI_le (by omega) (by omega)) q)
              refine s_iconst (v := 0) dM_isAhead_150 (by decide) ?_
              refine s_zret dM_isAhead_151 rfl (by first | exact Or.inl rfl | exact Or.inr rfl | assumption) (by first | exact Nat.le_refl _ | decide | omega) (by first | exact Nat.le_refl _ | decide | omega) ?_
              exact ⟨by rw [ff (by omega)], rfl⟩
          · by_cases d2 : dps σ b ma < dps σ a ma
            · refine s_iload_n dM_isAhead_121 rfl rfl ?_
              refine s_iload dM_isAhead_122 rfl ?_
              refine s_icmp_eq dM_isAhead_124 (fun q => absurd q (nI_ne d1 (by omega) (by omega))) (fun _ => ?_)
              refine s_iload_n dM_isAhead_127 rfl rfl ?_
              refine s_iload dM_isAhead_128 rfl ?_
              refine s_icmp_le dM_isAhead_130 (fun q => absurd q (nI_ge d2 (by omega))) (fun _ => ?_)
              refine s_iconst (v := 1) dM_isAhead_133 (by decide) ?_
              refine s_goto dM_isAhead_134 ?_
              refine s_zret dM_isAhead_151 rfl (by first | exact Or.inl rfl | exact Or.inr rfl | assumption) (by first | exact Nat.le_refl _ | decide | omega) (by first | exact Nat.le_refl _ | decide | omega) ?_
              exact ⟨by rw [tt (by omega)], rfl⟩
            · refine s_iload_n dM_isAhead_121 rfl rfl ?_
              refine s_iload dM_isAhead_122 rfl ?_
              refine s_icmp_eq dM_isAhead_124 (fun q => absurd q (nI_ne d1 (by omega) (by omega))) (fun _ => ?_)
              refine s_iload_n dM_isAhead_127 rfl rfl ?_
              refine s_iload dM_isAhead_128 rfl ?_
              refine s_icmp_le dM_isAhead_130 (fun _ => ?_) (fun q => absurd (nI_le (by omega) (by omega)) q)
              refine s_iconst (v := 0) dM_isAhead_137 (by decide) ?_
              refine s_goto dM_isAhead_138 ?_
              refine s_zret dM_isAhead_151 rfl (by first | exact Or.inl rfl | exact Or.inr rfl | assumption) (by first | exact Nat.le_refl _ | decide | omega) (by first | exact Nat.le_refl _ | decide | omega) ?_
              exact ⟨by rw [ff (by omega)], rfl⟩
        refine s_aload_n dM_isAhead_0 rfl rfl ?_
        refine s_mga dM_isAhead_1 gf_M_28 rfl ?_
        refine s_iload_n dM_isAhead_4 rfl rfl ?_
        refine s_mald dM_isAhead_5 rfl rfl (show _ < 60 by omega) rfl ?_
        refine s_top esa ?_
        refine s_aload_n dM_isAhead_6 rfl rfl ?_
        refine s_mga dM_isAhead_7 gf_M_28 rfl ?_
        refine s_iload_n dM_isAhead_10 rfl rfl ?_
        refine s_mald dM_isAhead_11 rfl rfl (show _ < 60 by omega) rfl ?_
        refine s_top esb ?_
        refine s_icmp_eq dM_isAhead_12 (fun _ => ?_) (fun q => absurd rfl q)
        refine s_aload_n dM_isAhead_36 rfl rfl ?_
        refine s_mga dM_isAhead_37 gf_M_31 rfl ?_
        refine s_iload_n dM_isAhead_40 rfl rfl ?_
        refine s_mald dM_isAhead_41 rfl rfl (show _ < 60 by omega) rfl ?_
        refine s_top epa ?_
        refine s_aload_n dM_isAhead_42 rfl rfl ?_
        refine s_mga dM_isAhead_43 gf_M_31 rfl ?_
        refine s_iload_n dM_isAhead_46 rfl rfl ?_
        refine s_mald dM_isAhead_47 rfl rfl (show _ < 60 by omega) rfl ?_
        refine s_top epb ?_
        refine s_icmp_eq dM_isAhead_48 (fun _ => ?_) (fun q => absurd rfl q)
        refine s_aload_n dM_isAhead_72 rfl rfl ?_
        refine s_mga dM_isAhead_73 gf_M_37 rfl ?_
        refine s_iload_n dM_isAhead_76 rfl rfl ?_
        refine s_mald dM_isAhead_77 rfl rfl (show _ < 60 by omega) rfl ?_
        refine s_top ema ?_
        refine s_aload_n dM_isAhead_78 rfl rfl ?_
        refine s_mga dM_isAhead_79 gf_M_37 rfl ?_
        refine s_iload_n dM_isAhead_82 rfl rfl ?_
        refine s_mald dM_isAhead_83 rfl rfl (show _ < 60 by omega) rfl ?_
        refine s_top emb ?_
        refine s_icmp_eq dM_isAhead_84 (fun _ => ?_) (fun q => absurd rfl q)
        refine s_aload_n dM_isAhead_108 rfl rfl ?_
        refine s_iload_n dM_isAhead_109 rfl rfl ?_
        refine s_v1 dM_isAhead_110 cv_M_154 hM_o (c_M_deeps P (by omega) ema ma4 ca) rfl rfl rfl rfl ?_
        refine s_istore_n dM_isAhead_113 rfl rfl ?_
        refine s_aload_n dM_isAhead_114 rfl rfl ?_
        refine s_iload_n dM_isAhead_115 rfl rfl ?_
        refine s_v1 dM_isAhead_116 cv_M_154 hM_o (c_M_deeps P (by omega) emb mb4 cb) rfl rfl rfl rfl ?_
        refine s_istore dM_isAhead_119 rfl ?_
        exact J
      · by_cases m2 : mb < ma
        · refine s_aload_n dM_isAhead_0 rfl rfl ?_
          refine s_mga dM_isAhead_1 gf_M_28 rfl ?_
          refine s_iload_n dM_isAhead_4 rfl rfl ?_
          refine s_mald dM_isAhead_5 rfl rfl (show _ < 60 by omega) rfl ?_
          refine s_top esa ?_
          refine s_aload_n dM_isAhead_6 rfl rfl ?_
          refine s_mga dM_isAhead_7 gf_M_28 rfl ?_
          refine s_iload_n dM_isAhead_10 rfl rfl ?_
          refine s_mald dM_isAhead_11 rfl rfl (show _ < 60 by omega) rfl ?_
          refine s_top esb ?_
          refine s_icmp_eq dM_isAhead_12 (fun _ => ?_) (fun q => absurd rfl q)
          refine s_aload_n dM_isAhead_36 rfl rfl ?_
          refine s_mga dM_isAhead_37 gf_M_31 rfl ?_
          refine s_iload_n dM_isAhead_40 rfl rfl ?_
          refine s_mald dM_isAhead_41 rfl rfl (show _ < 60 by omega) rfl ?_
          refine s_top epa ?_
          refine s_aload_n dM_isAhead_42 rfl rfl ?_
          refine s_mga dM_isAhead_43 gf_M_31 rfl ?_
          refine s_iload_n dM_isAhead_46 rfl rfl ?_
          refine s_mald dM_isAhead_47 rfl rfl (show _ < 60 by omega) rfl ?_
          refine s_top epb ?_
          refine s_icmp_eq dM_isAhead_48 (fun _ => ?_) (fun q => absurd rfl q)
          refine s_aload_n dM_isAhead_72 rfl rfl ?_
          refine s_mga dM_isAhead_73 gf_M_37 rfl ?_
          refine s_iload_n dM_isAhead_76 rfl rfl ?_
          refine s_mald dM_isAhead_77 rfl rfl (show _ < 60 by omega) rfl ?_
          refine s_top ema ?_
          refine s_aload_n dM_isAhead_78 rfl rfl ?_
          refine s_mga dM_isAhead_79 gf_M_37 rfl ?_
          refine s_iload_n dM_isAhead_82 rfl rfl ?_
          refine s_mald dM_isAhead_83 rfl rfl (show _ < 60 by omega) rfl ?_
          refine s_top emb ?_
          refine s_icmp_eq dM_isAhead_84 (fun q => absurd q (nI_ne m1 (by omega) (by omega))) (fun _ => ?_)
          refine s_aload_n dM_isAhead_87 rfl rfl ?_
          refine s_mga dM_isAhead_88 gf_M_37 rfl ?_
          refine s_iload_n dM_isAhead_91 rfl rfl ?_
          refine s_mald dM_isAhead_92 rfl rfl (show _ < 60 by omega) rfl ?_
          refine s_top ema ?_
          refine s_aload_n dM_isAhead_93 rfl rfl ?_
          refine s_mga dM_isAhead_94 gf_M_37 rfl ?_
          refine s_iload_n dM_isAhead_97 rfl rfl ?_
          refine s_mald dM_isAhead_98 rfl rfl (show _ < 60 by omega) rfl ?_
          refine s_top emb ?_
          refine s_icmp_le dM_isAhead_99 (fun q => absurd q (nI_ge m2 (by omega))) (fun _ => ?_)
          refine s_iconst (v := 1) dM_isAhead_102 (by decide) ?_
          refine s_goto dM_isAhead_103 ?_
          refine s_zret dM_isAhead_107 rfl (by first | exact Or.inl rfl | exact Or.inr rfl | assumption) (by first | exact Nat.le_refl _ | decide | omega) (by first | exact Nat.le_refl _ | decide | omega) ?_
          exact ⟨by rw [tt (by omega)], rfl⟩
        · refine s_aload_n dM_isAhead_0 rfl rfl ?_
          refine s_mga dM_isAhead_1 gf_M_28 rfl ?_
          refine s_iload_n dM_isAhead_4 rfl rfl ?_
          refine s_mald dM_isAhead_5 rfl rfl (show _ < 60 by omega) rfl ?_
          refine s_top esa ?_
          refine s_aload_n dM_isAhead_6 rfl rfl ?_
          refine s_mga dM_isAhead_7 gf_M_28 rfl ?_
          refine s_iload_n dM_isAhead_10 rfl rfl ?_
          refine s_mald dM_isAhead_11 rfl rfl (show _ < 60 by omega) rfl ?_
          refine s_top esb ?_
          refine s_icmp_eq dM_isAhead_12 (fun _ => ?_) (fun q => absurd rfl q)
          refine s_aload_n dM_isAhead_36 rfl rfl ?_
          refine s_mga dM_isAhead_37 gf_M_31 rfl ?_
          refine s_iload_n dM_isAhead_40 rfl rfl ?_
          refine s_mald dM_isAhead_41 rfl rfl (show _ < 60 by omega) rfl ?_
          refine s_top epa ?_
          refine s_aload_n dM_isAhead_42 rfl rfl ?_
          refine s_mga dM_isAhead_43 gf_M_31 rfl ?_
          refine s_iload_n dM_isAhead_46 rfl rfl ?_
          refine s_mald dM_isAhead_47 rfl rfl (show _ < 60 by omega) rfl ?_
          refine s_top epb ?_
          refine s_icmp_eq dM_isAhead_48 (fun _ => ?_) (fun q => absurd rfl q)
          refine s_aload_n dM_isAhead_72 rfl rfl ?_
          refine s_mga dM_isAhead_73 gf_M_37 rfl ?_
          refine s_iload_n dM_isAhead_76 rfl rfl ?_
          refine s_mald dM_isAhead_77 rfl rfl (show _ < 60 by omega) rfl ?_
          refine s_top ema ?_
          refine s_aload_n dM_isAhead_78 rfl rfl ?_
          refine s_mga dM_isAhead_79 gf_M_37 rfl ?_
          refine s_iload_n dM_isAhead_82 rfl rfl ?_
          refine s_mald dM_isAhead_83 rfl rfl (show _ < 60 by omega) rfl ?_
          refine s_top emb ?_
          refine s_icmp_eq dM_isAhead_84 (fun q => absurd q (nI_ne m1 (by omega) (by omega))) (fun _ => ?_)
          refine s_aload_n dM_isAhead_87 rfl rfl ?_
          refine s_mga dM_isAhead_88 gf_M_37 rfl ?_
          refine s_iload_n dM_isAhead_91 rfl rfl ?_
          refine s_mald dM_isAhead_92 rfl rfl (show _ < 60 by omega) rfl ?_
          refine s_top ema ?_
          refine s_aload_n dM_isAhead_93 rfl rfl ?_
          refine s_mga dM_isAhead_94 gf_M_37 rfl ?_
          refine s_iload_n dM_isAhead_97 rfl rfl ?_
          refine s_mald dM_isAhead_98 rfl rfl (show _ < 60 by omega) rfl ?_
          refine s_top emb ?_
          refine s_icmp_le dM_isAhead_99 (fun _ => ?_) (fun q => absurd (nI_le (by omega) (by omega)) q)
          refine s_iconst (v := 0) dM_isAhead_106 (by decide) ?_
          refine s_zret dM_isAhead_107 rfl (by first | exact Or.inl rfl | exact Or.inr rfl | assumption) (by first | exact Nat.le_refl _ | decide | omega) (by first | exact Nat.le_refl _ | decide | omega) ?_
          exact ⟨by rw [ff (by omega)], rfl⟩
    · by_cases p2 : pb < pa
      · refine s_aload_n dM_isAhead_0 rfl rfl ?_
        refine s_mga dM_isAhead_1 gf_M_28 rfl ?_
        refine s_iload_n dM_isAhead_4 rfl rfl ?_
        refine s_mald dM_isAhead_5 rfl rfl (show _ < 60 by omega) rfl ?_
        refine s_top esa ?_
        refine s_aload_n dM_isAhead_6 rfl rfl ?_
        refine s_mga dM_isAhead_7 gf_M_28 rfl ?_
        refine s_iload_n dM_isAhead_10 rfl rfl ?_
        refine s_mald dM_isAhead_11 rfl rfl (show _ < 60 by omega) rfl ?_
        refine s_top esb ?_
        refine s_icmp_eq dM_isAhead_12 (fun _ => ?_) (fun q => absurd rfl q)
        refine s_aload_n dM_isAhead_36 rfl rfl ?_
        refine s_mga dM_isAhead_37 gf_M_31 rfl ?_
        refine s_iload_n dM_isAhead_40 rfl rfl ?_
        refine s_mald dM_isAhead_41 rfl rfl (show _ < 60 by omega) rfl ?_
        refine s_top epa ?_
        refine s_aload_n dM_isAhead_42 rfl rfl ?_
        refine s_mga dM_isAhead_43 gf_M_31 rfl ?_
        refine s_iload_n dM_isAhead_46 rfl rfl ?_
        refine s_mald dM_isAhead_47 rfl rfl (show _ < 60 by omega) rfl ?_
        refine s_top epb ?_
        refine s_icmp_eq dM_isAhead_48 (fun q => absurd q (nI_ne p1 (by omega) (by omega))) (fun _ => ?_)
        refine s_aload_n dM_isAhead_51 rfl rfl ?_
        refine s_mga dM_isAhead_52 gf_M_31 rfl ?_
        refine s_iload_n dM_isAhead_55 rfl rfl ?_
        refine s_mald dM_isAhead_56 rfl rfl (show _ < 60 by omega) rfl ?_
        refine s_top epa ?_
        refine s_aload_n dM_isAhead_57 rfl rfl ?_
        refine s_mga dM_isAhead_58 gf_M_31 rfl ?_
        refine s_iload_n dM_isAhead_61 rfl rfl ?_
        refine s_mald dM_isAhead_62 rfl rfl (show _ < 60 by omega) rfl ?_
        refine s_top epb ?_
        refine s_icmp_le dM_isAhead_63 (fun q => absurd q (nI_ge p2 (by omega))) (fun _ => ?_)
        refine s_iconst (v := 1) dM_isAhead_66 (by decide) ?_
        refine s_goto dM_isAhead_67 ?_
        refine s_zret dM_isAhead_71 rfl (by first | exact Or.inl rfl | exact Or.inr rfl | assumption) (by first | exact Nat.le_refl _ | decide | omega) (by first | exact Nat.le_refl _ | decide | omega) ?_
        exact ⟨by rw [tt (by omega)], rfl⟩
      · refine s_aload_n dM_isAhead_0 rfl rfl ?_
        refine s_mga dM_isAhead_1 gf_M_28 rfl ?_
        refine s_iload_n dM_isAhead_4 rfl rfl ?_
        refine s_mald dM_isAhead_5 rfl rfl (show _ < 60 by omega) rfl ?_
        refine s_top esa ?_
        refine s_aload_n dM_isAhead_6 rfl rfl ?_
        refine s_mga dM_isAhead_7 gf_M_28 rfl ?_
        refine s_iload_n dM_isAhead_10 rfl rfl ?_
        refine s_mald dM_isAhead_11 rfl rfl (show _ < 60 by omega) rfl ?_
        refine s_top esb ?_
        refine s_icmp_eq dM_isAhead_12 (fun _ => ?_) (fun q => absurd rfl q)
        refine s_aload_n dM_isAhead_36 rfl rfl ?_
        refine s_mga dM_isAhead_37 gf_M_31 rfl ?_
        refine s_iload_n dM_isAhead_40 rfl rfl ?_
        refine s_mald dM_isAhead_41 rfl rfl (show _ < 60 by omega) rfl ?_
        refine s_top epa ?_
        refine s_aload_n dM_isAhead_42 rfl rfl ?_
        refine s_mga dM_isAhead_43 gf_M_31 rfl ?_
        refine s_iload_n dM_isAhead_46 rfl rfl ?_
        refine s_mald dM_isAhead_47 rfl rfl (show _ < 60 by omega) rfl ?_
        refine s_top epb ?_
        refine s_icmp_eq dM_isAhead_48 (fun q => absurd q (nI_ne p1 (by omega) (by omega))) (fun _ => ?_)
        refine s_aload_n dM_isAhead_51 rfl rfl ?_
        refine s_mga dM_isAhead_52 gf_M_31 rfl ?_
        refine s_iload_n dM_isAhead_55 rfl rfl ?_
        refine s_mald dM_isAhead_56 rfl rfl (show _ < 60 by omega) rfl ?_
        refine s_top epa ?_
        refine s_aload_n dM_isAhead_57 rfl rfl ?_
        refine s_mga dM_isAhead_58 gf_M_31 rfl ?_
        refine s_iload_n dM_isAhead_61 rfl rfl ?_
        refine s_mald dM_isAhead_62 rfl rfl (show _ < 60 by omega) rfl ?_
        refine s_top epb ?_
        refine s_icmp_le dM_isAhead_63 (fun _ => ?_) (fun q => absurd (nI_le (by omega) (by omega)) q)
        refine s_iconst (v := 0) dM_isAhead_70 (by decide) ?_
        refine s_zret dM_isAhead_71 rfl (by first | exact Or.inl rfl | exact Or.inr rfl | assumption) (by first | exact Nat.le_refl _ | decide | omega) (by first | exact Nat.le_refl _ | decide | omega) ?_
        exact ⟨by rw [ff (by omega)], rfl⟩
  · by_cases s2 : sa < sb
    · refine s_aload_n dM_isAhead_0 rfl rfl ?_
      refine s_mga dM_isAhead_1 gf_M_28 rfl ?_
      refine s_iload_n dM_isAhead_4 rfl rfl ?_
      refine s_mald dM_isAhead_5 rfl rfl (show _ < 60 by omega) rfl ?_
      refine s_top esa ?_
      refine s_aload_n dM_isAhead_6 rfl rfl ?_
      refine s_mga dM_isAhead_7 gf_M_28 rfl ?_
      refine s_iload_n dM_isAhead_10 rfl rfl ?_
      refine s_mald dM_isAhead_11 rfl rfl (show _ < 60 by omega) rfl ?_
      refine s_top esb ?_
      refine s_icmp_eq dM_isAhead_12 (fun q => absurd q (nI_ne s1 (by omega) (by omega))) (fun _ => ?_)
      refine s_aload_n dM_isAhead_15 rfl rfl ?_
      refine s_mga dM_isAhead_16 gf_M_28 rfl ?_
      refine s_iload_n dM_isAhead_19 rfl rfl ?_
      refine s_mald dM_isAhead_20 rfl rfl (show _ < 60 by omega) rfl ?_
      refine s_top esa ?_
      refine s_aload_n dM_isAhead_21 rfl rfl ?_
      refine s_mga dM_isAhead_22 gf_M_28 rfl ?_
      refine s_iload_n dM_isAhead_25 rfl rfl ?_
      refine s_mald dM_isAhead_26 rfl rfl (show _ < 60 by omega) rfl ?_
      refine s_top esb ?_
      refine s_icmp_ge dM_isAhead_27 (fun q => absurd q (nI_ge s2 (by omega))) (fun _ => ?_)
      refine s_iconst (v := 1) dM_isAhead_30 (by decide) ?_
      refine s_goto dM_isAhead_31 ?_
      refine s_zret dM_isAhead_35 rfl (by first | exact Or.inl rfl | exact Or.inr rfl | assumption) (by first | exact Nat.le_refl _ | decide | omega) (by first | exact Nat.le_refl _ | decide | omega) ?_
      exact ⟨by rw [tt (by omega)], rfl⟩
    · refine s_aload_n dM_isAhead_0 rfl rfl ?_
      refine s_mga dM_isAhead_1 gf_M_28 rfl ?_
      refine s_iload_n dM_isAhead_4 rfl rfl ?_
      refine s_mald dM_isAhead_5 rfl rfl (show _ < 60 by omega) rfl ?_
      refine s_top esa ?_
      refine s_aload_n dM_isAhead_6 rfl rfl ?_
      refine s_mga dM_isAhead_7 gf_M_28 rfl ?_
      refine s_iload_n dM_isAhead_10 rfl rfl ?_
      refine s_mald dM_isAhead_11 rfl rfl (show _ < 60 by omega) rfl ?_
      refine s_top esb ?_
      refine s_icmp_eq dM_isAhead_12 (fun q => absurd q (nI_ne s1 (by omega) (by omega))) (fun _ => ?_)
      refine s_aload_n dM_isAhead_15 rfl rfl ?_
      refine s_mga dM_isAhead_16 gf_M_28 rfl ?_
      refine s_iload_n dM_isAhead_19 rfl rfl ?_
      refine s_mald dM_isAhead_20 rfl rfl (show _ < 60 by omega) rfl ?_
      refine s_top esa ?_
      refine s_aload_n dM_isAhead_21 rfl rfl ?_
      refine s_mga dM_isAhead_22 gf_M_28 rfl ?_
      refine s_iload_n dM_isAhead_25 rfl rfl ?_
      refine s_mald dM_isAhead_26 rfl rfl (show _ < 60 by omega) rfl ?_
      refine s_top esb ?_
      refine s_icmp_ge dM_isAhead_27 (fun _ => ?_) (fun q => absurd (nI_le (by omega) (by omega)) q)
      refine s_iconst (v := 0) dM_isAhead_34 (by decide) ?_
      refine s_zret dM_isAhead_35 rfl (by first | exact Or.inl rfl | exact Or.inr rfl | assumption) (by first | exact Nat.le_refl _ | decide | omega) (by first | exact Nat.le_refl _ | decide | omega) ?_
      exact ⟨by rw [ff (by omega)], rfl⟩
