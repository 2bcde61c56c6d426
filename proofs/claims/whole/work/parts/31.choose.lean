/-! choose -/
def SK (σ : Sg) (N K : Nat) : Prop := N ≤ 20 ∧ ∀ s, s < N → ∃ k, k < K ∧ σ 3 s = nI k
def PH (σ : Sg) (P K : Nat) : Prop := P ≤ 40 ∧ ∀ p, p < P → (∃ a, a < K ∧ σ 51 (3 * p + 1) = nI a) ∧ ∃ b, b < K ∧ σ 51 (3 * p + 2) = nI b
abbrev p1 (σ : Sg) (p : Nat) : Nat := nt (σ 51 (3 * p + 1))
abbrev p2 (σ : Sg) (p : Nat) : Nat := nt (σ 51 (3 * p + 2))
def mnt (σ : Sg) (n : Int32) (f s p : Nat) : Bool := decide (σ 51 (3 * p) = n) && und σ 20 (nt (σ 3 f)) (p1 σ p) && und σ 20 (nt (σ 3 s)) (p2 σ p)
def mst (σ : Sg) (n : Int32) (f s p : Nat) : Nat → Bool
  | 0 => true
  | q + 1 => mst σ n f s p q && (!mnt σ n f s q || (und σ 20 (p1 σ p) (p1 σ q) && und σ 20 (p2 σ p) (p2 σ q)))
def chs (σ : Sg) (n : Int32) (f s P : Nat) : Nat → Int32
  | 0 => -4
  | p + 1 => if mnt σ n f s p = true then (if mst σ n f s p P = true then nI p else if chs σ n f s P p = -4 then -5 else chs σ n f s P p) else chs σ n f s P p
def fChoose (σ : Sg) (n f s : Int32) (N P : Nat) : Int32 := match ix n 10, ix f N, ix s N with
  | some _, some i, some j => chs σ n i j P P
  | _, _, _ => -1
theorem c_M_isMeant {σ : Sg} {h : Hp} {K N P p f s : Nat} {n : Int32} (T : KP σ K) (S1 : SK σ N K) (P1 : PH σ P K) (hp : p < P) (hf : f < N) (hs : s < N) : ConF mM_isMeant 1 [vR (100, 0, 0), vI (nI p), vI n, vI (nI f), vI (nI s)] (hM σ h) (some (vI (zi (mnt σ n f s p)))) (hM σ h) := by
  obtain ⟨hN, S2⟩ := S1
  obtain ⟨hP, P2⟩ := P1
  obtain ⟨k1, hk1, ek1⟩ := S2 f hf
  obtain ⟨k2, hk2, ek2⟩ := S2 s hs
  obtain ⟨⟨a1, ha1, ea1⟩, b1, hb1, eb1⟩ := P2 p hp
  have hK := T.2.1
  have em : mnt σ n f s p = (decide (σ 51 (3 * p) = n) && und σ 20 k1 a1 && und σ 20 k2 b1) := by
    unfold mnt
    rw [ek1, ek2, show p1 σ p = a1 by unfold p1; rw [ea1]; exact nt_nI (by omega), show p2 σ p = b1 by unfold p2; rw [eb1]; exact nt_nI (by omega), nt_nI (by omega), nt_nI (by omega)]
  rw [em]
  refine c_enter (by decide +kernel) rfl rfl ?_
  by_cases c1 : σ 51 (3 * p) = n
  · cases u1 : und σ 20 k1 a1 with
    | true =>
      cases u2 : und σ 20 k2 b1 with
      | true =>
        refine s_aload_n dM_isMeant_0 rfl rfl ?_
        refine s_mga dM_isMeant_1 gf_M_107 rfl ?_
        refine s_iconst (v := nI 3) dM_isMeant_4 (by decide) ?_
        refine s_iload_n dM_isMeant_5 rfl rfl ?_
        first | refine s_imulN dM_isMeant_6 ?_ | refine s_imul dM_isMeant_6 ?_
        refine s_mald dM_isMeant_7 rfl rfl (show _ < 120 by omega) rfl ?_
        refine s_iload_n dM_isMeant_8 rfl rfl ?_
        refine s_icmp_ne dM_isMeant_9 (fun q => absurd c1 q) (fun _ => ?_)
        refine s_aload_n dM_isMeant_12 rfl rfl ?_
        refine s_aload_n dM_isMeant_13 rfl rfl ?_
        refine s_mga dM_isMeant_14 gf_M_13 rfl ?_
        refine s_iload_n dM_isMeant_17 rfl rfl ?_
        refine s_mald dM_isMeant_18 rfl rfl (show _ < 20 by omega) rfl ?_
        refine s_top ek1 ?_
        refine s_aload_n dM_isMeant_19 rfl rfl ?_
        refine s_mga dM_isMeant_20 gf_M_107 rfl ?_
        refine s_iconst (v := nI 3) dM_isMeant_23 (by decide) ?_
        refine s_iload_n dM_isMeant_24 rfl rfl ?_
        first | refine s_imulN dM_isMeant_25 ?_ | refine s_imul dM_isMeant_25 ?_
        refine s_iconst (v := nI 1) dM_isMeant_26 (by decide) ?_
        first | refine s_iaddN dM_isMeant_27 ?_ | refine s_iadd dM_isMeant_27 ?_
        refine s_mald dM_isMeant_28 rfl rfl (show _ < 120 by omega) rfl ?_
        refine s_top ea1 ?_
        refine s_v2 dM_isMeant_29 cv_M_121 hM_o (c_M_isUnder T hk1 ha1) rfl rfl rfl rfl ?_
        refine s_if_eq dM_isMeant_32 (fun q => absurd q (by rw [u1]; decide)) (fun _ => ?_)
        refine s_aload_n dM_isMeant_35 rfl rfl ?_
        refine s_aload_n dM_isMeant_36 rfl rfl ?_
        refine s_mga dM_isMeant_37 gf_M_13 rfl ?_
        refine s_iload dM_isMeant_40 rfl ?_
        refine s_mald dM_isMeant_42 rfl rfl (show _ < 20 by omega) rfl ?_
        refine s_top ek2 ?_
        refine s_aload_n dM_isMeant_43 rfl rfl ?_
        refine s_mga dM_isMeant_44 gf_M_107 rfl ?_
        refine s_iconst (v := nI 3) dM_isMeant_47 (by decide) ?_
        refine s_iload_n dM_isMeant_48 rfl rfl ?_
        first | refine s_imulN dM_isMeant_49 ?_ | refine s_imul dM_isMeant_49 ?_
        refine s_iconst (v := nI 2) dM_isMeant_50 (by decide) ?_
        first | refine s_iaddN dM_isMeant_51 ?_ | refine s_iadd dM_isMeant_51 ?_
        refine s_mald dM_isMeant_52 rfl rfl (show _ < 120 by omega) rfl ?_
        refine s_top eb1 ?_
        refine s_v2 dM_isMeant_53 cv_M_121 hM_o (c_M_isUnder T hk2 hb1) rfl rfl rfl rfl ?_
        refine s_if_eq dM_isMeant_56 (fun q => absurd q (by rw [u2]; decide)) (fun _ => ?_)
        refine s_iconst (v := 1) dM_isMeant_59 (by decide) ?_
        refine s_goto dM_isMeant_60 ?_
        refine s_zret dM_isMeant_64 rfl (by first | exact Or.inl rfl | exact Or.inr rfl | assumption) (by first | exact Nat.le_refl _ | decide | omega) (by first | exact Nat.le_refl _ | decide | omega) ?_
        exact ⟨by simp [c1, zi], rfl⟩
      | false =>
        refine s_aload_n dM_isMeant_0 rfl rfl ?_
        refine s_mga dM_isMeant_1 gf_M_107 rfl ?_
        refine s_iconst (v := nI 3) dM_isMeant_4 (by decide) ?_
        refine s_iload_n dM_isMeant_5 rfl rfl ?_
        first | refine s_imulN dM_isMeant_6 ?_ | refine s_imul dM_isMeant_6 ?_
        refine s_mald dM_isMeant_7 rfl rfl (show _ < 120 by omega) rfl ?_
        refine s_iload_n dM_isMeant_8 rfl rfl ?_
        refine s_icmp_ne dM_isMeant_9 (fun q => absurd c1 q) (fun _ => ?_)
        refine s_aload_n dM_isMeant_12 rfl rfl ?_
        refine s_aload_n dM_isMeant_13 rfl rfl ?_
        refine s_mga dM_isMeant_14 gf_M_13 rfl ?_
        refine s_iload_n dM_isMeant_17 rfl rfl ?_
        refine s_mald dM_isMeant_18 rfl rfl (show _ < 20 by omega) rfl ?_
        refine s_top ek1 ?_
        refine s_aload_n dM_isMeant_19 rfl rfl ?_
        refine s_mga dM_isMeant_20 gf_M_107 rfl ?_
        refine s_iconst (v := nI 3) dM_isMeant_23 (by decide) ?_
        refine s_iload_n dM_isMeant_24 rfl rfl ?_
        first | refine s_imulN dM_isMeant_25 ?_ | refine s_imul dM_isMeant_25 ?_
        refine s_iconst (v := nI 1) dM_isMeant_26 (by decide) ?_
        first | refine s_iaddN dM_isMeant_27 ?_ | refine s_iadd dM_isMeant_27 ?_
        refine s_mald dM_isMeant_28 rfl rfl (show _ < 120 by omega) rfl ?_
        refine s_top ea1 ?_
        refine s_v2 dM_isMeant_29 cv_M_121 hM_o (c_M_isUnder T hk1 ha1) rfl rfl rfl rfl ?_
        refine s_if_eq dM_isMeant_32 (fun q => absurd q (by rw [u1]; decide)) (fun _ => ?_)
        refine s_aload_n dM_isMeant_35 rfl rfl ?_
        refine s_aload_n dM_isMeant_36 rfl rfl ?_
        refine s_mga dM_isMeant_37 gf_M_13 rfl ?_
        refine s_iload dM_isMeant_40 rfl ?_
        refine s_mald dM_isMeant_42 rfl rfl (show _ < 20 by omega) rfl ?_
        refine s_top ek2 ?_
        refine s_aload_n dM_isMeant_43 rfl rfl ?_
        refine s_mga dM_isMeant_44 gf_M_107 rfl ?_
        refine s_iconst (v := nI 3) dM_isMeant_47 (by decide) ?_
        refine s_iload_n dM_isMeant_48 rfl rfl ?_
        first | refine s_imulN dM_isMeant_49 ?_ | refine s_imul dM_isMeant_49 ?_
        refine s_iconst (v := nI 2) dM_isMeant_50 (by decide) ?_
        first | refine s_iaddN dM_isMeant_51 ?_ | refine s_iadd dM_isMeant_51 ?_
        refine s_mald dM_isMeant_52 rfl rfl (show _ < 120 by omega) rfl ?_
        refine s_top eb1 ?_
        refine s_v2 dM_isMeant_53 cv_M_121 hM_o (c_M_isUnder T hk2 hb1) rfl rfl rfl rfl ?_
        refine s_if_eq dM_isMeant_56 (fun _ => ?_) (fun q => absurd (by rw [u2]; rfl) q)
        refine s_iconst (v := 0) dM_isMeant_63 (by decide) ?_
        refine s_zret dM_isMeant_64 rfl (by first | exact Or.inl rfl | exact Or.inr rfl | assumption) (by first | exact Nat.le_refl _ | decide | omega) (by first | exact Nat.le_refl _ | decide | omega) ?_
        exact ⟨by simp [zi], rfl⟩
    | false =>
      refine s_aload_n dM_isMeant_0 rfl rfl ?_
      refine s_mga dM_isMeant_1 gf_M_107 rfl ?_
      refine s_iconst (v := nI 3) dM_isMeant_4 (by decide) ?_
      refine s_iload_n dM_isMeant_5 rfl rfl ?_
      first | refine s_imulN dM_isMeant_6 ?_ | refine s_imul dM_isMeant_6 ?_
      refine s_mald dM_isMeant_7 rfl rfl (show _ < 120 by omega) rfl ?_
      refine s_iload_n dM_isMeant_8 rfl rfl ?_
      refine s_icmp_ne dM_isMeant_9 (fun q => absurd c1 q) (fun _ => ?_)
      refine s_aload_n dM_isMeant_12 rfl rfl ?_
      refine s_aload_n dM_isMeant_13 rfl rfl ?_
      refine s_mga dM_isMeant_14 gf_M_13 rfl ?_
      refine s_iload_n dM_isMeant_17 rfl rfl ?_
      refine s_mald dM_isMeant_18 rfl rfl (show _ < 20 by omega) rfl ?_
      refine s_top ek1 ?_
      refine s_aload_n dM_isMeant_19 rfl rfl ?_
      refine s_mga dM_isMeant_20 gf_M_107 rfl ?_
      refine s_iconst (v := nI 3) dM_isMeant_23 (by decide) ?_
      refine s_iload_n dM_isMeant_24 rfl rfl ?_
      first | refine s_imulN dM_isMeant_25 ?_ | refine s_imul dM_isMeant_25 ?_
      refine s_iconst (v := nI 1) dM_isMeant_26 (by decide) ?_
      first | refine s_iaddN dM_isMeant_27 ?_ | refine s_iadd dM_isMeant_27 ?_
      refine s_mald dM_isMeant_28 rfl rfl (show _ < 120 by omega) rfl ?_
      refine s_top ea1 ?_
      refine s_v2 dM_isMeant_29 cv_M_121 hM_o (c_M_isUnder T hk1 ha1) rfl rfl rfl rfl ?_
      refine s_if_eq dM_isMeant_32 (fun _ => ?_) (fun q => absurd (by rw [u1]; rfl) q)
      refine s_iconst (v := 0) dM_isMeant_63 (by decide) ?_
      refine s_zret dM_isMeant_64 rfl (by first | exact Or.inl rfl | exact Or.inr rfl | assumption) (by first | exact Nat.le_refl _ | decide | omega) (by first | exact Nat.le_refl _ | decide | omega) ?_
      exact ⟨by simp [zi], rfl⟩
  · refine s_aload_n dM_isMeant_0 rfl rfl ?_
    refine s_mga dM_isMeant_1 gf_M_107 rfl ?_
    refine s_iconst (v := nI 3) dM_isMeant_4 (by decide) ?_
    refine s_iload_n dM_isMeant_5 rfl rfl ?_
    first | refine s_imulN dM_isMeant_6 ?_ | refine s_imul dM_isMeant_6 ?_
    refine s_mald dM_isMeant_7 rfl rfl (show _ < 120 by omega) rfl ?_
    refine s_iload_n dM_isMeant_8 rfl rfl ?_
    refine s_icmp_ne dM_isMeant_9 (fun _ => ?_) (fun q => absurd q c1)
    refine s_iconst (v := 0) dM_isMeant_63 (by decide) ?_
    refine s_zret dM_isMeant_64 rfl (by first | exact Or.inl rfl | exact Or.inr rfl | assumption) (by first | exact Nat.le_refl _ | decide | omega) (by first | exact Nat.le_refl _ | decide | omega) ?_
    exact ⟨by simp [c1, zi], rfl⟩
theorem zi_and1 (b : Bool) : zi b &&& 1 = zi b := by cases b <;> decide
theorem zi_and0 (b : Bool) : zi b &&& 0 = zi false := by cases b <;> decide
theorem l_M_most {σ : Sg} {h : Hp} {K N P p f s : Nat} {n z4 : Int32} {Q : Option PV → Hp → Prop} (T : KP σ K) (S1 : SK σ N K) (P1 : PH σ P K) (hPn : σ 50 0 = nI P) (hp : p < P) (hf : f < N) (hs : s < N)
    (kk : ∀ o7, S mM_choose 2 0 0 Q 157 [some (vR (100, 0, 0)), some (vI n), some (vI (nI f)), some (vI (nI s)), some (vI z4), some (vI (nI p)), some (vI (zi (mst σ n f s p P))), o7] [] (hM σ h) 0 0) :
    ∀ (d q : Nat), q + d = P → S mM_choose 2 0 0 Q 62 [some (vR (100, 0, 0)), some (vI n), some (vI (nI f)), some (vI (nI s)), some (vI z4), some (vI (nI p)), some (vI (zi (mst σ n f s p q))), some (vI (nI q))] [] (hM σ h) 0 0 := by
  have hP := P1.1
  have hN := S1.1
  have hK := T.2.1
  intro d
  induction d with
  | zero =>
    intro q hq1
    have eq1 : q = P := by omega
    subst eq1
    refine s_iload dM_choose_62 rfl ?_
    refine s_aload_n dM_choose_64 rfl rfl ?_
    refine s_mgi dM_choose_65 gf_M_251 rfl ?_
    refine s_top hPn ?_
    refine s_icmp_ge dM_choose_68 (fun _ => ?_) (fun q => absurd (nI_le (Nat.le_refl _) (by omega)) q)
    exact kk _
  | succ d ih1 =>
    intro q hq1
    have hqP : q < P := by omega
    obtain ⟨⟨a1, ha1, ea1⟩, b1, hb1, eb1⟩ := P1.2 p hp
    obtain ⟨⟨a2, ha2, ea2⟩, b2, hb2, eb2⟩ := P1.2 q hqP
    have e1 : p1 σ p = a1 := by unfold p1; rw [ea1]; exact nt_nI (by omega)
    have e2 : p2 σ p = b1 := by unfold p2; rw [eb1]; exact nt_nI (by omega)
    have e3 : p1 σ q = a2 := by unfold p1; rw [ea2]; exact nt_nI (by omega)
    have e4 : p2 σ q = b2 := by unfold p2; rw [eb2]; exact nt_nI (by omega)
    have one : (!mnt σ n f s q || (und σ 20 a1 a2 && und σ 20 b1 b2)) = true → S mM_choose 2 0 0 Q 143 [some (vR (100, 0, 0)), some (vI n), some (vI (nI f)), some (vI (nI s)), some (vI z4), some (vI (nI p)), some (vI (zi (mst σ n f s p q))), some (vI (nI q))] [vI (zi (mst σ n f s p q))] (hM σ h) 0 0 := by
      intro c1
      have e5 : mst σ n f s p (q + 1) = mst σ n f s p q := by simp only [mst, e1, e2, e3, e4, c1, Bool.and_true]
      refine s_iconst (v := 1) dM_choose_143 (by decide) ?_
      refine s_goto dM_choose_144 ?_
      refine s_iand dM_choose_148 ?_
      refine s_top (zi_and1 _) ?_
      rw [← e5]
      refine s_istore dM_choose_149 rfl ?_
      first | refine s_iincN dM_choose_151 rfl rfl ?_ | refine s_iinc dM_choose_151 rfl rfl ?_
      refine s_goto dM_choose_154 ?_
      exact ih1 (q + 1) (by omega)
    have zer : (!mnt σ n f s q || (und σ 20 a1 a2 && und σ 20 b1 b2)) = false → S mM_choose 2 0 0 Q 147 [some (vR (100, 0, 0)), some (vI n), some (vI (nI f)), some (vI (nI s)), some (vI z4), some (vI (nI p)), some (vI (zi (mst σ n f s p q))), some (vI (nI q))] [vI (zi (mst σ n f s p q))] (hM σ h) 0 0 := by
      intro c1
      have e5 : mst σ n f s p (q + 1) = false := by simp only [mst, e1, e2, e3, e4, c1, Bool.and_false]
      refine s_iconst (v := 0) dM_choose_147 (by decide) ?_
      refine s_iand dM_choose_148 ?_
      refine s_top (zi_and0 _) ?_
      rw [← e5]
      refine s_istore dM_choose_149 rfl ?_
      first | refine s_iincN dM_choose_151 rfl rfl ?_ | refine s_iinc dM_choose_151 rfl rfl ?_
      refine s_goto dM_choose_154 ?_
      exact ih1 (q + 1) (by omega)
    cases hm : mnt σ n f s q with
    | false =>
      refine s_iload dM_choose_62 rfl ?_
      refine s_aload_n dM_choose_64 rfl rfl ?_
      refine s_mgi dM_choose_65 gf_M_251 rfl ?_
      refine s_top hPn ?_
      refine s_icmp_ge dM_choose_68 (fun q => absurd q (nI_ge hqP (by omega))) (fun _ => ?_)
      refine s_iload dM_choose_71 rfl ?_
      refine s_aload_n dM_choose_73 rfl rfl ?_
      refine s_iload dM_choose_74 rfl ?_
      refine s_iload_n dM_choose_76 rfl rfl ?_
      refine s_iload_n dM_choose_77 rfl rfl ?_
      refine s_iload_n dM_choose_78 rfl rfl ?_
      refine s_v4 dM_choose_79 cv_M_254 hM_o (c_M_isMeant T S1 P1 hqP hf hs) rfl rfl rfl rfl ?_
      refine s_if_eq dM_choose_82 (fun _ => ?_) (fun q => absurd (by rw [hm]; rfl) q)
      exact one (by simp [hm])
    | true =>
      cases u1 : und σ 20 a1 a2 with
      | false =>
        refine s_iload dM_choose_62 rfl ?_
        refine s_aload_n dM_choose_64 rfl rfl ?_
        refine s_mgi dM_choose_65 gf_M_251 rfl ?_
        refine s_top hPn ?_
        refine s_icmp_ge dM_choose_68 (fun q => absurd q (nI_ge hqP (by omega))) (fun _ => ?_)
        refine s_iload dM_choose_71 rfl ?_
        refine s_aload_n dM_choose_73 rfl rfl ?_
        refine s_iload dM_choose_74 rfl ?_
        refine s_iload_n dM_choose_76 rfl rfl ?_
        refine s_iload_n dM_choose_77 rfl rfl ?_
        refine s_iload_n dM_choose_78 rfl rfl ?_
        refine s_v4 dM_choose_79 cv_M_254 hM_o (c_M_isMeant T S1 P1 hqP hf hs) rfl rfl rfl rfl ?_
        refine s_if_eq dM_choose_82 (fun q => absurd q (by rw [hm]; decide)) (fun _ => ?_)
        refine s_aload_n dM_choose_85 rfl rfl ?_
        refine s_aload_n dM_choose_86 rfl rfl ?_
        refine s_mga dM_choose_87 gf_M_107 rfl ?_
        refine s_iconst (v := nI 3) dM_choose_90 (by decide) ?_
        refine s_iload dM_choose_91 rfl ?_
        first | refine s_imulN dM_choose_93 ?_ | refine s_imul dM_choose_93 ?_
        refine s_iconst (v := nI 1) dM_choose_94 (by decide) ?_
        first | refine s_iaddN dM_choose_95 ?_ | refine s_iadd dM_choose_95 ?_
        refine s_mald dM_choose_96 rfl rfl (show _ < 120 by omega) rfl ?_
        refine s_top ea1 ?_
        refine s_aload_n dM_choose_97 rfl rfl ?_
        refine s_mga dM_choose_98 gf_M_107 rfl ?_
        refine s_iconst (v := nI 3) dM_choose_101 (by decide) ?_
        refine s_iload dM_choose_102 rfl ?_
        first | refine s_imulN dM_choose_104 ?_ | refine s_imul dM_choose_104 ?_
        refine s_iconst (v := nI 1) dM_choose_105 (by decide) ?_
        first | refine s_iaddN dM_choose_106 ?_ | refine s_iadd dM_choose_106 ?_
        refine s_mald dM_choose_107 rfl rfl (show _ < 120 by omega) rfl ?_
        refine s_top ea2 ?_
        refine s_v2 dM_choose_108 cv_M_121 hM_o (c_M_isUnder T ha1 ha2) rfl rfl rfl rfl ?_
        refine s_if_eq dM_choose_111 (fun _ => ?_) (fun q => absurd (by rw [u1]; rfl) q)
        exact zer (by simp [hm, u1])
      | true =>
        cases u2 : und σ 20 b1 b2 with
        | false =>
          refine s_iload dM_choose_62 rfl ?_
          refine s_aload_n dM_choose_64 rfl rfl ?_
          refine s_mgi dM_choose_65 gf_M_251 rfl ?_
          refine s_top hPn ?_
          refine s_icmp_ge dM_choose_68 (fun q => absurd q (nI_ge hqP (by omega))) (fun _ => ?_)
          refine s_iload dM_choose_71 rfl ?_
          refine s_aload_n dM_choose_73 rfl rfl ?_
          refine s_iload dM_choose_74 rfl ?_
          refine s_iload_n dM_choose_76 rfl rfl ?_
          refine s_iload_n dM_choose_77 rfl rfl ?_
          refine s_iload_n dM_choose_78 rfl rfl ?_
          refine s_v4 dM_choose_79 cv_M_254 hM_o (c_M_isMeant T S1 P1 hqP hf hs) rfl rfl rfl rfl ?_
          refine s_if_eq dM_choose_82 (fun q => absurd q (by rw [hm]; decide)) (fun _ => ?_)
          refine s_aload_n dM_choose_85 rfl rfl ?_
          refine s_aload_n dM_choose_86 rfl rfl ?_
          refine s_mga dM_choose_87 gf_M_107 rfl ?_
          refine s_iconst (v := nI 3) dM_choose_90 (by decide) ?_
          refine s_iload dM_choose_91 rfl ?_
          first | refine s_imulN dM_choose_93 ?_ | refine s_imul dM_choose_93 ?_
          refine s_iconst (v := nI 1) dM_choose_94 (by decide) ?_
          first | refine s_iaddN dM_choose_95 ?_ | refine s_iadd dM_choose_95 ?_
          refine s_mald dM_choose_96 rfl rfl (show _ < 120 by omega) rfl ?_
          refine s_top ea1 ?_
          refine s_aload_n dM_choose_97 rfl rfl ?_
          refine s_mga dM_choose_98 gf_M_107 rfl ?_
          refine s_iconst (v := nI 3) dM_choose_101 (by decide) ?_
          refine s_iload dM_choose_102 rfl ?_
          first | refine s_imulN dM_choose_104 ?_ | refine s_imul dM_choose_104 ?_
          refine s_iconst (v := nI 1) dM_choose_105 (by decide) ?_
          first | refine s_iaddN dM_choose_106 ?_ | refine s_iadd dM_choose_106 ?_
          refine s_mald dM_choose_107 rfl rfl (show _ < 120 by omega) rfl ?_
          refine s_top ea2 ?_
          refine s_v2 dM_choose_108 cv_M_121 hM_o (c_M_isUnder T ha1 ha2) rfl rfl rfl rfl ?_
          refine s_if_eq dM_choose_111 (fun q => absurd q (by rw [u1]; decide)) (fun _ => ?_)
          refine s_aload_n dM_choose_114 rfl rfl ?_
          refine s_aload_n dM_choose_115 rfl rfl ?_
          refine s_mga dM_choose_116 gf_M_107 rfl ?_
          refine s_iconst (v := nI 3) dM_choose_119 (by decide) ?_
          refine s_iload dM_choose_120 rfl ?_
          first | refine s_imulN dM_choose_122 ?_ | refine s_imul dM_choose_122 ?_
          refine s_iconst (v := nI 2) dM_choose_123 (by decide) ?_
          first | refine s_iaddN dM_choose_124 ?_ | refine s_iadd dM_choose_124 ?_
          refine s_mald dM_choose_125 rfl rfl (show _ < 120 by omega) rfl ?_
          refine s_top eb1 ?_
          refine s_aload_n dM_choose_126 rfl rfl ?_
          refine s_mga dM_choose_127 gf_M_107 rfl ?_
          refine s_iconst (v := nI 3) dM_choose_130 (by decide) ?_
          refine s_iload dM_choose_131 rfl ?_
          first | refine s_imulN dM_choose_133 ?_ | refine s_imul dM_choose_133 ?_
          refine s_iconst (v := nI 2) dM_choose_134 (by decide) ?_
          first | refine s_iaddN dM_choose_135 ?_ | refine s_iadd dM_choose_135 ?_
          refine s_mald dM_choose_136 rfl rfl (show _ < 120 by omega) rfl ?_
          refine s_top eb2 ?_
          refine s_v2 dM_choose_137 cv_M_121 hM_o (c_M_isUnder T hb1 hb2) rfl rfl rfl rfl ?_
          refine s_if_eq dM_choose_140 (fun _ => ?_) (fun q => absurd (by rw [u2]; rfl) q)
          exact zer (by simp [hm, u1, u2])
        | true =>
          refine s_iload dM_choose_62 rfl ?_
          refine s_aload_n dM_choose_64 rfl rfl ?_
          refine s_mgi dM_choose_65 gf_M_251 rfl ?_
          refine s_top hPn ?_
          refine s_icmp_ge dM_choose_68 (fun q => absurd q (nI_ge hqP (by omega))) (fun _ => ?_)
          refine s_iload dM_choose_71 rfl ?_
          refine s_aload_n dM_choose_73 rfl rfl ?_
          refine s_iload dM_choose_74 rfl ?_
          refine s_iload_n dM_choose_76 rfl rfl ?_
          refine s_iload_n dM_choose_77 rfl rfl ?_
          refine s_iload_n dM_choose_78 rfl rfl ?_
          refine s_v4 dM_choose_79 cv_M_254 hM_o (c_M_isMeant T S1 P1 hqP hf hs) rfl rfl rfl rfl ?_
          refine s_if_eq dM_choose_82 (fun q => absurd q (by rw [hm]; decide)) (fun _ => ?_)
          refine s_aload_n dM_choose_85 rfl rfl ?_
          refine s_aload_n dM_choose_86 rfl rfl ?_
          refine s_mga dM_choose_87 gf_M_107 rfl ?_
          refine s_iconst (v := nI 3) dM_choose_90 (by decide) ?_
          refine s_iload dM_choose_91 rfl ?_
          first | refine s_imulN dM_choose_93 ?_ | refine s_imul dM_choose_93 ?_
          refine s_iconst (v := nI 1) dM_choose_94 (by decide) ?_
          first | refine s_iaddN dM_choose_95 ?_ | refine s_iadd dM_choose_95 ?_
          refine s_mald dM_choose_96 rfl rfl (show _ < 120 by omega) rfl ?_
          refine s_top ea1 ?_
          refine s_aload_n dM_choose_97 rfl rfl ?_
          refine s_mga dM_choose_98 gf_M_107 rfl ?_
          refine s_iconst (v := nI 3) dM_choose_101 (by decide) ?_
          refine s_iload dM_choose_102 rfl ?_
          first | refine s_imulN dM_choose_104 ?_ | refine s_imul dM_choose_104 ?_
          refine s_iconst (v := nI 1) dM_choose_105 (by decide) ?_
          first | refine s_iaddN dM_choose_106 ?_ | refine s_iadd dM_choose_106 ?_
          refine s_mald dM_choose_107 rfl rfl (show _ < 120 by omega) rfl ?_
          refine s_top ea2 ?_
          refine s_v2 dM_choose_108 cv_M_121 hM_o (c_M_isUnder T ha1 ha2) rfl rfl rfl rfl ?_
          refine s_if_eq dM_choose_111 (fun q => absurd q (by rw [u1]; decide)) (fun _ => ?_)
          refine s_aload_n dM_choose_114 rfl rfl ?_
          refine s_aload_n dM_choose_115 rfl rfl ?_
          refine s_mga dM_choose_116 gf_M_107 rfl ?_
          refine s_iconst (v := nI 3) dM_choose_119 (by decide) ?_
          refine s_iload dM_choose_120 rfl ?_
          first | refine s_imulN dM_choose_122 ?_ | refine s_imul dM_choose_122 ?_
          refine s_iconst (v := nI 2) dM_choose_123 (by decide) ?_
          first | refine s_iaddN dM_choose_124 ?_ | refine s_iadd dM_choose_124 ?_
          refine s_mald dM_choose_125 rfl rfl (show _ < 120 by omega) rfl ?_
          refine s_top eb1 ?_
          refine s_aload_n dM_choose_126 rfl rfl ?_
          refine s_mga dM_choose_127 gf_M_107 rfl ?_
          refine s_iconst (v := nI 3) dM_choose_130 (by decide) ?_
          refine s_iload dM_choose_131 rfl ?_
          first | refine s_imulN dM_choose_133 ?_ | refine s_imul dM_choose_133 ?_
          refine s_iconst (v := nI 2) dM_choose_134 (by decide) ?_
          first | refine s_iaddN dM_choose_135 ?_ | refine s_iadd dM_choose_135 ?_
          refine s_mald dM_choose_136 rfl rfl (show _ < 120 by omega) rfl ?_
          refine s_top eb2 ?_
          refine s_v2 dM_choose_137 cv_M_121 hM_o (c_M_isUnder T hb1 hb2) rfl rfl rfl rfl ?_
          refine s_if_eq dM_choose_140 (fun q => absurd q (by rw [u2]; decide)) (fun _ => ?_)
          exact one (by simp [u1, u2])
theorem l_M_choose {σ : Sg} {h : Hp} {K N P f s : Nat} {n : Int32} {Q : Option PV → Hp → Prop} (T : KP σ K) (S1 : SK σ N K) (P1 : PH σ P K) (hPn : σ 50 0 = nI P) (hf : f < N) (hs : s < N) (hq : Q (some (vI (chs σ n f s P P))) (hM σ h)) :
    ∀ (d p : Nat) (o6 o7 : Option PV), p + d = P → S mM_choose 2 0 0 Q 35 [some (vR (100, 0, 0)), some (vI n), some (vI (nI f)), some (vI (nI s)), some (vI (chs σ n f s P p)), some (vI (nI p)), o6, o7] [] (hM σ h) 0 0 := by
  have hP := P1.1
  intro d
  induction d with
  | zero =>
    intro p o6 o7 hp1
    have ep : p = P := by omega
    subst ep
    refine s_iload dM_choose_35 rfl ?_
    refine s_aload_n dM_choose_37 rfl rfl ?_
    refine s_mgi dM_choose_38 gf_M_251 rfl ?_
    refine s_top hPn ?_
    refine s_icmp_ge dM_choose_41 (fun _ => ?_) (fun q => absurd (nI_le (Nat.le_refl _) (by omega)) q)
    refine s_iload dM_choose_189 rfl ?_
    refine s_iret dM_choose_191 rfl (by first | exact Nat.le_refl _ | decide | omega) (by first | exact Nat.le_refl _ | decide | omega) ?_
    exact hq
  | succ d ih1 =>
    intro p o6 o7 hp1
    have hpP : p < P := by omega
    cases hm : mnt σ n f s p with
    | false =>
      have e1 : chs σ n f s P (p + 1) = chs σ n f s P p := by simp [chs, hm]
      refine s_iload dM_choose_35 rfl ?_
      refine s_aload_n dM_choose_37 rfl rfl ?_
      refine s_mgi dM_choose_38 gf_M_251 rfl ?_
      refine s_top hPn ?_
      refine s_icmp_ge dM_choose_41 (fun q => absurd q (nI_ge hpP (by omega))) (fun _ => ?_)
      refine s_aload_n dM_choose_44 rfl rfl ?_
      refine s_iload dM_choose_45 rfl ?_
      refine s_iload_n dM_choose_47 rfl rfl ?_
      refine s_iload_n dM_choose_48 rfl rfl ?_
      refine s_iload_n dM_choose_49 rfl rfl ?_
      refine s_v4 dM_choose_50 cv_M_254 hM_o (c_M_isMeant T S1 P1 hpP hf hs) rfl rfl rfl rfl ?_
      refine s_if_eq dM_choose_53 (fun _ => ?_) (fun q => absurd (by rw [hm]; rfl) q)
      rw [← e1]
      first | refine s_iincN dM_choose_183 rfl rfl ?_ | refine s_iinc dM_choose_183 rfl rfl ?_
      refine s_goto dM_choose_186 ?_
      exact ih1 (p + 1) _ _ (by omega)
    | true =>
      refine s_iload dM_choose_35 rfl ?_
      refine s_aload_n dM_choose_37 rfl rfl ?_
      refine s_mgi dM_choose_38 gf_M_251 rfl ?_
      refine s_top hPn ?_
      refine s_icmp_ge dM_choose_41 (fun q => absurd q (nI_ge hpP (by omega))) (fun _ => ?_)
      refine s_aload_n dM_choose_44 rfl rfl ?_
      refine s_iload dM_choose_45 rfl ?_
      refine s_iload_n dM_choose_47 rfl rfl ?_
      refine s_iload_n dM_choose_48 rfl rfl ?_
      refine s_iload_n dM_choose_49 rfl rfl ?_
      refine s_v4 dM_choose_50 cv_M_254 hM_o (c_M_isMeant T S1 P1 hpP hf hs) rfl rfl rfl rfl ?_
      refine s_if_eq dM_choose_53 (fun q => absurd q (by rw [hm]; decide)) (fun _ => ?_)
      refine s_iconst (v := 1) dM_choose_56 (by decide) ?_
      refine s_istore dM_choose_57 rfl ?_
      refine s_iconst (v := 0) dM_choose_59 (by decide) ?_
      refine s_istore dM_choose_60 rfl ?_
      refine l_M_most T S1 P1 hPn hpP hf hs (fun o7 => ?_) P 0 (by omega)
      cases ht : mst σ n f s p P with
      | true =>
        have e1 : chs σ n f s P (p + 1) = nI p := by simp [chs, hm, ht]
        refine s_iload dM_choose_157 rfl ?_
        refine s_if_eq dM_choose_159 (fun q => absurd q (by decide)) (fun _ => ?_)
        refine s_iload dM_choose_162 rfl ?_
        refine s_goto dM_choose_164 ?_
        refine s_top e1.symm ?_
        refine s_istore dM_choose_181 rfl ?_
        first | refine s_iincN dM_choose_183 rfl rfl ?_ | refine s_iinc dM_choose_183 rfl rfl ?_
        refine s_goto dM_choose_186 ?_
        exact ih1 (p + 1) _ _ (by omega)
      | false =>
        by_cases c4 : chs σ n f s P p = -4
        · have e1 : chs σ n f s P (p + 1) = -5 := by simp [chs, hm, ht, c4]
          refine s_iload dM_choose_157 rfl ?_
          refine s_if_eq dM_choose_159 (fun _ => ?_) (fun q => absurd rfl q)
          refine s_iload dM_choose_167 rfl ?_
          refine s_bipush (v := (-4)) dM_choose_169 (by decide) ?_
          refine s_icmp_ne dM_choose_171 (fun q => absurd c4 q) (fun _ => ?_)
          refine s_bipush (v := (-5)) dM_choose_174 (by decide) ?_
          refine s_goto dM_choose_176 ?_
          rw [← e1]
          refine s_istore dM_choose_181 rfl ?_
          first | refine s_iincN dM_choose_183 rfl rfl ?_ | refine s_iinc dM_choose_183 rfl rfl ?_
          refine s_goto dM_choose_186 ?_
          exact ih1 (p + 1) _ _ (by omega)
        · have e1 : chs σ n f s P (p + 1) = chs σ n f s P p := by simp [chs, hm, ht, c4]
          refine s_iload dM_choose_157 rfl ?_
          refine s_if_eq dM_choose_159 (fun _ => ?_) (fun q => absurd rfl q)
          refine s_iload dM_choose_167 rfl ?_
          refine s_bipush (v := (-4)) dM_choose_169 (by decide) ?_
          refine s_icmp_ne dM_choose_171 (fun _ => ?_) (fun q => absurd q c4)
          refine s_iload dM_choose_179 rfl ?_
          rw [← e1]
          refine s_istore dM_choose_181 rfl ?_
          first | refine s_iincN dM_choose_183 rfl rfl ?_ | refine s_iinc dM_choose_183 rfl rfl ?_
          refine s_goto dM_choose_186 ?_
          exact ih1 (p + 1) _ _ (by omega)
theorem c_M_choose {σ : Sg} {h : Hp} {K N P : Nat} (n f s : Int32) (T : KP σ K) (S1 : SK σ N K) (P1 : PH σ P K) (hNn : σ 2 0 = nI N) (hPn : σ 50 0 = nI P) : ConF mM_choose 2 [vR (100, 0, 0), vI n, vI f, vI s] (hM σ h) (some (vI (fChoose σ n f s N P))) (hM σ h) := by
  have hN := S1.1
  unfold fChoose
  refine c_enter (by decide +kernel) rfl rfl ?_
  rcases iz_cases n (K := 10) (by omega) with ⟨e1, hz⟩ | ⟨j, hj, rfl, e1⟩
  · rw [e1]
    refine s_iload_n dM_choose_0 rfl rfl ?_
    refine s_iconst (v := 0) dM_choose_1 (by decide) ?_
    refine s_bipush (v := nI 9) dM_choose_2 (by decide) ?_
    refine s_t3 dM_choose_4 cs_M_117 (c_inZ (K := 10) (by omega) hz) rfl rfl rfl rfl ?_
    refine s_if_eq dM_choose_7 (fun _ => ?_) (fun q => absurd rfl q)
    refine s_iconst (v := (-1)) dM_choose_26 (by decide) ?_
    refine s_iret dM_choose_27 rfl (by first | exact Nat.le_refl _ | decide | omega) (by first | exact Nat.le_refl _ | decide | omega) ?_
    exact ⟨rfl, rfl⟩
  · rcases iz_cases f (K := N) (by omega) with ⟨e2, hz⟩ | ⟨i, hi1, rfl, e2⟩
    · rw [e1, e2]
      refine s_iload_n dM_choose_0 rfl rfl ?_
      refine s_iconst (v := 0) dM_choose_1 (by decide) ?_
      refine s_bipush (v := nI 9) dM_choose_2 (by decide) ?_
      refine s_t3 dM_choose_4 cs_M_117 (c_inZ (K := 10) (by omega) (Iz1 hj)) rfl rfl rfl rfl ?_
      refine s_if_eq dM_choose_7 (fun q => absurd q (by decide)) (fun _ => ?_)
      refine s_aload_n dM_choose_10 rfl rfl ?_
      refine s_iload_n dM_choose_11 rfl rfl ?_
      refine s_v1 dM_choose_12 cv_M_128 hM_o (c_M_isSubject hNn (by omega) hz) rfl rfl rfl rfl ?_
      refine s_if_eq dM_choose_15 (fun _ => ?_) (fun q => absurd rfl q)
      refine s_iconst (v := (-1)) dM_choose_26 (by decide) ?_
      refine s_iret dM_choose_27 rfl (by first | exact Nat.le_refl _ | decide | omega) (by first | exact Nat.le_refl _ | decide | omega) ?_
      exact ⟨rfl, rfl⟩
    · rcases iz_cases s (K := N) (by omega) with ⟨e3, hz⟩ | ⟨i2, hi2, rfl, e3⟩
      · rw [e1, e2, e3]
        refine s_iload_n dM_choose_0 rfl rfl ?_
        refine s_iconst (v := 0) dM_choose_1 (by decide) ?_
        refine s_bipush (v := nI 9) dM_choose_2 (by decide) ?_
        refine s_t3 dM_choose_4 cs_M_117 (c_inZ (K := 10) (by omega) (Iz1 hj)) rfl rfl rfl rfl ?_
        refine s_if_eq dM_choose_7 (fun q => absurd q (by decide)) (fun _ => ?_)
        refine s_aload_n dM_choose_10 rfl rfl ?_
        refine s_iload_n dM_choose_11 rfl rfl ?_
        refine s_v1 dM_choose_12 cv_M_128 hM_o (c_M_isSubject hNn (by omega) (Iz1 hi1)) rfl rfl rfl rfl ?_
        refine s_if_eq dM_choose_15 (fun q => absurd q (by decide)) (fun _ => ?_)
        refine s_aload_n dM_choose_18 rfl rfl ?_
        refine s_iload_n dM_choose_19 rfl rfl ?_
        refine s_v1 dM_choose_20 cv_M_128 hM_o (c_M_isSubject hNn (by omega) hz) rfl rfl rfl rfl ?_
        refine s_if_ne dM_choose_23 (fun q => absurd rfl q) (fun _ => ?_)
        refine s_iconst (v := (-1)) dM_choose_26 (by decide) ?_
        refine s_iret dM_choose_27 rfl (by first | exact Nat.le_refl _ | decide | omega) (by first | exact Nat.le_refl _ | decide | omega) ?_
        exact ⟨rfl, rfl⟩
      · rw [e1, e2, e3]
        refine s_iload_n dM_choose_0 rfl rfl ?_
        refine s_iconst (v := 0) dM_choose_1 (by decide) ?_
        refine s_bipush (v := nI 9) dM_choose_2 (by decide) ?_
        refine s_t3 dM_choose_4 cs_M_117 (c_inZ (K := 10) (by omega) (Iz1 hj)) rfl rfl rfl rfl ?_
        refine s_if_eq dM_choose_7 (fun q => absurd q (by decide)) (fun _ => ?_)
        refine s_aload_n dM_choose_10 rfl rfl ?_
        refine s_iload_n dM_choose_11 rfl rfl ?_
        refine s_v1 dM_choose_12 cv_M_128 hM_o (c_M_isSubject hNn (by omega) (Iz1 hi1)) rfl rfl rfl rfl ?_
        refine s_if_eq dM_choose_15 (fun q => absurd q (by decide)) (fun _ => ?_)
        refine s_aload_n dM_choose_18 rfl rfl ?_
        refine s_iload_n dM_choose_19 rfl rfl ?_
        refine s_v1 dM_choose_20 cv_M_128 hM_o (c_M_isSubject hNn (by omega) (Iz1 hi2)) rfl rfl rfl rfl ?_
        refine s_if_ne dM_choose_23 (fun _ => ?_) (fun q => absurd q (by decide))
        refine s_bipush (v := (-4)) dM_choose_28 (by decide) ?_
        refine s_istore dM_choose_30 rfl ?_
        refine s_iconst (v := 0) dM_choose_32 (by decide) ?_
        refine s_istore dM_choose_33 rfl ?_
        exact l_M_choose T S1 P1 hPn hi1 hi2 ⟨rfl, rfl⟩ P 0 none none (by omega)
