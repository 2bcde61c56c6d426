/-! act, turn -/
def SP (σ : Sg) (A B : Nat) : Prop := A ≤ 8 ∧ ∀ a k, a < A → k < 6 → σ 34 (6 * a + k) = -4 ∨ ∃ b, b < B ∧ σ 34 (6 * a + k) = nI b
def actS (σ : Sg) (rw0 : Nat → List Nat) (s a : Nat) : Nat → Nat → Gs → Int32 × Gs
  | 0, _, g => (0, g)
  | n + 1, k, g =>
    if σ 34 (6 * a + k) = -4 then actS σ rw0 s a n (k + 1) g
    else if ge (runS σ rw0 s 6 0 (nt (σ 34 (6 * a + k))) g).1 ≠ 0 then (-10 - gs (runS σ rw0 s 6 0 (nt (σ 34 (6 * a + k))) g).1, (runS σ rw0 s 6 0 (nt (σ 34 (6 * a + k))) g).1)
    else if (runS σ rw0 s 6 0 (nt (σ 34 (6 * a + k))) g).2 ≠ 0 ∧ k ≠ 3 ∧ k ≠ 5 then (nI (100 * (k + 1)) + (runS σ rw0 s 6 0 (nt (σ 34 (6 * a + k))) g).2, (runS σ rw0 s 6 0 (nt (σ 34 (6 * a + k))) g).1)
    else actS σ rw0 s a n (k + 1) (runS σ rw0 s 6 0 (nt (σ 34 (6 * a + k))) g).1
/-- before the first run of an action: the older trace stays -/
def actF (σ : Sg) (rw0 : Nat → List Nat) (s a : Nat) : Nat → Nat → Gs → Int32 × Gs
  | 0, _, g => (0, g)
  | n + 1, k, g => if σ 34 (6 * a + k) = -4 then actF σ rw0 s a n (k + 1) g else actS σ rw0 s a (n + 1) k (gf g)
theorem l_M_act {σ0 : Sg} {h : Hp} {rw0 : Nat → List Nat} {R K N NS B A s a : Nat} {Q : Option PV → Hp → Prop} {P : Int32 × Gs} (X : RN σ0 rw0 R K N NS B) (V : SP σ0 A B) (ha : a < A) (hs : s < N) (kk : ∀ σ', RP σ0 σ' P.2 → Q (some (vI P.1)) (hM σ' h)) :
    ∀ (n k : Nat) (σ : Sg) (g : Gs) (o4 o5 : Option PV), k + n = 6 → RP σ0 σ g → ge g = 0 → σ 32 0 = 0 → actS σ0 rw0 s a n k g = P → S mM_act 7 0 0 Q 31 [some (vR (100, 0, 0)), some (vI (nI a)), some (vI (nI s)), some (vI (nI k)), o4, o5] [] (hM σ h) 0 0 := by
  have hB12 := X.2.2.2.2.1
  have hN20 := X.2.1.1
  have hA := V.1
  intro n
  induction n with
  | zero =>
    intro k σ g o4 o5 hk1 hp1 hg0 h32 hP
    subst hP
    have ek : k = 6 := by omega
    subst ek
    refine s_iload_n dM_act_31 rfl rfl ?_
    refine s_bipush (v := nI 6) dM_act_32 (by decide) ?_
    refine s_icmp_ge dM_act_34 (fun _ => ?_) (fun q => absurd (nI_le (Nat.le_refl _) (by omega)) q)
    refine s_iconst (v := 0) dM_act_123 (by decide) ?_
    refine s_iret dM_act_124 rfl (by first | exact Nat.le_refl _ | decide | omega) (by first | exact Nat.le_refl _ | decide | omega) ?_
    exact kk σ hp1
  | succ n ih1 =>
    intro k σ g o4 o5 hk1 hp1 hg0 h32 hP
    have e34 : σ 34 (6 * a + k) = σ0 34 (6 * a + k) := hp1.1 34 _ rfl
    unfold actS at hP
    rcases V.2 a k ha (by omega) with e1 | ⟨b, hb1, e1⟩
    · rw [if_pos e1] at hP
      rw [e1] at e34
      refine s_iload_n dM_act_31 rfl rfl ?_
      refine s_bipush (v := nI 6) dM_act_32 (by decide) ?_
      refine s_icmp_ge dM_act_34 (fun q => absurd q (nI_ge (show k < 6 by omega) (by omega))) (fun _ => ?_)
      refine s_aload_n dM_act_37 rfl rfl ?_
      refine s_mga dM_act_38 gf_M_77 rfl ?_
      refine s_bipush (v := nI 6) dM_act_41 (by decide) ?_
      refine s_iload_n dM_act_43 rfl rfl ?_
      first | refine s_imulN dM_act_44 ?_ | refine s_imul dM_act_44 ?_
      refine s_iload_n dM_act_45 rfl rfl ?_
      first | refine s_iaddN dM_act_46 ?_ | refine s_iadd dM_act_46 ?_
      refine s_mald dM_act_47 rfl rfl (show _ < 48 by omega) rfl ?_
      refine s_top e34 ?_
      refine s_istore dM_act_48 rfl ?_
      refine s_iload dM_act_50 rfl ?_
      refine s_bipush (v := (-4)) dM_act_52 (by decide) ?_
      refine s_icmp_ne dM_act_54 (fun q => absurd rfl q) (fun _ => ?_)
      refine s_iconst (v := 0) dM_act_57 (by decide) ?_
      refine s_goto dM_act_58 ?_
      refine s_istore dM_act_68 rfl ?_
      refine s_iload dM_act_70 rfl ?_
      refine s_bipush (v := (-4)) dM_act_72 (by decide) ?_
      refine s_icmp_eq dM_act_74 (fun _ => ?_) (fun q => absurd rfl q)
      refine s_iload dM_act_92 rfl ?_
      refine s_if_eq dM_act_94 (fun _ => ?_) (fun q => absurd rfl q)
      first | refine s_iincN dM_act_117 rfl rfl ?_ | refine s_iinc dM_act_117 rfl rfl ?_
      refine s_goto dM_act_120 ?_
      exact ih1 (k + 1) σ g _ _ (by omega) hp1 hg0 h32 hP
    · rw [if_neg (by rw [e1]; exact nI_m4 (by omega)), e1, nt_nI (by omega)] at hP
      rw [e1] at e34
      refine s_iload_n dM_act_31 rfl rfl ?_
      refine s_bipush (v := nI 6) dM_act_32 (by decide) ?_
      refine s_icmp_ge dM_act_34 (fun q => absurd q (nI_ge (show k < 6 by omega) (by omega))) (fun _ => ?_)
      refine s_aload_n dM_act_37 rfl rfl ?_
      refine s_mga dM_act_38 gf_M_77 rfl ?_
      refine s_bipush (v := nI 6) dM_act_41 (by decide) ?_
      refine s_iload_n dM_act_43 rfl rfl ?_
      first | refine s_imulN dM_act_44 ?_ | refine s_imul dM_act_44 ?_
      refine s_iload_n dM_act_45 rfl rfl ?_
      first | refine s_iaddN dM_act_46 ?_ | refine s_iadd dM_act_46 ?_
      refine s_mald dM_act_47 rfl rfl (show _ < 48 by omega) rfl ?_
      refine s_top e34 ?_
      refine s_istore dM_act_48 rfl ?_
      refine s_iload dM_act_50 rfl ?_
      refine s_bipush (v := (-4)) dM_act_52 (by decide) ?_
      refine s_icmp_ne dM_act_54 (fun _ => ?_) (fun q => absurd q (nI_m4 (by omega)))
      refine s_aload_n dM_act_61 rfl rfl ?_
      refine s_iload dM_act_62 rfl ?_
      refine s_iload_n dM_act_64 rfl rfl ?_
      refine s_callV (As := [_, _]) dM_act_65 cv_M_221 hM_o (c_M_runs0 (X.sr hp1.1) hs hb1 hp1.2.1 hp1.2.2 hg0 h32) rfl rfl rfl rfl (fun v h' q => ?_)
      obtain ⟨σ1, o, rfl, rfl, q1, q2, q3⟩ := q
      rw [runS_sr hp1.1] at q1 q2
      generalize hF : runS σ0 rw0 s 6 0 b g = F at hP q1 q2
      have q4 : RP σ0 σ1 F.1 := ⟨hp1.1.tr q2.1, q2.2⟩
      have e30 := q2.2.1.2.2.2.1
      by_cases c1 : ge F.1 = 0
      · have eo := q1 c1
        subst eo
        rw [if_neg (fun z1 => z1 c1)] at hP
        by_cases c2 : F.2 = 0
        · rw [if_neg (fun z1 => z1.1 c2)] at hP
          refine s_istore dM_act_68 rfl ?_
          refine s_iload dM_act_70 rfl ?_
          refine s_bipush (v := (-4)) dM_act_72 (by decide) ?_
          refine s_icmp_eq dM_act_74 (fun q => absurd q (nI_m4 (by omega))) (fun _ => ?_)
          refine s_aload_n dM_act_77 rfl rfl ?_
          refine s_mgi dM_act_78 gf_M_194 rfl ?_
          refine s_if_eq dM_act_81 (fun _ => ?_) (fun q => absurd (e30.trans c1) q)
          refine s_iload dM_act_92 rfl ?_
          refine s_if_eq dM_act_94 (fun _ => ?_) (fun q => absurd c2 q)
          first | refine s_iincN dM_act_117 rfl rfl ?_ | refine s_iinc dM_act_117 rfl rfl ?_
          refine s_goto dM_act_120 ?_
          exact ih1 (k + 1) σ1 F.1 _ _ (by omega) q4 c1 q3 hP
        · by_cases c3 : k = 3
          · rw [if_neg (fun z1 => z1.2.1 c3)] at hP
            subst c3
            refine s_istore dM_act_68 rfl ?_
            refine s_iload dM_act_70 rfl ?_
            refine s_bipush (v := (-4)) dM_act_72 (by decide) ?_
            refine s_icmp_eq dM_act_74 (fun q => absurd q (nI_m4 (by omega))) (fun _ => ?_)
            refine s_aload_n dM_act_77 rfl rfl ?_
            refine s_mgi dM_act_78 gf_M_194 rfl ?_
            refine s_if_eq dM_act_81 (fun _ => ?_) (fun q => absurd (e30.trans c1) q)
            refine s_iload dM_act_92 rfl ?_
            refine s_if_eq dM_act_94 (fun q => absurd q c2) (fun _ => ?_)
            refine s_iload_n dM_act_97 rfl rfl ?_
            refine s_iconst (v := nI 3) dM_act_98 (by decide) ?_
            refine s_icmp_eq dM_act_99 (fun _ => ?_) (fun q => absurd rfl q)
            first | refine s_iincN dM_act_117 rfl rfl ?_ | refine s_iinc dM_act_117 rfl rfl ?_
            refine s_goto dM_act_120 ?_
            exact ih1 4 σ1 F.1 _ _ (by omega) q4 c1 q3 hP
          · by_cases c5 : k = 5
            · rw [if_neg (fun z1 => z1.2.2 c5)] at hP
              subst c5
              refine s_istore dM_act_68 rfl ?_
              refine s_iload dM_act_70 rfl ?_
              refine s_bipush (v := (-4)) dM_act_72 (by decide) ?_
              refine s_icmp_eq dM_act_74 (fun q => absurd q (nI_m4 (by omega))) (fun _ => ?_)
              refine s_aload_n dM_act_77 rfl rfl ?_
              refine s_mgi dM_act_78 gf_M_194 rfl ?_
              refine s_if_eq dM_act_81 (fun _ => ?_) (fun q => absurd (e30.trans c1) q)
              refine s_iload dM_act_92 rfl ?_
              refine s_if_eq dM_act_94 (fun q => absurd q c2) (fun _ => ?_)
              refine s_iload_n dM_act_97 rfl rfl ?_
              refine s_iconst (v := nI 3) dM_act_98 (by decide) ?_
              refine s_icmp_eq dM_act_99 (fun q => absurd q (nI_ne (by omega) (by omega) (by omega))) (fun _ => ?_)
              refine s_iload_n dM_act_102 rfl rfl ?_
              refine s_iconst (v := nI 5) dM_act_103 (by decide) ?_
              refine s_icmp_eq dM_act_104 (fun _ => ?_) (fun q => absurd rfl q)
              first | refine s_iincN dM_act_117 rfl rfl ?_ | refine s_iinc dM_act_117 rfl rfl ?_
              refine s_goto dM_act_120 ?_
              exact ih1 6 σ1 F.1 _ _ (by omega) q4 c1 q3 hP
            · rw [if_pos ⟨c2, c3, c5⟩] at hP
              subst hP
              refine s_istore dM_act_68 rfl ?_
              refine s_iload dM_act_70 rfl ?_
              refine s_bipush (v := (-4)) dM_act_72 (by decide) ?_
              refine s_icmp_eq dM_act_74 (fun q => absurd q (nI_m4 (by omega))) (fun _ => ?_)
              refine s_aload_n dM_act_77 rfl rfl ?_
              refine s_mgi dM_act_78 gf_M_194 rfl ?_
              refine s_if_eq dM_act_81 (fun _ => ?_) (fun q => absurd (e30.trans c1) q)
              refine s_iload dM_act_92 rfl ?_
              refine s_if_eq dM_act_94 (fun q => absurd q c2) (fun _ => ?_)
              refine s_iload_n dM_act_97 rfl rfl ?_
              refine s_iconst (v := nI 3) dM_act_98 (by decide) ?_
              refine s_icmp_eq dM_act_99 (fun q => absurd q (nI_ne c3 (by omega) (by omega))) (fun _ => ?_)
              refine s_iload_n dM_act_102 rfl rfl ?_
              refine s_iconst (v := nI 5) dM_act_103 (by decide) ?_
              refine s_icmp_eq dM_act_104 (fun q => absurd q (nI_ne c5 (by omega) (by omega))) (fun _ => ?_)
              refine s_bipush (v := nI 100) dM_act_107 (by decide) ?_
              refine s_iload_n dM_act_109 rfl rfl ?_
              refine s_iconst (v := nI 1) dM_act_110 (by decide) ?_
              first | refine s_iaddN dM_act_111 ?_ | refine s_iadd dM_act_111 ?_
              first | refine s_imulN dM_act_112 ?_ | refine s_imul dM_act_112 ?_
              refine s_iload dM_act_113 rfl ?_
              first | refine s_iaddN dM_act_115 ?_ | refine s_iadd dM_act_115 ?_
              refine s_iret dM_act_116 rfl (by first | exact Nat.le_refl _ | decide | omega) (by first | exact Nat.le_refl _ | decide | omega) ?_
              exact kk σ1 q4
      · rw [if_pos c1] at hP
        subst hP
        have e31 := q2.2.1.2.2.2.2
        refine s_istore dM_act_68 rfl ?_
        refine s_iload dM_act_70 rfl ?_
        refine s_bipush (v := (-4)) dM_act_72 (by decide) ?_
        refine s_icmp_eq dM_act_74 (fun q => absurd q (nI_m4 (by omega))) (fun _ => ?_)
        refine s_aload_n dM_act_77 rfl rfl ?_
        refine s_mgi dM_act_78 gf_M_194 rfl ?_
        refine s_if_eq dM_act_81 (fun q => absurd q (by rw [e30]; exact c1)) (fun _ => ?_)
        refine s_bipush (v := (-10)) dM_act_84 (by decide) ?_
        refine s_aload_n dM_act_86 rfl rfl ?_
        refine s_mgi dM_act_87 gf_M_211 rfl ?_
        refine s_top e31 ?_
        first | refine s_isubN dM_act_90 (by omega) ?_ | refine s_isub dM_act_90 ?_
        refine s_iret dM_act_91 rfl (by first | exact Nat.le_refl _ | decide | omega) (by first | exact Nat.le_refl _ | decide | omega) ?_
        exact kk σ1 q4
theorem l_M_actF {σ0 : Sg} {h : Hp} {rw0 : Nat → List Nat} {R K N NS B A s a : Nat} {Q : Option PV → Hp → Prop} {P : Int32 × Gs} (X : RN σ0 rw0 R K N NS B) (V : SP σ0 A B) (ha : a < A) (hs : s < N) (kk : ∀ σ', RP σ0 σ' P.2 → Q (some (vI P.1)) (hM σ' h)) :
    ∀ (n k : Nat) (σ : Sg) (g : Gs) (o4 o5 : Option PV), k + n = 6 → RP σ0 σ g → σ 32 0 = 1 → actF σ0 rw0 s a n k g = P → S mM_act 7 0 0 Q 31 [some (vR (100, 0, 0)), some (vI (nI a)), some (vI (nI s)), some (vI (nI k)), o4, o5] [] (hM σ h) 0 0 := by
  have hB12 := X.2.2.2.2.1
  have hN20 := X.2.1.1
  have hA := V.1
  intro n
  induction n with
  | zero =>
    intro k σ g o4 o5 hk1 hp1 h32 hP
    subst hP
    have ek : k = 6 := by omega
    subst ek
    refine s_iload_n dM_act_31 rfl rfl ?_
    refine s_bipush (v := nI 6) dM_act_32 (by decide) ?_
    refine s_icmp_ge dM_act_34 (fun _ => ?_) (fun q => absurd (nI_le (Nat.le_refl _) (by omega)) q)
    refine s_iconst (v := 0) dM_act_123 (by decide) ?_
    refine s_iret dM_act_124 rfl (by first | exact Nat.le_refl _ | decide | omega) (by first | exact Nat.le_refl _ | decide | omega) ?_
    exact kk σ hp1
  | succ n ih1 =>
    intro k σ g o4 o5 hk1 hp1 h32 hP
    have e34 : σ 34 (6 * a + k) = σ0 34 (6 * a + k) := hp1.1 34 _ rfl
    unfold actF at hP
    rcases V.2 a k ha (by omega) with e1 | ⟨b, hb1, e1⟩
    · rw [if_pos e1] at hP
      rw [e1] at e34
      refine s_iload_n dM_act_31 rfl rfl ?_
      refine s_bipush (v := nI 6) dM_act_32 (by decide) ?_
      refine s_icmp_ge dM_act_34 (fun q => absurd q (nI_ge (show k < 6 by omega) (by omega))) (fun _ => ?_)
      refine s_aload_n dM_act_37 rfl rfl ?_
      refine s_mga dM_act_38 gf_M_77 rfl ?_
      refine s_bipush (v := nI 6) dM_act_41 (by decide) ?_
      refine s_iload_n dM_act_43 rfl rfl ?_
      first | refine s_imulN dM_act_44 ?_ | refine s_imul dM_act_44 ?_
      refine s_iload_n dM_act_45 rfl rfl ?_
      first | refine s_iaddN dM_act_46 ?_ | refine s_iadd dM_act_46 ?_
      refine s_mald dM_act_47 rfl rfl (show _ < 48 by omega) rfl ?_
      refine s_top e34 ?_
      refine s_istore dM_act_48 rfl ?_
      refine s_iload dM_act_50 rfl ?_
      refine s_bipush (v := (-4)) dM_act_52 (by decide) ?_
      refine s_icmp_ne dM_act_54 (fun q => absurd rfl q) (fun _ => ?_)
      refine s_iconst (v := 0) dM_act_57 (by decide) ?_
      refine s_goto dM_act_58 ?_
      refine s_istore dM_act_68 rfl ?_
      refine s_iload dM_act_70 rfl ?_
      refine s_bipush (v := (-4)) dM_act_72 (by decide) ?_
      refine s_icmp_eq dM_act_74 (fun _ => ?_) (fun q => absurd rfl q)
      refine s_iload dM_act_92 rfl ?_
      refine s_if_eq dM_act_94 (fun _ => ?_) (fun q => absurd rfl q)
      first | refine s_iincN dM_act_117 rfl rfl ?_ | refine s_iinc dM_act_117 rfl rfl ?_
      refine s_goto dM_act_120 ?_
      exact ih1 (k + 1) σ g _ _ (by omega) hp1 h32 hP
    · rw [if_neg (by rw [e1]; exact nI_m4 (by omega))] at hP
      unfold actS at hP
      rw [if_neg (by rw [e1]; exact nI_m4 (by omega)), e1, nt_nI (by omega)] at hP
      rw [e1] at e34
      refine s_iload_n dM_act_31 rfl rfl ?_
      refine s_bipush (v := nI 6) dM_act_32 (by decide) ?_
      refine s_icmp_ge dM_act_34 (fun q => absurd q (nI_ge (show k < 6 by omega) (by omega))) (fun _ => ?_)
      refine s_aload_n dM_act_37 rfl rfl ?_
      refine s_mga dM_act_38 gf_M_77 rfl ?_
      refine s_bipush (v := nI 6) dM_act_41 (by decide) ?_
      refine s_iload_n dM_act_43 rfl rfl ?_
      first | refine s_imulN dM_act_44 ?_ | refine s_imul dM_act_44 ?_
      refine s_iload_n dM_act_45 rfl rfl ?_
      first | refine s_iaddN dM_act_46 ?_ | refine s_iadd dM_act_46 ?_
      refine s_mald dM_act_47 rfl rfl (show _ < 48 by omega) rfl ?_
      refine s_top e34 ?_
      refine s_istore dM_act_48 rfl ?_
      refine s_iload dM_act_50 rfl ?_
      refine s_bipush (v := (-4)) dM_act_52 (by decide) ?_
      refine s_icmp_ne dM_act_54 (fun _ => ?_) (fun q => absurd q (nI_m4 (by omega)))
      refine s_aload_n dM_act_61 rfl rfl ?_
      refine s_iload dM_act_62 rfl ?_
      refine s_iload_n dM_act_64 rfl rfl ?_
      refine s_callV (As := [_, _]) dM_act_65 cv_M_221 hM_o (c_M_runs1 (X.sr hp1.1) hs hb1 hp1.2.1 h32) rfl rfl rfl rfl (fun v h' q => ?_)
      obtain ⟨σ1, o, rfl, rfl, q1, q2, q3⟩ := q
      rw [runS_sr hp1.1] at q1 q2
      generalize hF : runS σ0 rw0 s 6 0 b (gf g) = F at hP q1 q2
      have q4 : RP σ0 σ1 F.1 := ⟨hp1.1.tr q2.1, q2.2⟩
      have e30 := q2.2.1.2.2.2.1
      have next0 : ge F.1 = 0 → actS σ0 rw0 s a n (k + 1) F.1 = P → S mM_act 7 0 0 Q 117 [some (vR (100, 0, 0)), some (vI (nI a)), some (vI (nI s)), some (vI (nI k)), some (vI (nI b)), some (vI F.2)] [] (hM σ1 h) 0 0 := by
        intro c1 hP1
        first | refine s_iincN dM_act_117 rfl rfl ?_ | refine s_iinc dM_act_117 rfl rfl ?_
        refine s_goto dM_act_120 ?_
        exact l_M_act X V ha hs kk n (k + 1) σ1 F.1 _ _ (by omega) q4 c1 q3 hP1
      by_cases c1 : ge F.1 = 0
      · have eo := q1 c1
        subst eo
        rw [if_neg (fun z1 => z1 c1)] at hP
        by_cases c2 : F.2 = 0
        · rw [if_neg (fun z1 => z1.1 c2)] at hP
          refine s_istore dM_act_68 rfl ?_
          refine s_iload dM_act_70 rfl ?_
          refine s_bipush (v := (-4)) dM_act_72 (by decide) ?_
          refine s_icmp_eq dM_act_74 (fun q => absurd q (nI_m4 (by omega))) (fun _ => ?_)
          refine s_aload_n dM_act_77 rfl rfl ?_
          refine s_mgi dM_act_78 gf_M_194 rfl ?_
          refine s_if_eq dM_act_81 (fun _ => ?_) (fun q => absurd (e30.trans c1) q)
          refine s_iload dM_act_92 rfl ?_
          refine s_if_eq dM_act_94 (fun _ => ?_) (fun q => absurd c2 q)
          exact next0 c1 hP
        · by_cases c3 : k = 3
          · rw [if_neg (fun z1 => z1.2.1 c3)] at hP
            subst c3
            refine s_istore dM_act_68 rfl ?_
            refine s_iload dM_act_70 rfl ?_
            refine s_bipush (v := (-4)) dM_act_72 (by decide) ?_
            refine s_icmp_eq dM_act_74 (fun q => absurd q (nI_m4 (by omega))) (fun _ => ?_)
            refine s_aload_n dM_act_77 rfl rfl ?_
            refine s_mgi dM_act_78 gf_M_194 rfl ?_
            refine s_if_eq dM_act_81 (fun _ => ?_) (fun q => absurd (e30.trans c1) q)
            refine s_iload dM_act_92 rfl ?_
            refine s_if_eq dM_act_94 (fun q => absurd q c2) (fun _ => ?_)
            refine s_iload_n dM_act_97 rfl rfl ?_
            refine s_iconst (v := nI 3) dM_act_98 (by decide) ?_
            refine s_icmp_eq dM_act_99 (fun _ => ?_) (fun q => absurd rfl q)
            exact next0 c1 hP
          · by_cases c5 : k = 5
            · rw [if_neg (fun z1 => z1.2.2 c5)] at hP
              subst c5
              refine s_istore dM_act_68 rfl ?_
              refine s_iload dM_act_70 rfl ?_
              refine s_bipush (v := (-4)) dM_act_72 (by decide) ?_
              refine s_icmp_eq dM_act_74 (fun q => absurd q (nI_m4 (by omega))) (fun _ => ?_)
              refine s_aload_n dM_act_77 rfl rfl ?_
              refine s_mgi dM_act_78 gf_M_194 rfl ?_
              refine s_if_eq dM_act_81 (fun _ => ?_) (fun q => absurd (e30.trans c1) q)
              refine s_iload dM_act_92 rfl ?_
              refine s_if_eq dM_act_94 (fun q => absurd q c2) (fun _ => ?_)
              refine s_iload_n dM_act_97 rfl rfl ?_
              refine s_iconst (v := nI 3) dM_act_98 (by decide) ?_
              refine s_icmp_eq dM_act_99 (fun q => absurd q (nI_ne (by omega) (by omega) (by omega))) (fun _ => ?_)
              refine s_iload_n dM_act_102 rfl rfl ?_
              refine s_iconst (v := nI 5) dM_act_103 (by decide) ?_
              refine s_icmp_eq dM_act_104 (fun _ => ?_) (fun q => absurd rfl q)
              exact next0 c1 hP
            · rw [if_pos ⟨c2, c3, c5⟩] at hP
              subst hP
              refine s_istore dM_act_68 rfl ?_
              refine s_iload dM_act_70 rfl ?_
              refine s_bipush (v := (-4)) dM_act_72 (by decide) ?_
              refine s_icmp_eq dM_act_74 (fun q => absurd q (nI_m4 (by omega))) (fun _ => ?_)
              refine s_aload_n dM_act_77 rfl rfl ?_
              refine s_mgi dM_act_78 gf_M_194 rfl ?_
              refine s_if_eq dM_act_81 (fun _ => ?_) (fun q => absurd (e30.trans c1) q)
              refine s_iload dM_act_92 rfl ?_
              refine s_if_eq dM_act_94 (fun q => absurd q c2) (fun _ => ?_)
              refine s_iload_n dM_act_97 rfl rfl ?_
              refine s_iconst (v := nI 3) dM_act_98 (by decide) ?_
              refine s_icmp_eq dM_act_99 (fun q => absurd q (nI_ne c3 (by omega) (by omega))) (fun _ => ?_)
              refine s_iload_n dM_act_102 rfl rfl ?_
              refine s_iconst (v := nI 5) dM_act_103 (by decide) ?_
              refine s_icmp_eq dM_act_104 (fun q => absurd q (nI_ne c5 (by omega) (by omega))) (fun _ => ?_)
              refine s_bipush (v := nI 100) dM_act_107 (by decide) ?_
              refine s_iload_n dM_act_109 rfl rfl ?_
              refine s_iconst (v := nI 1) dM_act_110 (by decide) ?_
              first | refine s_iaddN dM_act_111 ?_ | refine s_iadd dM_act_111 ?_
              first | refine s_imulN dM_act_112 ?_ | refine s_imul dM_act_112 ?_
              refine s_iload dM_act_113 rfl ?_
              first | refine s_iaddN dM_act_115 ?_ | refine s_iadd dM_act_115 ?_
              refine s_iret dM_act_116 rfl (by first | exact Nat.le_refl _ | decide | omega) (by first | exact Nat.le_refl _ | decide | omega) ?_
              exact kk σ1 q4
      · rw [if_pos c1] at hP
        subst hP
        have e31 := q2.2.1.2.2.2.2
        refine s_istore dM_act_68 rfl ?_
        refine s_iload dM_act_70 rfl ?_
        refine s_bipush (v := (-4)) dM_act_72 (by decide) ?_
        refine s_icmp_eq dM_act_74 (fun q => absurd q (nI_m4 (by omega))) (fun _ => ?_)
        refine s_aload_n dM_act_77 rfl rfl ?_
        refine s_mgi dM_act_78 gf_M_194 rfl ?_
        refine s_if_eq dM_act_81 (fun q => absurd q (by rw [e30]; exact c1)) (fun _ => ?_)
        refine s_bipush (v := (-10)) dM_act_84 (by decide) ?_
        refine s_aload_n dM_act_86 rfl rfl ?_
        refine s_mgi dM_act_87 gf_M_211 rfl ?_
        refine s_top e31 ?_
        first | refine s_isubN dM_act_90 (by omega) ?_ | refine s_isub dM_act_90 ?_
        refine s_iret dM_act_91 rfl (by first | exact Nat.le_refl _ | decide | omega) (by first | exact Nat.le_refl _ | decide | omega) ?_
        exact kk σ1 q4
def fAct (σ : Sg) (rw0 : Nat → List Nat) (a s : Int32) (A N : Nat) (g : Gs) : Int32 × Gs := match ix a A, ix s N with
  | some a, some s => actF σ rw0 s a 6 0 g
  | _, _ => (-1, g)
theorem c_M_act {σ : Sg} {h : Hp} {rw0 : Nat → List Nat} {R K N NS B A : Nat} {g : Gs} (a s : Int32) (X : RN σ rw0 R K N NS B) (V : SP σ A B) (hA : σ 33 0 = nI A) (hN : σ 2 0 = nI N) (hg : gR σ g) (hn : gn g ≤ 300) :
    Con mM_act 7 0 0 [vR (100, 0, 0), vI a, vI s] (hM σ h) (fun v h' => ∃ σ', h' = hM σ' h ∧ v = some (vI (fAct σ rw0 a s A N g).1) ∧ RP σ σ' (fAct σ rw0 a s A N g).2) := by
  have hA8 := V.1
  have hN20 := X.2.1.1
  have c1 : sr σ (us σ 32 0 1) := sr.rf.us rfl
  unfold fAct
  refine c_enter (by decide +kernel) rfl rfl ?_
  rcases iz_cases a (K := A) (by omega) with ⟨e1, hz⟩ | ⟨a, ha1, rfl, e1⟩
  · rw [e1]
    refine s_iload_n dM_act_0 rfl rfl ?_
    refine s_iconst (v := 0) dM_act_1 (by decide) ?_
    refine s_aload_n dM_act_2 rfl rfl ?_
    refine s_mgi dM_act_3 gf_M_227 rfl ?_
    refine s_top hA ?_
    refine s_iconst (v := nI 1) dM_act_6 (by decide) ?_
    first | refine s_isubN dM_act_7 (by omega) ?_ | refine s_isub dM_act_7 ?_
    refine s_t3 dM_act_8 cs_M_117 (c_inZ (by omega) hz) rfl rfl rfl rfl ?_
    refine s_if_eq dM_act_11 (fun _ => ?_) (fun q => absurd rfl q)
    refine s_iconst (v := (-1)) dM_act_22 (by decide) ?_
    refine s_iret dM_act_23 rfl (by first | exact Nat.le_refl _ | decide | omega) (by first | exact Nat.le_refl _ | decide | omega) ?_
    exact ⟨σ, rfl, rfl, sr.rf, hg, hn⟩
  · rw [e1]
    rcases iz_cases s (K := N) (by omega) with ⟨e2, hz⟩ | ⟨s, hs1, rfl, e2⟩
    · rw [e2]
      refine s_iload_n dM_act_0 rfl rfl ?_
      refine s_iconst (v := 0) dM_act_1 (by decide) ?_
      refine s_aload_n dM_act_2 rfl rfl ?_
      refine s_mgi dM_act_3 gf_M_227 rfl ?_
      refine s_top hA ?_
      refine s_iconst (v := nI 1) dM_act_6 (by decide) ?_
      first | refine s_isubN dM_act_7 (by omega) ?_ | refine s_isub dM_act_7 ?_
      refine s_t3 dM_act_8 cs_M_117 (c_inZ (by omega) (Iz1 ha1)) rfl rfl rfl rfl ?_
      refine s_if_eq dM_act_11 (fun q => absurd q (by decide)) (fun _ => ?_)
      refine s_aload_n dM_act_14 rfl rfl ?_
      refine s_iload_n dM_act_15 rfl rfl ?_
      refine s_v1 dM_act_16 cv_M_128 hM_o (c_M_isSubject hN (by omega) hz) rfl rfl rfl rfl ?_
      refine s_if_ne dM_act_19 (fun q => absurd rfl q) (fun _ => ?_)
      refine s_iconst (v := (-1)) dM_act_22 (by decide) ?_
      refine s_iret dM_act_23 rfl (by first | exact Nat.le_refl _ | decide | omega) (by first | exact Nat.le_refl _ | decide | omega) ?_
      exact ⟨σ, rfl, rfl, sr.rf, hg, hn⟩
    · rw [e2]
      dsimp only
      refine s_iload_n dM_act_0 rfl rfl ?_
      refine s_iconst (v := 0) dM_act_1 (by decide) ?_
      refine s_aload_n dM_act_2 rfl rfl ?_
      refine s_mgi dM_act_3 gf_M_227 rfl ?_
      refine s_top hA ?_
      refine s_iconst (v := nI 1) dM_act_6 (by decide) ?_
      first | refine s_isubN dM_act_7 (by omega) ?_ | refine s_isub dM_act_7 ?_
      refine s_t3 dM_act_8 cs_M_117 (c_inZ (by omega) (Iz1 ha1)) rfl rfl rfl rfl ?_
      refine s_if_eq dM_act_11 (fun q => absurd q (by decide)) (fun _ => ?_)
      refine s_aload_n dM_act_14 rfl rfl ?_
      refine s_iload_n dM_act_15 rfl rfl ?_
      refine s_v1 dM_act_16 cv_M_128 hM_o (c_M_isSubject hN (by omega) (Iz1 hs1)) rfl rfl rfl rfl ?_
      refine s_if_ne dM_act_19 (fun _ => ?_) (fun q => absurd q (by decide))
      refine s_aload_n dM_act_24 rfl rfl ?_
      refine s_iconst (v := 1) dM_act_25 (by decide) ?_
      refine s_mpi dM_act_26 gf_M_187 rfl rfl (by first | exact ⟨_, rfl⟩ | exact Or.inl rfl | exact Or.inr rfl) ?_
      refine s_iconst (v := 0) dM_act_29 (by decide) ?_
      refine s_istore_n dM_act_30 rfl rfl ?_
      exact l_M_actF (P := actF σ rw0 s a 6 0 g) X V ha1 hs1 (fun σ' q1 => ⟨σ', rfl, rfl, q1⟩) 6 0 _ g _ _ (by omega) ⟨c1, hg.us (by decide), hn⟩ us_s rfl
/-! turn -/
theorem nd_len : ∀ (n : Nat) (L : List Nat), L.Nodup → (∀ x ∈ L, x < n) → L.length ≤ n := by
  intro n
  induction n with
  | zero =>
    intro L _ h1
    cases L with
    | nil => exact Nat.le_refl _
    | cons a L => exact absurd (h1 a List.mem_cons_self) (by omega)
  | succ n ih1 =>
    intro L h0 h1
    have h2 := ih1 (L.erase n) (h0.erase n) (fun x hx1 => by
      have := (h0.mem_erase_iff).mp hx1
      have := h1 x this.2
      omega)
    by_cases c1 : n ∈ L
    · have h3 := List.length_erase_of_mem c1
      omega
    · have h3 := List.erase_of_not_mem c1
      rw [h3] at h2
      omega
