/-! scenes -/
def isEv (σ : Sg) (e : Int32) : Nat → Bool
  | 0 => false
  | k + 1 => isEv σ e k || decide (σ 48 k = e)
theorem isEv_of {σ : Sg} {e : Int32} {N k : Nat} (hk1 : k < N) (h1 : σ 48 k = e) : isEv σ e N = true := by
  induction N with
  | zero => omega
  | succ N ih1 =>
    by_cases c1 : k = N
    · subst c1
      simp [isEv, h1]
    · simp [isEv, ih1 (by omega)]
theorem l_M_isEvent {σ : Sg} {h : Hp} {N : Nat} {e1 : Int32} {Q : Option PV → Hp → Prop} (hN : σ 49 0 = nI N) (hN16 : N ≤ 16) (hq : Q (some (vI (zi (isEv σ e1 N)))) (hM σ h)) :
    ∀ (d k : Nat), k + d = N → isEv σ e1 k = false → S mM_isEvent 0 0 0 Q 2 [some (vR (100, 0, 0)), some (vI e1), some (vI (nI k))] [] (hM σ h) 0 0 := by
  intro d
  induction d with
  | zero =>
    intro k hk1 hf1
    have ek : k = N := by omega
    subst ek
    refine s_iload_n dM_isEvent_2 rfl rfl ?_
    refine s_aload_n dM_isEvent_3 rfl rfl ?_
    refine s_mgi dM_isEvent_4 gf_M_239 rfl ?_
    refine s_top hN ?_
    refine s_icmp_ge dM_isEvent_7 (fun _ => ?_) (fun q => absurd (nI_le (Nat.le_refl _) (by omega)) q)
    refine s_iconst (v := 0) dM_isEvent_28 (by decide) ?_
    refine s_zret dM_isEvent_29 rfl (by first | exact Or.inl rfl | exact Or.inr rfl | assumption) (by first | exact Nat.le_refl _ | decide | omega) (by first | exact Nat.le_refl _ | decide | omega) ?_
    rw [hf1] at hq
    exact hq
  | succ d ih1 =>
    intro k hk1 hf1
    by_cases c1 : σ 48 k = e1
    · refine s_iload_n dM_isEvent_2 rfl rfl ?_
      refine s_aload_n dM_isEvent_3 rfl rfl ?_
      refine s_mgi dM_isEvent_4 gf_M_239 rfl ?_
      refine s_top hN ?_
      refine s_icmp_ge dM_isEvent_7 (fun q => absurd q (nI_ge (show k < N by omega) (by omega))) (fun _ => ?_)
      refine s_aload_n dM_isEvent_10 rfl rfl ?_
      refine s_mga dM_isEvent_11 gf_M_104 rfl ?_
      refine s_iload_n dM_isEvent_14 rfl rfl ?_
      refine s_mald dM_isEvent_15 rfl rfl (show _ < 16 by omega) rfl ?_
      refine s_iload_n dM_isEvent_16 rfl rfl ?_
      refine s_icmp_ne dM_isEvent_17 (fun q => absurd c1 q) (fun _ => ?_)
      refine s_iconst (v := 1) dM_isEvent_20 (by decide) ?_
      refine s_zret dM_isEvent_21 rfl (by first | exact Or.inl rfl | exact Or.inr rfl | assumption) (by first | exact Nat.le_refl _ | decide | omega) (by first | exact Nat.le_refl _ | decide | omega) ?_
      rw [isEv_of (show k < N by omega) c1] at hq
      exact hq
    · refine s_iload_n dM_isEvent_2 rfl rfl ?_
      refine s_aload_n dM_isEvent_3 rfl rfl ?_
      refine s_mgi dM_isEvent_4 gf_M_239 rfl ?_
      refine s_top hN ?_
      refine s_icmp_ge dM_isEvent_7 (fun q => absurd q (nI_ge (show k < N by omega) (by omega))) (fun _ => ?_)
      refine s_aload_n dM_isEvent_10 rfl rfl ?_
      refine s_mga dM_isEvent_11 gf_M_104 rfl ?_
      refine s_iload_n dM_isEvent_14 rfl rfl ?_
      refine s_mald dM_isEvent_15 rfl rfl (show _ < 16 by omega) rfl ?_
      refine s_iload_n dM_isEvent_16 rfl rfl ?_
      refine s_icmp_ne dM_isEvent_17 (fun _ => ?_) (fun q => absurd q c1)
      first | refine s_iincN dM_isEvent_22 rfl rfl ?_ | refine s_iinc dM_isEvent_22 rfl rfl ?_
      refine s_goto dM_isEvent_25 ?_
      exact ih1 (k + 1) (by omega) (by simp [isEv, hf1, c1])
theorem c_M_isEvent {σ : Sg} {h : Hp} {N : Nat} {e1 : Int32} (hN : σ 49 0 = nI N) (hN16 : N ≤ 16) : ConF mM_isEvent 0 [vR (100, 0, 0), vI e1] (hM σ h) (some (vI (zi (isEv σ e1 N)))) (hM σ h) := by
  refine c_enter (by decide +kernel) rfl rfl ?_
  refine s_iconst (v := 0) dM_isEvent_0 (by decide) ?_
  refine s_istore_n dM_isEvent_1 rfl rfl ?_
  exact l_M_isEvent hN hN16 ⟨rfl, rfl⟩ N 0 (by omega) rfl
/-- the anchors are well told: of the places below A -/
def AP (σ : Sg) (A NS : Nat) : Prop := NS ≤ 8 ∧ A ≤ 16 ∧ ∀ a, a < A → ∃ c, c ≤ 4 ∧ σ 44 a = nI c ∧ (c = 2 ∨ c = 3 → ∃ x, x < NS ∧ σ 45 a = nI x) ∧ (c = 4 → ∃ x, x < 80 ∧ σ 45 a = nI x)
def met (σ : Sg) (a N : Nat) : Bool := match nt (σ 44 a) with
  | 1 => decide (σ 45 a ≤ σ 47 0)
  | 2 => isEv σ (nI (2 * nt (σ 45 a))) N
  | 3 => isEv σ (nI (2 * nt (σ 45 a) + 1)) N
  | 4 => decide (0 < σ 4 (nt (σ 45 a)))
  | _ => false
theorem c_M_isMet {σ : Sg} {h : Hp} {N A NS a : Nat} (hN : σ 49 0 = nI N) (hN16 : N ≤ 16) (P : AP σ A NS) (ha : a < A) : ConF mM_isMet 1 [vR (100, 0, 0), vI (nI a)] (hM σ h) (some (vI (zi (met σ a N)))) (hM σ h) := by
  obtain ⟨hNS, hA, P⟩ := P
  obtain ⟨c, hc1, ec, h23, h4⟩ := P a ha
  have em : nt (σ 44 a) = c := by rw [ec]; exact nt_nI (by omega)
  unfold met
  rw [em]
  refine c_enter (by decide +kernel) rfl rfl ?_
  match c, hc1 with
  | 0, _ =>
    refine s_aload_n dM_isMet_0 rfl rfl ?_
    refine s_mga dM_isMet_1 gf_M_101 rfl ?_
    refine s_iload_n dM_isMet_4 rfl rfl ?_
    refine s_mald dM_isMet_5 rfl rfl (show _ < 16 by omega) rfl ?_
    refine s_istore_n dM_isMet_6 rfl rfl ?_
    refine s_aload_n dM_isMet_7 rfl rfl ?_
    refine s_mga dM_isMet_8 gf_M_98 rfl ?_
    refine s_iload_n dM_isMet_11 rfl rfl ?_
    refine s_mald dM_isMet_12 rfl rfl (show _ < 16 by omega) rfl ?_
    refine s_top ec ?_
    refine s_tabOut (tgt := 91) dM_isMet_13 (by left; decide +kernel) (by decide) ?_
    refine s_iconst (v := 0) dM_isMet_91 (by decide) ?_
    refine s_zret dM_isMet_92 rfl (by first | exact Or.inl rfl | exact Or.inr rfl | assumption) (by first | exact Nat.le_refl _ | decide | omega) (by first | exact Nat.le_refl _ | decide | omega) ?_
    exact ⟨rfl, rfl⟩
  | 1, _ =>
    by_cases c1 : σ 47 0 < σ 45 a
    · refine s_aload_n dM_isMet_0 rfl rfl ?_
      refine s_mga dM_isMet_1 gf_M_101 rfl ?_
      refine s_iload_n dM_isMet_4 rfl rfl ?_
      refine s_mald dM_isMet_5 rfl rfl (show _ < 16 by omega) rfl ?_
      refine s_istore_n dM_isMet_6 rfl rfl ?_
      refine s_aload_n dM_isMet_7 rfl rfl ?_
      refine s_mga dM_isMet_8 gf_M_98 rfl ?_
      refine s_iload_n dM_isMet_11 rfl rfl ?_
      refine s_mald dM_isMet_12 rfl rfl (show _ < 16 by omega) rfl ?_
      refine s_top ec ?_
      refine s_tabIn (off := 31) (tgt := 44) dM_isMet_13 (by decide +kernel) (by decide +kernel) (by decide +kernel) (by decide) ?_
      refine s_aload_n dM_isMet_44 rfl rfl ?_
      refine s_mgi dM_isMet_45 gf_M_242 rfl ?_
      refine s_iload_n dM_isMet_48 rfl rfl ?_
      refine s_icmp_lt dM_isMet_49 (fun _ => ?_) (fun q => absurd c1 q)
      refine s_iconst (v := 0) dM_isMet_56 (by decide) ?_
      refine s_zret dM_isMet_57 rfl (by first | exact Or.inl rfl | exact Or.inr rfl | assumption) (by first | exact Nat.le_refl _ | decide | omega) (by first | exact Nat.le_refl _ | decide | omega) ?_
      exact ⟨by simp [zi, Int32.not_le.mpr c1], rfl⟩
    · refine s_aload_n dM_isMet_0 rfl rfl ?_
      refine s_mga dM_isMet_1 gf_M_101 rfl ?_
      refine s_iload_n dM_isMet_4 rfl rfl ?_
      refine s_mald dM_isMet_5 rfl rfl (show _ < 16 by omega) rfl ?_
      refine s_istore_n dM_isMet_6 rfl rfl ?_
      refine s_aload_n dM_isMet_7 rfl rfl ?_
      refine s_mga dM_isMet_8 gf_M_98 rfl ?_
      refine s_iload_n dM_isMet_11 rfl rfl ?_
      refine s_mald dM_isMet_12 rfl rfl (show _ < 16 by omega) rfl ?_
      refine s_top ec ?_
      refine s_tabIn (off := 31) (tgt := 44) dM_isMet_13 (by decide +kernel) (by decide +kernel) (by decide +kernel) (by decide) ?_
      refine s_aload_n dM_isMet_44 rfl rfl ?_
      refine s_mgi dM_isMet_45 gf_M_242 rfl ?_
      refine s_iload_n dM_isMet_48 rfl rfl ?_
      refine s_icmp_lt dM_isMet_49 (fun q => absurd q c1) (fun _ => ?_)
      refine s_iconst (v := 1) dM_isMet_52 (by decide) ?_
      refine s_goto dM_isMet_53 ?_
      refine s_zret dM_isMet_57 rfl (by first | exact Or.inl rfl | exact Or.inr rfl | assumption) (by first | exact Nat.le_refl _ | decide | omega) (by first | exact Nat.le_refl _ | decide | omega) ?_
      exact ⟨by simp [zi, Int32.not_lt.mp c1], rfl⟩
  | 2, _ =>
    obtain ⟨x, hx1, ex⟩ := h23 (Or.inl rfl)
    have e1 : nt (σ 45 a) = x := by rw [ex]; exact nt_nI (by omega)
    rw [e1]
    have hb1 := zi_b (isEv σ (nI (2 * x)) N)
    refine s_aload_n dM_isMet_0 rfl rfl ?_
    refine s_mga dM_isMet_1 gf_M_101 rfl ?_
    refine s_iload_n dM_isMet_4 rfl rfl ?_
    refine s_mald dM_isMet_5 rfl rfl (show _ < 16 by omega) rfl ?_
    refine s_top ex ?_
    refine s_istore_n dM_isMet_6 rfl rfl ?_
    refine s_aload_n dM_isMet_7 rfl rfl ?_
    refine s_mga dM_isMet_8 gf_M_98 rfl ?_
    refine s_iload_n dM_isMet_11 rfl rfl ?_
    refine s_mald dM_isMet_12 rfl rfl (show _ < 16 by omega) rfl ?_
    refine s_top ec ?_
    refine s_tabIn (off := 45) (tgt := 58) dM_isMet_13 (by decide +kernel) (by decide +kernel) (by decide +kernel) (by decide) ?_
    refine s_aload_n dM_isMet_58 rfl rfl ?_
    refine s_iconst (v := nI 2) dM_isMet_59 (by decide) ?_
    refine s_iload_n dM_isMet_60 rfl rfl ?_
    first | refine s_imulN dM_isMet_61 ?_ | refine s_imul dM_isMet_61 ?_
    refine s_v1 dM_isMet_62 cv_M_245 hM_o (c_M_isEvent hN hN16) rfl rfl rfl rfl ?_
    refine s_zret dM_isMet_65 rfl (by first | exact Or.inl rfl | exact Or.inr rfl | assumption) (by first | exact Nat.le_refl _ | decide | omega) (by first | exact Nat.le_refl _ | decide | omega) ?_
    exact ⟨rfl, rfl⟩
  | 3, _ =>
    obtain ⟨x, hx1, ex⟩ := h23 (Or.inr rfl)
    have e1 : nt (σ 45 a) = x := by rw [ex]; exact nt_nI (by omega)
    rw [e1]
    have hb1 := zi_b (isEv σ (nI (2 * x + 1)) N)
    refine s_aload_n dM_isMet_0 rfl rfl ?_
    refine s_mga dM_isMet_1 gf_M_101 rfl ?_
    refine s_iload_n dM_isMet_4 rfl rfl ?_
    refine s_mald dM_isMet_5 rfl rfl (show _ < 16 by omega) rfl ?_
    refine s_top ex ?_
    refine s_istore_n dM_isMet_6 rfl rfl ?_
    refine s_aload_n dM_isMet_7 rfl rfl ?_
    refine s_mga dM_isMet_8 gf_M_98 rfl ?_
    refine s_iload_n dM_isMet_11 rfl rfl ?_
    refine s_mald dM_isMet_12 rfl rfl (show _ < 16 by omega) rfl ?_
    refine s_top ec ?_
    refine s_tabIn (off := 53) (tgt := 66) dM_isMet_13 (by decide +kernel) (by decide +kernel) (by decide +kernel) (by decide) ?_
    refine s_aload_n dM_isMet_66 rfl rfl ?_
    refine s_iconst (v := nI 2) dM_isMet_67 (by decide) ?_
    refine s_iload_n dM_isMet_68 rfl rfl ?_
    first | refine s_imulN dM_isMet_69 ?_ | refine s_imul dM_isMet_69 ?_
    refine s_iconst (v := nI 1) dM_isMet_70 (by decide) ?_
    first | refine s_iaddN dM_isMet_71 ?_ | refine s_iadd dM_isMet_71 ?_
    refine s_v1 dM_isMet_72 cv_M_245 hM_o (c_M_isEvent hN hN16) rfl rfl rfl rfl ?_
    refine s_zret dM_isMet_75 rfl (by first | exact Or.inl rfl | exact Or.inr rfl | assumption) (by first | exact Nat.le_refl _ | decide | omega) (by first | exact Nat.le_refl _ | decide | omega) ?_
    exact ⟨rfl, rfl⟩
  | 4, _ =>
    obtain ⟨x, hx1, ex⟩ := h4 rfl
    have e1 : nt (σ 45 a) = x := by rw [ex]; exact nt_nI (by omega)
    rw [e1]
    by_cases c1 : σ 4 x ≤ 0
    · refine s_aload_n dM_isMet_0 rfl rfl ?_
      refine s_mga dM_isMet_1 gf_M_101 rfl ?_
      refine s_iload_n dM_isMet_4 rfl rfl ?_
      refine s_mald dM_isMet_5 rfl rfl (show _ < 16 by omega) rfl ?_
      refine s_top ex ?_
      refine s_istore_n dM_isMet_6 rfl rfl ?_
      refine s_aload_n dM_isMet_7 rfl rfl ?_
      refine s_mga dM_isMet_8 gf_M_98 rfl ?_
      refine s_iload_n dM_isMet_11 rfl rfl ?_
      refine s_mald dM_isMet_12 rfl rfl (show _ < 16 by omega) rfl ?_
      refine s_top ec ?_
      refine s_tabIn (off := 63) (tgt := 76) dM_isMet_13 (by decide +kernel) (by decide +kernel) (by decide +kernel) (by decide) ?_
      refine s_aload_n dM_isMet_76 rfl rfl ?_
      refine s_mga dM_isMet_77 gf_M_16 rfl ?_
      refine s_iload_n dM_isMet_80 rfl rfl ?_
      refine s_mald dM_isMet_81 rfl rfl (show _ < 80 by omega) rfl ?_
      refine s_if_le dM_isMet_82 (fun _ => ?_) (fun q => absurd c1 q)
      refine s_iconst (v := 0) dM_isMet_89 (by decide) ?_
      refine s_zret dM_isMet_90 rfl (by first | exact Or.inl rfl | exact Or.inr rfl | assumption) (by first | exact Nat.le_refl _ | decide | omega) (by first | exact Nat.le_refl _ | decide | omega) ?_
      exact ⟨by simp [zi, Int32.not_lt.mpr c1], rfl⟩
    · refine s_aload_n dM_isMet_0 rfl rfl ?_
      refine s_mga dM_isMet_1 gf_M_101 rfl ?_
      refine s_iload_n dM_isMet_4 rfl rfl ?_
      refine s_mald dM_isMet_5 rfl rfl (show _ < 16 by omega) rfl ?_
      refine s_top ex ?_
      refine s_istore_n dM_isMet_6 rfl rfl ?_
      refine s_aload_n dM_isMet_7 rfl rfl ?_
      refine s_mga dM_isMet_8 gf_M_98 rfl ?_
      refine s_iload_n dM_isMet_11 rfl rfl ?_
      refine s_mald dM_isMet_12 rfl rfl (show _ < 16 by omega) rfl ?_
      refine s_top ec ?_
      refine s_tabIn (off := 63) (tgt := 76) dM_isMet_13 (by decide +kernel) (by decide +kernel) (by decide +kernel) (by decide) ?_
      refine s_aload_n dM_isMet_76 rfl rfl ?_
      refine s_mga dM_isMet_77 gf_M_16 rfl ?_
      refine s_iload_n dM_isMet_80 rfl rfl ?_
      refine s_mald dM_isMet_81 rfl rfl (show _ < 80 by omega) rfl ?_
      refine s_if_le dM_isMet_82 (fun q => absurd q c1) (fun _ => ?_)
      refine s_iconst (v := 1) dM_isMet_85 (by decide) ?_
      refine s_goto dM_isMet_86 ?_
      refine s_zret dM_isMet_90 rfl (by first | exact Or.inl rfl | exact Or.inr rfl | assumption) (by first | exact Nat.le_refl _ | decide | omega) (by first | exact Nat.le_refl _ | decide | omega) ?_
      exact ⟨by simp [zi, Int32.not_le.mp c1], rfl⟩
/-! anchor -/
/-- the event that an anchor waits for -/
def evO (c x : Int32) : Option Nat := if c = nI 2 then some (2 * nt x) else if c = nI 3 then some (2 * nt x + 1) else none
/-- from e the chain comes to t -/
def chn (σ : Sg) (t : Nat) : Nat → Nat → Bool
  | 0, e => decide (e = t)
  | n + 1, e => decide (e = t) || match evO (σ 44 e) (σ 45 e) with
    | some e' => chn σ t n e'
    | none => false
/-- the chains end: a measure falls -/
def CH (σ : Sg) (A : Nat) : Prop := ∃ μ : Nat → Nat, (∀ e, e < A → μ e < 16) ∧ ∀ e e', e < A → evO (σ 44 e) (σ 45 e) = some e' → e' < A ∧ μ e' < μ e
def ancOk (c : Nat) (x : Int32) (NS N : Nat) : Bool := match c with
  | 1 => decide (0 ≤ x)
  | 2 => (ix x NS).isSome
  | 3 => (ix x NS).isSome
  | 4 => decide (0 ≤ x) && (ix (x / nI 4) N).isSome
  | _ => true
def ring (σ : Sg) (a c : Nat) (x : Int32) : Bool := match evO (nI c) x with
  | some e => chn σ a 16 e
  | none => false
theorem ring_no {σ : Sg} {a k : Nat} {x : Int32} (h2 : ¬ nI k = nI 2) (h3 : ¬ nI k = nI 3) : ring σ a k x = false := by
  unfold ring evO
  rw [if_neg h2, if_neg h3]
def fAnchor (σ : Sg) (s d c x : Int32) (NS N : Nat) : Int32 × Sg := match ix s NS, ix d 2, ix c 5 with
  | some i, some j, some k => if ancOk k x NS N then (if ring σ (2 * i + j) k x then (-2, σ) else (0, us (us σ 44 (2 * i + j) c) 45 (2 * i + j) x)) else (-1, σ)
  | _, _, _ => (-1, σ)
theorem l_M_anchor {σ : Sg} {h : Hp} {NS A t : Nat} {s d c x : Int32} {Q : Option PV → Hp → Prop} (P : AP σ A NS) (eA : A = 2 * NS) (ht : t < A) {μ : Nat → Nat} (m2 : ∀ e, e < A → μ e < 16) (m1 : ∀ e e', e < A → evO (σ 44 e) (σ 45 e) = some e' → e' < A ∧ μ e' < μ e) :
    ∀ (n e : Nat), e < A → μ e < n → (chn σ t n e = true → Q (some (vI (-2))) (hM σ h)) → (chn σ t n e = false → ∀ o6, S mM_anchor 2 0 0 Q 182 [some (vR (100, 0, 0)), some (vI s), some (vI d), some (vI c), some (vI x), some (vI (nI t)), o6] [] (hM σ h) 0 0) → S mM_anchor 2 0 0 Q 119 [some (vR (100, 0, 0)), some (vI s), some (vI d), some (vI c), some (vI x), some (vI (nI t)), some (vI (nI e))] [] (hM σ h) 0 0 := by
  obtain ⟨hNS, hA, P⟩ := P
  intro n
  induction n with
  | zero => intro e _ hm1; omega
  | succ n ih1 =>
    intro e he1 hm1 q1 q2
    by_cases c1 : e = t
    · subst c1
      refine s_iload dM_anchor_119 rfl ?_
      refine s_iload dM_anchor_121 rfl ?_
      refine s_icmp_eq dM_anchor_123 (fun _ => ?_) (fun q => absurd rfl q)
      refine s_iload dM_anchor_172 rfl ?_
      refine s_iload dM_anchor_174 rfl ?_
      refine s_icmp_ne dM_anchor_176 (fun q => absurd rfl q) (fun _ => ?_)
      refine s_bipush (v := (-2)) dM_anchor_179 (by decide) ?_
      refine s_iret dM_anchor_181 rfl (by first | exact Nat.le_refl _ | decide | omega) (by first | exact Nat.le_refl _ | decide | omega) ?_
      exact q1 (by simp [chn])
    · obtain ⟨c2, hc2, ec, h23, h4⟩ := P e he1
      have no : evO (σ 44 e) (σ 45 e) = none → S mM_anchor 2 0 0 Q 172 [some (vR (100, 0, 0)), some (vI s), some (vI d), some (vI c), some (vI x), some (vI (nI t)), some (vI (nI e))] [] (hM σ h) 0 0 := by
        intro z1
        refine s_iload dM_anchor_172 rfl ?_
        refine s_iload dM_anchor_174 rfl ?_
        refine s_icmp_ne dM_anchor_176 (fun _ => ?_) (fun q => absurd q (nI_ne c1 (by omega) (by omega)))
        exact q2 (by simp [chn, c1, z1]) _
      by_cases d2 : c2 = 2
      · subst d2
        obtain ⟨y, hy1, ey⟩ := h23 (Or.inl rfl)
        have z1 : evO (σ 44 e) (σ 45 e) = some (2 * y) := by rw [ec, ey]; simp [evO, nt_nI (a := y) (by omega)]
        obtain ⟨w1, w2⟩ := m1 e _ he1 z1
        refine s_iload dM_anchor_119 rfl ?_
        refine s_iload dM_anchor_121 rfl ?_
        refine s_icmp_eq dM_anchor_123 (fun q => absurd q (nI_ne c1 (by omega) (by omega))) (fun _ => ?_)
        refine s_aload_n dM_anchor_126 rfl rfl ?_
        refine s_mga dM_anchor_127 gf_M_98 rfl ?_
        refine s_iload dM_anchor_130 rfl ?_
        refine s_mald dM_anchor_132 rfl rfl (show _ < 16 by omega) rfl ?_
        refine s_top ec ?_
        refine s_iconst (v := nI 2) dM_anchor_133 (by decide) ?_
        refine s_icmp_eq dM_anchor_134 (fun _ => ?_) (fun q => absurd rfl q)
        refine s_iconst (v := nI 2) dM_anchor_148 (by decide) ?_
        refine s_aload_n dM_anchor_149 rfl rfl ?_
        refine s_mga dM_anchor_150 gf_M_101 rfl ?_
        refine s_iload dM_anchor_153 rfl ?_
        refine s_mald dM_anchor_155 rfl rfl (show _ < 16 by omega) rfl ?_
        refine s_top ey ?_
        first | refine s_imulN dM_anchor_156 ?_ | refine s_imul dM_anchor_156 ?_
        refine s_aload_n dM_anchor_157 rfl rfl ?_
        refine s_mga dM_anchor_158 gf_M_98 rfl ?_
        refine s_iload dM_anchor_161 rfl ?_
        refine s_mald dM_anchor_163 rfl rfl (show _ < 16 by omega) rfl ?_
        refine s_top ec ?_
        first | refine s_iaddN dM_anchor_164 ?_ | refine s_iadd dM_anchor_164 ?_
        refine s_iconst (v := nI 2) dM_anchor_165 (by decide) ?_
        first | refine s_isubN dM_anchor_166 (by omega) ?_ | refine s_isub dM_anchor_166 ?_
        refine s_istore dM_anchor_167 rfl ?_
        refine s_goto dM_anchor_169 ?_
        rw [show 2 * y + 2 - 2 = 2 * y by omega]
        exact ih1 (2 * y) w1 (by omega) (fun z2 => q1 (by simp [chn, z1, z2])) (fun z2 => q2 (by simp [chn, c1, z1, z2]))
      · by_cases d3 : c2 = 3
        · subst d3
          obtain ⟨y, hy1, ey⟩ := h23 (Or.inr rfl)
          have z1 : evO (σ 44 e) (σ 45 e) = some (2 * y + 1) := by rw [ec, ey]; simp [evO, nt_nI (a := y) (by omega)]; decide
          obtain ⟨w1, w2⟩ := m1 e _ he1 z1
          refine s_iload dM_anchor_119 rfl ?_
          refine s_iload dM_anchor_121 rfl ?_
          refine s_icmp_eq dM_anchor_123 (fun q => absurd q (nI_ne c1 (by omega) (by omega))) (fun _ => ?_)
          refine s_aload_n dM_anchor_126 rfl rfl ?_
          refine s_mga dM_anchor_127 gf_M_98 rfl ?_
          refine s_iload dM_anchor_130 rfl ?_
          refine s_mald dM_anchor_132 rfl rfl (show _ < 16 by omega) rfl ?_
          refine s_top ec ?_
          refine s_iconst (v := nI 2) dM_anchor_133 (by decide) ?_
          refine s_icmp_eq dM_anchor_134 (fun q => absurd q (by decide)) (fun _ => ?_)
          refine s_aload_n dM_anchor_137 rfl rfl ?_
          refine s_mga dM_anchor_138 gf_M_98 rfl ?_
          refine s_iload dM_anchor_141 rfl ?_
          refine s_mald dM_anchor_143 rfl rfl (show _ < 16 by omega) rfl ?_
          refine s_top ec ?_
          refine s_iconst (v := nI 3) dM_anchor_144 (by decide) ?_
          refine s_icmp_ne dM_anchor_145 (fun q => absurd rfl q) (fun _ => ?_)
          refine s_iconst (v := nI 2) dM_anchor_148 (by decide) ?_
          refine s_aload_n dM_anchor_149 rfl rfl ?_
          refine s_mga dM_anchor_150 gf_M_101 rfl ?_
          refine s_iload dM_anchor_153 rfl ?_
          refine s_mald dM_anchor_155 rfl rfl (show _ < 16 by omega) rfl ?_
          refine s_top ey ?_
          first | refine s_imulN dM_anchor_156 ?_ | refine s_imul dM_anchor_156 ?_
          refine s_aload_n dM_anchor_157 rfl rfl ?_
          refine s_mga dM_anchor_158 gf_M_98 rfl ?_
          refine s_iload dM_anchor_161 rfl ?_
          refine s_mald dM_anchor_163 rfl rfl (show _ < 16 by omega) rfl ?_
          refine s_top ec ?_
          first | refine s_iaddN dM_anchor_164 ?_ | refine s_iadd dM_anchor_164 ?_
          refine s_iconst (v := nI 2) dM_anchor_165 (by decide) ?_
          first | refine s_isubN dM_anchor_166 (by omega) ?_ | refine s_isub dM_anchor_166 ?_
          refine s_istore dM_anchor_167 rfl ?_
          refine s_goto dM_anchor_169 ?_
          rw [show 2 * y + 3 - 2 = 2 * y + 1 by omega]
          exact ih1 (2 * y + 1) w1 (by omega) (fun z2 => q1 (by simp [chn, z1, z2])) (fun z2 => q2 (by simp [chn, c1, z1, z2]))
        · have z1 : evO (σ 44 e) (σ 45 e) = none := by
            rw [ec]
            unfold evO
            rw [if_neg (nI_ne d2 (by omega) (by omega)), if_neg (nI_ne d3 (by omega) (by omega))]
          refine s_iload dM_anchor_119 rfl ?_
          refine s_iload dM_anchor_121 rfl ?_
          refine s_icmp_eq dM_anchor_123 (fun q => absurd q (nI_ne c1 (by omega) (by omega))) (fun _ => ?_)
          refine s_aload_n dM_anchor_126 rfl rfl ?_
          refine s_mga dM_anchor_127 gf_M_98 rfl ?_
          refine s_iload dM_anchor_130 rfl ?_
          refine s_mald dM_anchor_132 rfl rfl (show _ < 16 by omega) rfl ?_
          refine s_top ec ?_
          refine s_iconst (v := nI 2) dM_anchor_133 (by decide) ?_
          refine s_icmp_eq dM_anchor_134 (fun q => absurd q (nI_ne d2 (by omega) (by omega))) (fun _ => ?_)
          refine s_aload_n dM_anchor_137 rfl rfl ?_
          refine s_mga dM_anchor_138 gf_M_98 rfl ?_
          refine s_iload dM_anchor_141 rfl ?_
          refine s_mald dM_anchor_143 rfl rfl (show _ < 16 by omega) rfl ?_
          refine s_top ec ?_
          refine s_iconst (v := nI 3) dM_anchor_144 (by decide) ?_
          refine s_icmp_ne dM_anchor_145 (fun _ => ?_) (fun q => absurd q (nI_ne d3 (by omega) (by omega)))
          exact no z1

theorem c_M_anchor {σ : Sg} {h : Hp} {NS N : Nat} (s d c x : Int32) (P : AP σ (2 * NS) NS) (C1 : CH σ (2 * NS)) (hNS : σ 40 0 = nI NS) (hN : σ 2 0 = nI N) (hN20 : N ≤ 20) : ConF mM_anchor 2 [vR (100, 0, 0), vI s, vI d, vI c, vI x] (hM σ h) (some (vI (fAnchor σ s d c x NS N).1)) (hM (fAnchor σ s d c x NS N).2 h) := by
  have hNS8 := P.1
  unfold fAnchor
  refine c_enter (by decide +kernel) rfl rfl ?_
  rcases iz_cases s (K := NS) (by omega) with ⟨e1, hz⟩ | ⟨i, hi1, rfl, e1⟩
  · rw [e1]
    refine s_iload_n dM_anchor_0 rfl rfl ?_
    refine s_iconst (v := 0) dM_anchor_1 (by decide) ?_
    refine s_aload_n dM_anchor_2 rfl rfl ?_
    refine s_mgi dM_anchor_3 gf_M_144 rfl ?_
    refine s_top hNS ?_
    refine s_iconst (v := nI 1) dM_anchor_6 (by decide) ?_
    first | refine s_isubN dM_anchor_7 (by omega) ?_ | refine s_isub dM_anchor_7 ?_
    refine s_t3 dM_anchor_8 cs_M_117 (c_inZ (by omega) hz) rfl rfl rfl rfl ?_
    refine s_if_eq dM_anchor_11 (fun _ => ?_) (fun q => absurd rfl q)
    refine s_iconst (v := (-1)) dM_anchor_32 (by decide) ?_
    refine s_iret dM_anchor_33 rfl (by first | exact Nat.le_refl _ | decide | omega) (by first | exact Nat.le_refl _ | decide | omega) ?_
    exact ⟨rfl, rfl⟩
  rcases iz_cases d (K := 2) (by omega) with ⟨e2, hz⟩ | ⟨j, hj1, rfl, e2⟩
  · rw [e1, e2]
    refine s_iload_n dM_anchor_0 rfl rfl ?_
    refine s_iconst (v := 0) dM_anchor_1 (by decide) ?_
    refine s_aload_n dM_anchor_2 rfl rfl ?_
    refine s_mgi dM_anchor_3 gf_M_144 rfl ?_
    refine s_top hNS ?_
    refine s_iconst (v := nI 1) dM_anchor_6 (by decide) ?_
    first | refine s_isubN dM_anchor_7 (by omega) ?_ | refine s_isub dM_anchor_7 ?_
    refine s_t3 dM_anchor_8 cs_M_117 (c_inZ (by omega) (Iz1 hi1)) rfl rfl rfl rfl ?_
    refine s_if_eq dM_anchor_11 (fun q => absurd q (by decide)) (fun _ => ?_)
    refine s_iload_n dM_anchor_14 rfl rfl ?_
    refine s_iconst (v := 0) dM_anchor_15 (by decide) ?_
    refine s_iconst (v := 1) dM_anchor_16 (by decide) ?_
    refine s_t3 dM_anchor_17 cs_M_117 (c_inZ (K := 2) (by omega) hz) rfl rfl rfl rfl ?_
    refine s_if_eq dM_anchor_20 (fun _ => ?_) (fun q => absurd rfl q)
    refine s_iconst (v := (-1)) dM_anchor_32 (by decide) ?_
    refine s_iret dM_anchor_33 rfl (by first | exact Nat.le_refl _ | decide | omega) (by first | exact Nat.le_refl _ | decide | omega) ?_
    exact ⟨rfl, rfl⟩
  rcases iz_cases c (K := 5) (by omega) with ⟨e3, hz⟩ | ⟨k, hk1, rfl, e3⟩
  · rw [e1, e2, e3]
    refine s_iload_n dM_anchor_0 rfl rfl ?_
    refine s_iconst (v := 0) dM_anchor_1 (by decide) ?_
    refine s_aload_n dM_anchor_2 rfl rfl ?_
    refine s_mgi dM_anchor_3 gf_M_144 rfl ?_
    refine s_top hNS ?_
    refine s_iconst (v := nI 1) dM_anchor_6 (by decide) ?_
    first | refine s_isubN dM_anchor_7 (by omega) ?_ | refine s_isub dM_anchor_7 ?_
    refine s_t3 dM_anchor_8 cs_M_117 (c_inZ (by omega) (Iz1 hi1)) rfl rfl rfl rfl ?_
    refine s_if_eq dM_anchor_11 (fun q => absurd q (by decide)) (fun _ => ?_)
    refine s_iload_n dM_anchor_14 rfl rfl ?_
    refine s_iconst (v := 0) dM_anchor_15 (by decide) ?_
    refine s_iconst (v := 1) dM_anchor_16 (by decide) ?_
    refine s_t3 dM_anchor_17 cs_M_117 (c_inZ (K := 2) (by omega) (Iz1 hj1)) rfl rfl rfl rfl ?_
    refine s_if_eq dM_anchor_20 (fun q => absurd q (by decide)) (fun _ => ?_)
    refine s_iload_n dM_anchor_23 rfl rfl ?_
    refine s_iconst (v := 0) dM_anchor_24 (by decide) ?_
    refine s_iconst (v := nI 4) dM_anchor_25 (by decide) ?_
    refine s_t3 dM_anchor_26 cs_M_117 (c_inZ (K := 5) (by omega) hz) rfl rfl rfl rfl ?_
    refine s_if_ne dM_anchor_29 (fun q => absurd rfl q) (fun _ => ?_)
    refine s_iconst (v := (-1)) dM_anchor_32 (by decide) ?_
    refine s_iret dM_anchor_33 rfl (by first | exact Nat.le_refl _ | decide | omega) (by first | exact Nat.le_refl _ | decide | omega) ?_
    exact ⟨rfl, rfl⟩
  rw [e1, e2, e3]
  dsimp only
  generalize hQ : (fun (v' : Option PV) (h' : Hp) => v' = some (vI (if ancOk k x NS N = true then if ring σ (2 * i + j) k x = true then ((-2 : Int32), σ) else (0, us (us σ 44 (2 * i + j) (nI k)) 45 (2 * i + j) x) else (-1, σ)).1) ∧ h' = hM (if ancOk k x NS N = true then if ring σ (2 * i + j) k x = true then ((-2 : Int32), σ) else (0, us (us σ 44 (2 * i + j) (nI k)) 45 (2 * i + j) x) else (-1, σ)).2 h) = Q
  have bad : ancOk k x NS N = false → Q (some (vI (-1))) (hM σ h) := fun z1 => by rw [← hQ, if_neg (by rw [z1]; decide)]; exact ⟨rfl, rfl⟩
  have put1 : ancOk k x NS N = true → ring σ (2 * i + j) k x = false → ∀ o6, S mM_anchor 2 0 0 Q 182 [some (vR (100, 0, 0)), some (vI (nI i)), some (vI (nI j)), some (vI (nI k)), some (vI x), some (vI (nI (2 * i + j))), o6] [] (hM σ h) 0 0 := by
    intro z1 z2 o6
    refine s_aload_n dM_anchor_182 rfl rfl ?_
    refine s_mga dM_anchor_183 gf_M_98 rfl ?_
    refine s_iload dM_anchor_186 rfl ?_
    refine s_iload_n dM_anchor_188 rfl rfl ?_
    refine s_mast dM_anchor_189 rfl rfl (show _ < 16 by omega) rfl ?_
    refine s_aload_n dM_anchor_190 rfl rfl ?_
    refine s_mga dM_anchor_191 gf_M_101 rfl ?_
    refine s_iload dM_anchor_194 rfl ?_
    refine s_iload dM_anchor_196 rfl ?_
    refine s_mast dM_anchor_198 rfl rfl (show _ < 16 by omega) rfl ?_
    refine s_iconst (v := 0) dM_anchor_199 (by decide) ?_
    refine s_iret dM_anchor_200 rfl (by first | exact Nat.le_refl _ | decide | omega) (by first | exact Nat.le_refl _ | decide | omega) ?_
    rw [← hQ, if_pos z1, if_neg (by rw [z2]; decide)]
    exact ⟨rfl, rfl⟩
  have no1 : ancOk k x NS N = true → ring σ (2 * i + j) k x = true → Q (some (vI (-2))) (hM σ h) := fun z1 z2 => by rw [← hQ, if_pos z1, if_pos z2]; exact ⟨rfl, rfl⟩
  obtain ⟨μ, m2, m1⟩ := C1
  have A1 : ∀ e, e < 2 * NS → ancOk k x NS N = true → ring σ (2 * i + j) k x = chn σ (2 * i + j) 16 e → S mM_anchor 2 0 0 Q 119 [some (vR (100, 0, 0)), some (vI (nI i)), some (vI (nI j)), some (vI (nI k)), some (vI x), some (vI (nI (2 * i + j))), some (vI (nI e))] [] (hM σ h) 0 0 := by
    intro e he1 z1 z2
    exact l_M_anchor P rfl (by omega) m2 m1 16 e he1 (m2 e he1) (fun z3 => no1 z1 (z2.trans z3)) (fun z3 => put1 z1 (z2.trans z3))
  match k, hk1 with
  | 0, _ =>
    refine s_iload_n dM_anchor_0 rfl rfl ?_
    refine s_iconst (v := 0) dM_anchor_1 (by decide) ?_
    refine s_aload_n dM_anchor_2 rfl rfl ?_
    refine s_mgi dM_anchor_3 gf_M_144 rfl ?_
    refine s_top hNS ?_
    refine s_iconst (v := nI 1) dM_anchor_6 (by decide) ?_
    first | refine s_isubN dM_anchor_7 (by omega) ?_ | refine s_isub dM_anchor_7 ?_
    refine s_t3 dM_anchor_8 cs_M_117 (c_inZ (by omega) (Iz1 hi1)) rfl rfl rfl rfl ?_
    refine s_if_eq dM_anchor_11 (fun q => absurd q (by decide)) (fun _ => ?_)
    refine s_iload_n dM_anchor_14 rfl rfl ?_
    refine s_iconst (v := 0) dM_anchor_15 (by decide) ?_
    refine s_iconst (v := 1) dM_anchor_16 (by decide) ?_
    refine s_t3 dM_anchor_17 cs_M_117 (c_inZ (K := 2) (by omega) (Iz1 hj1)) rfl rfl rfl rfl ?_
    refine s_if_eq dM_anchor_20 (fun q => absurd q (by decide)) (fun _ => ?_)
    refine s_iload_n dM_anchor_23 rfl rfl ?_
    refine s_iconst (v := 0) dM_anchor_24 (by decide) ?_
    refine s_iconst (v := nI 4) dM_anchor_25 (by decide) ?_
    refine s_t3 dM_anchor_26 cs_M_117 (c_inZ (K := 5) (by omega) (Iz1 (by omega))) rfl rfl rfl rfl ?_
    refine s_if_ne dM_anchor_29 (fun _ => ?_) (fun q => absurd q (by decide))
    refine s_iload_n dM_anchor_34 rfl rfl ?_
    refine s_iconst (v := 1) dM_anchor_35 (by decide) ?_
    refine s_icmp_ne dM_anchor_36 (fun _ => ?_) (fun q => absurd q (by decide))
    refine s_iload_n dM_anchor_44 rfl rfl ?_
    refine s_iconst (v := nI 2) dM_anchor_45 (by decide) ?_
    refine s_icmp_eq dM_anchor_46 (fun q => absurd q (by decide)) (fun _ => ?_)
    refine s_iload_n dM_anchor_49 rfl rfl ?_
    refine s_iconst (v := nI 3) dM_anchor_50 (by decide) ?_
    refine s_icmp_ne dM_anchor_51 (fun _ => ?_) (fun q => absurd q (by decide))
    refine s_iload_n dM_anchor_69 rfl rfl ?_
    refine s_iconst (v := nI 4) dM_anchor_70 (by decide) ?_
    refine s_icmp_ne dM_anchor_71 (fun _ => ?_) (fun q => absurd q (by decide))
    refine s_iconst (v := nI 2) dM_anchor_92 (by decide) ?_
    refine s_iload_n dM_anchor_93 rfl rfl ?_
    first | refine s_imulN dM_anchor_94 ?_ | refine s_imul dM_anchor_94 ?_
    refine s_iload_n dM_anchor_95 rfl rfl ?_
    first | refine s_iaddN dM_anchor_96 ?_ | refine s_iadd dM_anchor_96 ?_
    refine s_istore dM_anchor_97 rfl ?_
    refine s_iload_n dM_anchor_99 rfl rfl ?_
    refine s_iconst (v := nI 2) dM_anchor_100 (by decide) ?_
    refine s_icmp_eq dM_anchor_101 (fun q => absurd q (by decide)) (fun _ => ?_)
    refine s_iload_n dM_anchor_104 rfl rfl ?_
    refine s_iconst (v := nI 3) dM_anchor_105 (by decide) ?_
    refine s_icmp_ne dM_anchor_106 (fun _ => ?_) (fun q => absurd q (by decide))
    exact put1 rfl (ring_no (by decide) (by decide)) _
  | 1, _ =>
    by_cases c1 : x < 0
    · refine s_iload_n dM_anchor_0 rfl rfl ?_
      refine s_iconst (v := 0) dM_anchor_1 (by decide) ?_
      refine s_aload_n dM_anchor_2 rfl rfl ?_
      refine s_mgi dM_anchor_3 gf_M_144 rfl ?_
      refine s_top hNS ?_
      refine s_iconst (v := nI 1) dM_anchor_6 (by decide) ?_
      first | refine s_isubN dM_anchor_7 (by omega) ?_ | refine s_isub dM_anchor_7 ?_
      refine s_t3 dM_anchor_8 cs_M_117 (c_inZ (by omega) (Iz1 hi1)) rfl rfl rfl rfl ?_
      refine s_if_eq dM_anchor_11 (fun q => absurd q (by decide)) (fun _ => ?_)
      refine s_iload_n dM_anchor_14 rfl rfl ?_
      refine s_iconst (v := 0) dM_anchor_15 (by decide) ?_
      refine s_iconst (v := 1) dM_anchor_16 (by decide) ?_
      refine s_t3 dM_anchor_17 cs_M_117 (c_inZ (K := 2) (by omega) (Iz1 hj1)) rfl rfl rfl rfl ?_
      refine s_if_eq dM_anchor_20 (fun q => absurd q (by decide)) (fun _ => ?_)
      refine s_iload_n dM_anchor_23 rfl rfl ?_
      refine s_iconst (v := 0) dM_anchor_24 (by decide) ?_
      refine s_iconst (v := nI 4) dM_anchor_25 (by decide) ?_
      refine s_t3 dM_anchor_26 cs_M_117 (c_inZ (K := 5) (by omega) (Iz1 (by omega))) rfl rfl rfl rfl ?_
      refine s_if_ne dM_anchor_29 (fun _ => ?_) (fun q => absurd q (by decide))
      refine s_iload_n dM_anchor_34 rfl rfl ?_
      refine s_iconst (v := 1) dM_anchor_35 (by decide) ?_
      refine s_icmp_ne dM_anchor_36 (fun q => absurd rfl q) (fun _ => ?_)
      refine s_iload dM_anchor_39 rfl ?_
      refine s_if_lt dM_anchor_41 (fun _ => ?_) (fun q => absurd c1 q)
      refine s_iconst (v := (-1)) dM_anchor_90 (by decide) ?_
      refine s_iret dM_anchor_91 rfl (by first | exact Nat.le_refl _ | decide | omega) (by first | exact Nat.le_refl _ | decide | omega) ?_
      exact bad (by simp [ancOk, Int32.not_le.mpr c1])
    · refine s_iload_n dM_anchor_0 rfl rfl ?_
      refine s_iconst (v := 0) dM_anchor_1 (by decide) ?_
      refine s_aload_n dM_anchor_2 rfl rfl ?_
      refine s_mgi dM_anchor_3 gf_M_144 rfl ?_
      refine s_top hNS ?_
      refine s_iconst (v := nI 1) dM_anchor_6 (by decide) ?_
      first | refine s_isubN dM_anchor_7 (by omega) ?_ | refine s_isub dM_anchor_7 ?_
      refine s_t3 dM_anchor_8 cs_M_117 (c_inZ (by omega) (Iz1 hi1)) rfl rfl rfl rfl ?_
      refine s_if_eq dM_anchor_11 (fun q => absurd q (by decide)) (fun _ => ?_)
      refine s_iload_n dM_anchor_14 rfl rfl ?_
      refine s_iconst (v := 0) dM_anchor_15 (by decide) ?_
      refine s_iconst (v := 1) dM_anchor_16 (by decide) ?_
      refine s_t3 dM_anchor_17 cs_M_117 (c_inZ (K := 2) (by omega) (Iz1 hj1)) rfl rfl rfl rfl ?_
      refine s_if_eq dM_anchor_20 (fun q => absurd q (by decide)) (fun _ => ?_)
      refine s_iload_n dM_anchor_23 rfl rfl ?_
      refine s_iconst (v := 0) dM_anchor_24 (by decide) ?_
      refine s_iconst (v := nI 4) dM_anchor_25 (by decide) ?_
      refine s_t3 dM_anchor_26 cs_M_117 (c_inZ (K := 5) (by omega) (Iz1 (by omega))) rfl rfl rfl rfl ?_
      refine s_if_ne dM_anchor_29 (fun _ => ?_) (fun q => absurd q (by decide))
      refine s_iload_n dM_anchor_34 rfl rfl ?_
      refine s_iconst (v := 1) dM_anchor_35 (by decide) ?_
      refine s_icmp_ne dM_anchor_36 (fun q => absurd rfl q) (fun _ => ?_)
      refine s_iload dM_anchor_39 rfl ?_
      refine s_if_lt dM_anchor_41 (fun q => absurd q c1) (fun _ => ?_)
      refine s_iload_n dM_anchor_44 rfl rfl ?_
      refine s_iconst (v := nI 2) dM_anchor_45 (by decide) ?_
      refine s_icmp_eq dM_anchor_46 (fun q => absurd q (by decide)) (fun _ => ?_)
      refine s_iload_n dM_anchor_49 rfl rfl ?_
      refine s_iconst (v := nI 3) dM_anchor_50 (by decide) ?_
      refine s_icmp_ne dM_anchor_51 (fun _ => ?_) (fun q => absurd q (by decide))
      refine s_iload_n dM_anchor_69 rfl rfl ?_
      refine s_iconst (v := nI 4) dM_anchor_70 (by decide) ?_
      refine s_icmp_ne dM_anchor_71 (fun _ => ?_) (fun q => absurd q (by decide))
      refine s_iconst (v := nI 2) dM_anchor_92 (by decide) ?_
      refine s_iload_n dM_anchor_93 rfl rfl ?_
      first | refine s_imulN dM_anchor_94 ?_ | refine s_imul dM_anchor_94 ?_
      refine s_iload_n dM_anchor_95 rfl rfl ?_
      first | refine s_iaddN dM_anchor_96 ?_ | refine s_iadd dM_anchor_96 ?_
      refine s_istore dM_anchor_97 rfl ?_
      refine s_iload_n dM_anchor_99 rfl rfl ?_
      refine s_iconst (v := nI 2) dM_anchor_100 (by decide) ?_
      refine s_icmp_eq dM_anchor_101 (fun q => absurd q (by decide)) (fun _ => ?_)
      refine s_iload_n dM_anchor_104 rfl rfl ?_
      refine s_iconst (v := nI 3) dM_anchor_105 (by decide) ?_
      refine s_icmp_ne dM_anchor_106 (fun _ => ?_) (fun q => absurd q (by decide))
      exact put1 (by simp [ancOk, Int32.not_lt.mp c1]) (ring_no (by decide) (by decide)) _
  | 2, _ =>
    rcases iz_cases x (K := NS) (by omega) with ⟨e4, hz⟩ | ⟨y, hy1, rfl, e4⟩
    · refine s_iload_n dM_anchor_0 rfl rfl ?_
      refine s_iconst (v := 0) dM_anchor_1 (by decide) ?_
      refine s_aload_n dM_anchor_2 rfl rfl ?_
      refine s_mgi dM_anchor_3 gf_M_144 rfl ?_
      refine s_top hNS ?_
      refine s_iconst (v := nI 1) dM_anchor_6 (by decide) ?_
      first | refine s_isubN dM_anchor_7 (by omega) ?_ | refine s_isub dM_anchor_7 ?_
      refine s_t3 dM_anchor_8 cs_M_117 (c_inZ (by omega) (Iz1 hi1)) rfl rfl rfl rfl ?_
      refine s_if_eq dM_anchor_11 (fun q => absurd q (by decide)) (fun _ => ?_)
      refine s_iload_n dM_anchor_14 rfl rfl ?_
      refine s_iconst (v := 0) dM_anchor_15 (by decide) ?_
      refine s_iconst (v := 1) dM_anchor_16 (by decide) ?_
      refine s_t3 dM_anchor_17 cs_M_117 (c_inZ (K := 2) (by omega) (Iz1 hj1)) rfl rfl rfl rfl ?_
      refine s_if_eq dM_anchor_20 (fun q => absurd q (by decide)) (fun _ => ?_)
      refine s_iload_n dM_anchor_23 rfl rfl ?_
      refine s_iconst (v := 0) dM_anchor_24 (by decide) ?_
      refine s_iconst (v := nI 4) dM_anchor_25 (by decide) ?_
      refine s_t3 dM_anchor_26 cs_M_117 (c_inZ (K := 5) (by omega) (Iz1 (by omega))) rfl rfl rfl rfl ?_
      refine s_if_ne dM_anchor_29 (fun _ => ?_) (fun q => absurd q (by decide))
      refine s_iload_n dM_anchor_34 rfl rfl ?_
      refine s_iconst (v := 1) dM_anchor_35 (by decide) ?_
      refine s_icmp_ne dM_anchor_36 (fun _ => ?_) (fun q => absurd q (by decide))
      refine s_iload_n dM_anchor_44 rfl rfl ?_
      refine s_iconst (v := nI 2) dM_anchor_45 (by decide) ?_
      refine s_icmp_eq dM_anchor_46 (fun _ => ?_) (fun q => absurd rfl q)
      refine s_iload dM_anchor_54 rfl ?_
      refine s_iconst (v := 0) dM_anchor_56 (by decide) ?_
      refine s_aload_n dM_anchor_57 rfl rfl ?_
      refine s_mgi dM_anchor_58 gf_M_144 rfl ?_
      refine s_top hNS ?_
      refine s_iconst (v := nI 1) dM_anchor_61 (by decide) ?_
      first | refine s_isubN dM_anchor_62 (by omega) ?_ | refine s_isub dM_anchor_62 ?_
      refine s_t3 dM_anchor_63 cs_M_117 (c_inZ (by omega) hz) rfl rfl rfl rfl ?_
      refine s_if_eq dM_anchor_66 (fun _ => ?_) (fun q => absurd rfl q)
      refine s_iconst (v := (-1)) dM_anchor_90 (by decide) ?_
      refine s_iret dM_anchor_91 rfl (by first | exact Nat.le_refl _ | decide | omega) (by first | exact Nat.le_refl _ | decide | omega) ?_
      exact bad (by simp [ancOk, e4])
    · refine s_iload_n dM_anchor_0 rfl rfl ?_
      refine s_iconst (v := 0) dM_anchor_1 (by decide) ?_
      refine s_aload_n dM_anchor_2 rfl rfl ?_
      refine s_mgi dM_anchor_3 gf_M_144 rfl ?_
      refine s_top hNS ?_
      refine s_iconst (v := nI 1) dM_anchor_6 (by decide) ?_
      first | refine s_isubN dM_anchor_7 (by omega) ?_ | refine s_isub dM_anchor_7 ?_
      refine s_t3 dM_anchor_8 cs_M_117 (c_inZ (by omega) (Iz1 hi1)) rfl rfl rfl rfl ?_
      refine s_if_eq dM_anchor_11 (fun q => absurd q (by decide)) (fun _ => ?_)
      refine s_iload_n dM_anchor_14 rfl rfl ?_
      refine s_iconst (v := 0) dM_anchor_15 (by decide) ?_
      refine s_iconst (v := 1) dM_anchor_16 (by decide) ?_
      refine s_t3 dM_anchor_17 cs_M_117 (c_inZ (K := 2) (by omega) (Iz1 hj1)) rfl rfl rfl rfl ?_
      refine s_if_eq dM_anchor_20 (fun q => absurd q (by decide)) (fun _ => ?_)
      refine s_iload_n dM_anchor_23 rfl rfl ?_
      refine s_iconst (v := 0) dM_anchor_24 (by decide) ?_
      refine s_iconst (v := nI 4) dM_anchor_25 (by decide) ?_
      refine s_t3 dM_anchor_26 cs_M_117 (c_inZ (K := 5) (by omega) (Iz1 (by omega))) rfl rfl rfl rfl ?_
      refine s_if_ne dM_anchor_29 (fun _ => ?_) (fun q => absurd q (by decide))
      refine s_iload_n dM_anchor_34 rfl rfl ?_
      refine s_iconst (v := 1) dM_anchor_35 (by decide) ?_
      refine s_icmp_ne dM_anchor_36 (fun _ => ?_) (fun q => absurd q (by decide))
      refine s_iload_n dM_anchor_44 rfl rfl ?_
      refine s_iconst (v := nI 2) dM_anchor_45 (by decide) ?_
      refine s_icmp_eq dM_anchor_46 (fun _ => ?_) (fun q => absurd rfl q)
      refine s_iload dM_anchor_54 rfl ?_
      refine s_iconst (v := 0) dM_anchor_56 (by decide) ?_
      refine s_aload_n dM_anchor_57 rfl rfl ?_
      refine s_mgi dM_anchor_58 gf_M_144 rfl ?_
      refine s_top hNS ?_
      refine s_iconst (v := nI 1) dM_anchor_61 (by decide) ?_
      first | refine s_isubN dM_anchor_62 (by omega) ?_ | refine s_isub dM_anchor_62 ?_
      refine s_t3 dM_anchor_63 cs_M_117 (c_inZ (by omega) (Iz1 hy1)) rfl rfl rfl rfl ?_
      refine s_if_eq dM_anchor_66 (fun q => absurd q (by decide)) (fun _ => ?_)
      refine s_iload_n dM_anchor_69 rfl rfl ?_
      refine s_iconst (v := nI 4) dM_anchor_70 (by decide) ?_
      refine s_icmp_ne dM_anchor_71 (fun _ => ?_) (fun q => absurd q (by decide))
      refine s_iconst (v := nI 2) dM_anchor_92 (by decide) ?_
      refine s_iload_n dM_anchor_93 rfl rfl ?_
      first | refine s_imulN dM_anchor_94 ?_ | refine s_imul dM_anchor_94 ?_
      refine s_iload_n dM_anchor_95 rfl rfl ?_
      first | refine s_iaddN dM_anchor_96 ?_ | refine s_iadd dM_anchor_96 ?_
      refine s_istore dM_anchor_97 rfl ?_
      refine s_iload_n dM_anchor_99 rfl rfl ?_
      refine s_iconst (v := nI 2) dM_anchor_100 (by decide) ?_
      refine s_icmp_eq dM_anchor_101 (fun _ => ?_) (fun q => absurd rfl q)
      refine s_iconst (v := nI 2) dM_anchor_109 (by decide) ?_
      refine s_iload dM_anchor_110 rfl ?_
      first | refine s_imulN dM_anchor_112 ?_ | refine s_imul dM_anchor_112 ?_
      refine s_iload_n dM_anchor_113 rfl rfl ?_
      first | refine s_iaddN dM_anchor_114 ?_ | refine s_iadd dM_anchor_114 ?_
      refine s_iconst (v := nI 2) dM_anchor_115 (by decide) ?_
      first | refine s_isubN dM_anchor_116 (by omega) ?_ | refine s_isub dM_anchor_116 ?_
      refine s_istore dM_anchor_117 rfl ?_
      rw [show 2 * y + 2 - 2 = 2 * y by omega]
      exact A1 (2 * y) (by omega) (by simp [ancOk, e4]) (by simp [ring, evO, nt_nI (a := y) (by omega)])
  | 3, _ =>
    rcases iz_cases x (K := NS) (by omega) with ⟨e4, hz⟩ | ⟨y, hy1, rfl, e4⟩
    · refine s_iload_n dM_anchor_0 rfl rfl ?_
      refine s_iconst (v := 0) dM_anchor_1 (by decide) ?_
      refine s_aload_n dM_anchor_2 rfl rfl ?_
      refine s_mgi dM_anchor_3 gf_M_144 rfl ?_
      refine s_top hNS ?_
      refine s_iconst (v := nI 1) dM_anchor_6 (by decide) ?_
      first | refine s_isubN dM_anchor_7 (by omega) ?_ | refine s_isub dM_anchor_7 ?_
      refine s_t3 dM_anchor_8 cs_M_117 (c_inZ (by omega) (Iz1 hi1)) rfl rfl rfl rfl ?_
      refine s_if_eq dM_anchor_11 (fun q => absurd q (by decide)) (fun _ => ?_)
      refine s_iload_n dM_anchor_14 rfl rfl ?_
      refine s_iconst (v := 0) dM_anchor_15 (by decide) ?_
      refine s_iconst (v := 1) dM_anchor_16 (by decide) ?_
      refine s_t3 dM_anchor_17 cs_M_117 (c_inZ (K := 2) (by omega) (Iz1 hj1)) rfl rfl rfl rfl ?_
      refine s_if_eq dM_anchor_20 (fun q => absurd q (by decide)) (fun _ => ?_)
      refine s_iload_n dM_anchor_23 rfl rfl ?_
      refine s_iconst (v := 0) dM_anchor_24 (by decide) ?_
      refine s_iconst (v := nI 4) dM_anchor_25 (by decide) ?_
      refine s_t3 dM_anchor_26 cs_M_117 (c_inZ (K := 5) (by omega) (Iz1 (by omega))) rfl rfl rfl rfl ?_
      refine s_if_ne dM_anchor_29 (fun _ => ?_) (fun q => absurd q (by decide))
      refine s_iload_n dM_anchor_34 rfl rfl ?_
      refine s_iconst (v := 1) dM_anchor_35 (by decide) ?_
      refine s_icmp_ne dM_anchor_36 (fun _ => ?_) (fun q => absurd q (by decide))
      refine s_iload_n dM_anchor_44 rfl rfl ?_
      refine s_iconst (v := nI 2) dM_anchor_45 (by decide) ?_
      refine s_icmp_eq dM_anchor_46 (fun q => absurd q (by decide)) (fun _ => ?_)
      refine s_iload_n dM_anchor_49 rfl rfl ?_
      refine s_iconst (v := nI 3) dM_anchor_50 (by decide) ?_
      refine s_icmp_ne dM_anchor_51 (fun q => absurd rfl q) (fun _ => ?_)
      refine s_iload dM_anchor_54 rfl ?_
      refine s_iconst (v := 0) dM_anchor_56 (by decide) ?_
      refine s_aload_n dM_anchor_57 rfl rfl ?_
      refine s_mgi dM_anchor_58 gf_M_144 rfl ?_
      refine s_top hNS ?_
      refine s_iconst (v := nI 1) dM_anchor_61 (by decide) ?_
      first | refine s_isubN dM_anchor_62 (by omega) ?_ | refine s_isub dM_anchor_62 ?_
      refine s_t3 dM_anchor_63 cs_M_117 (c_inZ (by omega) hz) rfl rfl rfl rfl ?_
      refine s_if_eq dM_anchor_66 (fun _ => ?_) (fun q => absurd rfl q)
      refine s_iconst (v := (-1)) dM_anchor_90 (by decide) ?_
      refine s_iret dM_anchor_91 rfl (by first | exact Nat.le_refl _ | decide | omega) (by first | exact Nat.le_refl _ | decide | omega) ?_
      exact bad (by simp [ancOk, e4])
    · refine s_iload_n dM_anchor_0 rfl rfl ?_
      refine s_iconst (v := 0) dM_anchor_1 (by decide) ?_
      refine s_aload_n dM_anchor_2 rfl rfl ?_
      refine s_mgi dM_anchor_3 gf_M_144 rfl ?_
      refine s_top hNS ?_
      refine s_iconst (v := nI 1) dM_anchor_6 (by decide) ?_
      first | refine s_isubN dM_anchor_7 (by omega) ?_ | refine s_isub dM_anchor_7 ?_
      refine s_t3 dM_anchor_8 cs_M_117 (c_inZ (by omega) (Iz1 hi1)) rfl rfl rfl rfl ?_
      refine s_if_eq dM_anchor_11 (fun q => absurd q (by decide)) (fun _ => ?_)
      refine s_iload_n dM_anchor_14 rfl rfl ?_
      refine s_iconst (v := 0) dM_anchor_15 (by decide) ?_
      refine s_iconst (v := 1) dM_anchor_16 (by decide) ?_
      refine s_t3 dM_anchor_17 cs_M_117 (c_inZ (K := 2) (by omega) (Iz1 hj1)) rfl rfl rfl rfl ?_
      refine s_if_eq dM_anchor_20 (fun q => absurd q (by decide)) (fun _ => ?_)
      refine s_iload_n dM_anchor_23 rfl rfl ?_
      refine s_iconst (v := 0) dM_anchor_24 (by decide) ?_
      refine s_iconst (v := nI 4) dM_anchor_25 (by decide) ?_
      refine s_t3 dM_anchor_26 cs_M_117 (c_inZ (K := 5) (by omega) (Iz1 (by omega))) rfl rfl rfl rfl ?_
      refine s_if_ne dM_anchor_29 (fun _ => ?_) (fun q => absurd q (by decide))
      refine s_iload_n dM_anchor_34 rfl rfl ?_
      refine s_iconst (v := 1) dM_anchor_35 (by decide) ?_
      refine s_icmp_ne dM_anchor_36 (fun _ => ?_) (fun q => absurd q (by decide))
      refine s_iload_n dM_anchor_44 rfl rfl ?_
      refine s_iconst (v := nI 2) dM_anchor_45 (by decide) ?_
      refine s_icmp_eq dM_anchor_46 (fun q => absurd q (by decide)) (fun _ => ?_)
      refine s_iload_n dM_anchor_49 rfl rfl ?_
      refine s_iconst (v := nI 3) dM_anchor_50 (by decide) ?_
      refine s_icmp_ne dM_anchor_51 (fun q => absurd rfl q) (fun _ => ?_)
      refine s_iload dM_anchor_54 rfl ?_
      refine s_iconst (v := 0) dM_anchor_56 (by decide) ?_
      refine s_aload_n dM_anchor_57 rfl rfl ?_
      refine s_mgi dM_anchor_58 gf_M_144 rfl ?_
      refine s_top hNS ?_
      refine s_iconst (v := nI 1) dM_anchor_61 (by decide) ?_
      first | refine s_isubN dM_anchor_62 (by omega) ?_ | refine s_isub dM_anchor_62 ?_
      refine s_t3 dM_anchor_63 cs_M_117 (c_inZ (by omega) (Iz1 hy1)) rfl rfl rfl rfl ?_
      refine s_if_eq dM_anchor_66 (fun q => absurd q (by decide)) (fun _ => ?_)
      refine s_iload_n dM_anchor_69 rfl rfl ?_
      refine s_iconst (v := nI 4) dM_anchor_70 (by decide) ?_
      refine s_icmp_ne dM_anchor_71 (fun _ => ?_) (fun q => absurd q (by decide))
      refine s_iconst (v := nI 2) dM_anchor_92 (by decide) ?_
      refine s_iload_n dM_anchor_93 rfl rfl ?_
      first | refine s_imulN dM_anchor_94 ?_ | refine s_imul dM_anchor_94 ?_
      refine s_iload_n dM_anchor_95 rfl rfl ?_
      first | refine s_iaddN dM_anchor_96 ?_ | refine s_iadd dM_anchor_96 ?_
      refine s_istore dM_anchor_97 rfl ?_
      refine s_iload_n dM_anchor_99 rfl rfl ?_
      refine s_iconst (v := nI 2) dM_anchor_100 (by decide) ?_
      refine s_icmp_eq dM_anchor_101 (fun q => absurd q (by decide)) (fun _ => ?_)
      refine s_iload_n dM_anchor_104 rfl rfl ?_
      refine s_iconst (v := nI 3) dM_anchor_105 (by decide) ?_
      refine s_icmp_ne dM_anchor_106 (fun q => absurd rfl q) (fun _ => ?_)
      refine s_iconst (v := nI 2) dM_anchor_109 (by decide) ?_
      refine s_iload dM_anchor_110 rfl ?_
      first | refine s_imulN dM_anchor_112 ?_ | refine s_imul dM_anchor_112 ?_
      refine s_iload_n dM_anchor_113 rfl rfl ?_
      first | refine s_iaddN dM_anchor_114 ?_ | refine s_iadd dM_anchor_114 ?_
      refine s_iconst (v := nI 2) dM_anchor_115 (by decide) ?_
      first | refine s_isubN dM_anchor_116 (by omega) ?_ | refine s_isub dM_anchor_116 ?_
      refine s_istore dM_anchor_117 rfl ?_
      rw [show 2 * y + 3 - 2 = 2 * y + 1 by omega]
      exact A1 (2 * y + 1) (by omega) (by simp [ancOk, e4]) (by unfold ring; rw [show evO (nI 3) (nI y) = some (2 * y + 1) by unfold evO; rw [if_neg (by decide), if_pos rfl, nt_nI (by omega)]])
  | 4, _ =>
    by_cases c1 : x < 0
    · refine s_iload_n dM_anchor_0 rfl rfl ?_
      refine s_iconst (v := 0) dM_anchor_1 (by decide) ?_
      refine s_aload_n dM_anchor_2 rfl rfl ?_
      refine s_mgi dM_anchor_3 gf_M_144 rfl ?_
      refine s_top hNS ?_
      refine s_iconst (v := nI 1) dM_anchor_6 (by decide) ?_
      first | refine s_isubN dM_anchor_7 (by omega) ?_ | refine s_isub dM_anchor_7 ?_
      refine s_t3 dM_anchor_8 cs_M_117 (c_inZ (by omega) (Iz1 hi1)) rfl rfl rfl rfl ?_
      refine s_if_eq dM_anchor_11 (fun q => absurd q (by decide)) (fun _ => ?_)
      refine s_iload_n dM_anchor_14 rfl rfl ?_
      refine s_iconst (v := 0) dM_anchor_15 (by decide) ?_
      refine s_iconst (v := 1) dM_anchor_16 (by decide) ?_
      refine s_t3 dM_anchor_17 cs_M_117 (c_inZ (K := 2) (by omega) (Iz1 hj1)) rfl rfl rfl rfl ?_
      refine s_if_eq dM_anchor_20 (fun q => absurd q (by decide)) (fun _ => ?_)
      refine s_iload_n dM_anchor_23 rfl rfl ?_
      refine s_iconst (v := 0) dM_anchor_24 (by decide) ?_
      refine s_iconst (v := nI 4) dM_anchor_25 (by decide) ?_
      refine s_t3 dM_anchor_26 cs_M_117 (c_inZ (K := 5) (by omega) (Iz1 (by omega))) rfl rfl rfl rfl ?_
      refine s_if_ne dM_anchor_29 (fun _ => ?_) (fun q => absurd q (by decide))
      refine s_iload_n dM_anchor_34 rfl rfl ?_
      refine s_iconst (v := 1) dM_anchor_35 (by decide) ?_
      refine s_icmp_ne dM_anchor_36 (fun _ => ?_) (fun q => absurd q (by decide))
      refine s_iload_n dM_anchor_44 rfl rfl ?_
      refine s_iconst (v := nI 2) dM_anchor_45 (by decide) ?_
      refine s_icmp_eq dM_anchor_46 (fun q => absurd q (by decide)) (fun _ => ?_)
      refine s_iload_n dM_anchor_49 rfl rfl ?_
      refine s_iconst (v := nI 3) dM_anchor_50 (by decide) ?_
      refine s_icmp_ne dM_anchor_51 (fun _ => ?_) (fun q => absurd q (by decide))
      refine s_iload_n dM_anchor_69 rfl rfl ?_
      refine s_iconst (v := nI 4) dM_anchor_70 (by decide) ?_
      refine s_icmp_ne dM_anchor_71 (fun q => absurd rfl q) (fun _ => ?_)
      refine s_iload dM_anchor_74 rfl ?_
      refine s_if_lt dM_anchor_76 (fun _ => ?_) (fun q => absurd c1 q)
      refine s_iconst (v := (-1)) dM_anchor_90 (by decide) ?_
      refine s_iret dM_anchor_91 rfl (by first | exact Nat.le_refl _ | decide | omega) (by first | exact Nat.le_refl _ | decide | omega) ?_
      exact bad (by simp [ancOk, Int32.not_le.mpr c1])
    · rcases iz_cases (x / nI 4) (K := N) (by omega) with ⟨e4, hz⟩ | ⟨y, hy1, ey, e4⟩
      · refine s_iload_n dM_anchor_0 rfl rfl ?_
        refine s_iconst (v := 0) dM_anchor_1 (by decide) ?_
        refine s_aload_n dM_anchor_2 rfl rfl ?_
        refine s_mgi dM_anchor_3 gf_M_144 rfl ?_
        refine s_top hNS ?_
        refine s_iconst (v := nI 1) dM_anchor_6 (by decide) ?_
        first | refine s_isubN dM_anchor_7 (by omega) ?_ | refine s_isub dM_anchor_7 ?_
        refine s_t3 dM_anchor_8 cs_M_117 (c_inZ (by omega) (Iz1 hi1)) rfl rfl rfl rfl ?_
        refine s_if_eq dM_anchor_11 (fun q => absurd q (by decide)) (fun _ => ?_)
        refine s_iload_n dM_anchor_14 rfl rfl ?_
        refine s_iconst (v := 0) dM_anchor_15 (by decide) ?_
        refine s_iconst (v := 1) dM_anchor_16 (by decide) ?_
        refine s_t3 dM_anchor_17 cs_M_117 (c_inZ (K := 2) (by omega) (Iz1 hj1)) rfl rfl rfl rfl ?_
        refine s_if_eq dM_anchor_20 (fun q => absurd q (by decide)) (fun _ => ?_)
        refine s_iload_n dM_anchor_23 rfl rfl ?_
        refine s_iconst (v := 0) dM_anchor_24 (by decide) ?_
        refine s_iconst (v := nI 4) dM_anchor_25 (by decide) ?_
        refine s_t3 dM_anchor_26 cs_M_117 (c_inZ (K := 5) (by omega) (Iz1 (by omega))) rfl rfl rfl rfl ?_
        refine s_if_ne dM_anchor_29 (fun _ => ?_) (fun q => absurd q (by decide))
        refine s_iload_n dM_anchor_34 rfl rfl ?_
        refine s_iconst (v := 1) dM_anchor_35 (by decide) ?_
        refine s_icmp_ne dM_anchor_36 (fun _ => ?_) (fun q => absurd q (by decide))
        refine s_iload_n dM_anchor_44 rfl rfl ?_
        refine s_iconst (v := nI 2) dM_anchor_45 (by decide) ?_
        refine s_icmp_eq dM_anchor_46 (fun q => absurd q (by decide)) (fun _ => ?_)
        refine s_iload_n dM_anchor_49 rfl rfl ?_
        refine s_iconst (v := nI 3) dM_anchor_50 (by decide) ?_
        refine s_icmp_ne dM_anchor_51 (fun _ => ?_) (fun q => absurd q (by decide))
        refine s_iload_n dM_anchor_69 rfl rfl ?_
        refine s_iconst (v := nI 4) dM_anchor_70 (by decide) ?_
        refine s_icmp_ne dM_anchor_71 (fun q => absurd rfl q) (fun _ => ?_)
        refine s_iload dM_anchor_74 rfl ?_
        refine s_if_lt dM_anchor_76 (fun q => absurd q c1) (fun _ => ?_)
        refine s_aload_n dM_anchor_79 rfl rfl ?_
        refine s_iload dM_anchor_80 rfl ?_
        refine s_iconst (v := nI 4) dM_anchor_82 (by decide) ?_
        refine s_idiv dM_anchor_83 (by decide) ?_
        refine s_v1 dM_anchor_84 cv_M_128 hM_o (c_M_isSubject hN (by omega) hz) rfl rfl rfl rfl ?_
        refine s_if_ne dM_anchor_87 (fun q => absurd rfl q) (fun _ => ?_)
        refine s_iconst (v := (-1)) dM_anchor_90 (by decide) ?_
        refine s_iret dM_anchor_91 rfl (by first | exact Nat.le_refl _ | decide | omega) (by first | exact Nat.le_refl _ | decide | omega) ?_
        exact bad (by simp [ancOk, e4])
      · refine s_iload_n dM_anchor_0 rfl rfl ?_
        refine s_iconst (v := 0) dM_anchor_1 (by decide) ?_
        refine s_aload_n dM_anchor_2 rfl rfl ?_
        refine s_mgi dM_anchor_3 gf_M_144 rfl ?_
        refine s_top hNS ?_
        refine s_iconst (v := nI 1) dM_anchor_6 (by decide) ?_
        first | refine s_isubN dM_anchor_7 (by omega) ?_ | refine s_isub dM_anchor_7 ?_
        refine s_t3 dM_anchor_8 cs_M_117 (c_inZ (by omega) (Iz1 hi1)) rfl rfl rfl rfl ?_
        refine s_if_eq dM_anchor_11 (fun q => absurd q (by decide)) (fun _ => ?_)
        refine s_iload_n dM_anchor_14 rfl rfl ?_
        refine s_iconst (v := 0) dM_anchor_15 (by decide) ?_
        refine s_iconst (v := 1) dM_anchor_16 (by decide) ?_
        refine s_t3 dM_anchor_17 cs_M_117 (c_inZ (K := 2) (by omega) (Iz1 hj1)) rfl rfl rfl rfl ?_
        refine s_if_eq dM_anchor_20 (fun q => absurd q (by decide)) (fun _ => ?_)
        refine s_iload_n dM_anchor_23 rfl rfl ?_
        refine s_iconst (v := 0) dM_anchor_24 (by decide) ?_
        refine s_iconst (v := nI 4) dM_anchor_25 (by decide) ?_
        refine s_t3 dM_anchor_26 cs_M_117 (c_inZ (K := 5) (by omega) (Iz1 (by omega))) rfl rfl rfl rfl ?_
        refine s_if_ne dM_anchor_29 (fun _ => ?_) (fun q => absurd q (by decide))
        refine s_iload_n dM_anchor_34 rfl rfl ?_
        refine s_iconst (v := 1) dM_anchor_35 (by decide) ?_
        refine s_icmp_ne dM_anchor_36 (fun _ => ?_) (fun q => absurd q (by decide))
        refine s_iload_n dM_anchor_44 rfl rfl ?_
        refine s_iconst (v := nI 2) dM_anchor_45 (by decide) ?_
        refine s_icmp_eq dM_anchor_46 (fun q => absurd q (by decide)) (fun _ => ?_)
        refine s_iload_n dM_anchor_49 rfl rfl ?_
        refine s_iconst (v := nI 3) dM_anchor_50 (by decide) ?_
        refine s_icmp_ne dM_anchor_51 (fun _ => ?_) (fun q => absurd q (by decide))
        refine s_iload_n dM_anchor_69 rfl rfl ?_
        refine s_iconst (v := nI 4) dM_anchor_70 (by decide) ?_
        refine s_icmp_ne dM_anchor_71 (fun q => absurd rfl q) (fun _ => ?_)
        refine s_iload dM_anchor_74 rfl ?_
        refine s_if_lt dM_anchor_76 (fun q => absurd q c1) (fun _ => ?_)
        refine s_aload_n dM_anchor_79 rfl rfl ?_
        refine s_iload dM_anchor_80 rfl ?_
        refine s_iconst (v := nI 4) dM_anchor_82 (by decide) ?_
        refine s_idiv dM_anchor_83 (by decide) ?_
        refine s_top ey ?_
        refine s_v1 dM_anchor_84 cv_M_128 hM_o (c_M_isSubject hN (by omega) (Iz1 hy1)) rfl rfl rfl rfl ?_
        refine s_if_ne dM_anchor_87 (fun _ => ?_) (fun q => absurd q (by decide))
        refine s_iconst (v := nI 2) dM_anchor_92 (by decide) ?_
        refine s_iload_n dM_anchor_93 rfl rfl ?_
        first | refine s_imulN dM_anchor_94 ?_ | refine s_imul dM_anchor_94 ?_
        refine s_iload_n dM_anchor_95 rfl rfl ?_
        first | refine s_iaddN dM_anchor_96 ?_ | refine s_iadd dM_anchor_96 ?_
        refine s_istore dM_anchor_97 rfl ?_
        refine s_iload_n dM_anchor_99 rfl rfl ?_
        refine s_iconst (v := nI 2) dM_anchor_100 (by decide) ?_
        refine s_icmp_eq dM_anchor_101 (fun q => absurd q (by decide)) (fun _ => ?_)
        refine s_iload_n dM_anchor_104 rfl rfl ?_
        refine s_iconst (v := nI 3) dM_anchor_105 (by decide) ?_
        refine s_icmp_ne dM_anchor_106 (fun _ => ?_) (fun q => absurd q (by decide))
        exact put1 (by simp [ancOk, e4, Int32.not_lt.mp c1]) (ring_no (by decide) (by decide)) _
