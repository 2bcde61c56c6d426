/-! the reference's simple methods -/
theorem nI_ne {a b : Nat} (h : a ≠ b) (ha : a < 2 ^ 30) (hb : b < 2 ^ 30) : ¬ nI a = nI b := fun q => h ((nI_eq (by omega) (by omega)).mp q)
theorem nI_sub1 {a : Nat} (h : 1 ≤ a) : nI a - 1 = nI (a - 1) := by rw [show (1 : Int32) = nI 1 by decide, pk_sub h]
/-- isIn of a counted thing -/
theorem c_isInK {p : Int32} {K : Nat} {h : Hp} (hK : K < 2 ^ 30) (o : Option Nat) (ho : ix p K = o) : ConF mM_isIn 0 [vI p, vI 0, vI (nI K - 1)] h (some (vI (if o.isSome then 1 else 0))) h := by
  subst ho
  rcases ix_cases p hK with ⟨e, -, hn⟩ | ⟨j, hj, rfl, e⟩
  · rw [e]; exact c_isIn (Or.inr ⟨rfl, hn⟩)
  · rw [e]; exact c_isIn (Or.inl ⟨rfl, in_ok hj hK⟩)
theorem c_in1 {p a : Int32} {K j : Nat} {h : Hp} (hK : K < 2 ^ 30) (hj : j < K) (hp : p = nI j := by rfl) (ha : a = nI K - 1 := by first | rfl | exact (nI_sub1 (by omega)).symm) : ConF mM_isIn 0 [vI p, vI 0, vI a] h (some (vI 1)) h := by
  subst hp; subst ha; exact c_isIn (Or.inl ⟨rfl, in_ok hj hK⟩)
theorem c_in0 {p a : Int32} {K : Nat} {h : Hp} (hn : ¬ (0 ≤ p ∧ p ≤ nI K - 1)) (ha : a = nI K - 1 := by first | rfl | exact (nI_sub1 (by omega)).symm) : ConF mM_isIn 0 [vI p, vI 0, vI a] h (some (vI 0)) h := by
  subst ha; exact c_isIn (Or.inr ⟨rfl, hn⟩)
def fKind (σ : Sg) (p : Int32) (K : Nat) : Int32 × Sg := match ix p K with
  | none => (-1, σ)
  | some _ => if K = 20 then (-3, σ) else (nI K, us (us σ 1 K p) 0 0 (nI (K + 1)))
theorem c_M_kind {σ : Sg} {h : Hp} {K : Nat} (p : Int32) (hK : σ 0 0 = nI K) (h1 : 1 ≤ K) (h2 : K ≤ 20) : ConF mM_kind 1 [vR (100, 0, 0), vI p] (hM σ h) (some (vI (fKind σ p K).1)) (hM (fKind σ p K).2 h) := by
  unfold fKind
  refine c_enter (by decide +kernel) rfl rfl ?_
  rcases ix_cases p (K := K) (by omega) with ⟨e, -, hn⟩ | ⟨j, hj, rfl, e⟩
  · rw [e]
    refine s_iload_n dM_kind_0 rfl rfl ?_
    refine s_iconst (v := 0) dM_kind_1 (by decide) ?_
    refine s_aload_n dM_kind_2 rfl rfl ?_
    refine s_mgi dM_kind_3 gf_M_110 rfl ?_
    refine s_top hK ?_
    refine s_iconst (v := nI 1) dM_kind_6 (by decide) ?_
    first | refine s_isubN dM_kind_7 (by omega) ?_ | refine s_isub dM_kind_7 ?_
    refine s_t3 dM_kind_8 cs_M_117 (c_in0 hn) rfl rfl rfl rfl ?_
    refine s_if_ne dM_kind_11 (fun q => absurd (by decide) q) (fun _ => ?_)
    refine s_iconst (v := (-1)) dM_kind_14 (by decide) ?_
    refine s_iret dM_kind_15 rfl (by first | exact Nat.le_refl _ | decide | omega) (by first | exact Nat.le_refl _ | decide | omega) ?_
    exact ⟨rfl, rfl⟩
  · rw [e]
    by_cases h20 : K = 20
    · subst h20
      refine s_iload_n dM_kind_0 rfl rfl ?_
      refine s_iconst (v := 0) dM_kind_1 (by decide) ?_
      refine s_aload_n dM_kind_2 rfl rfl ?_
      refine s_mgi dM_kind_3 gf_M_110 rfl ?_
      refine s_top hK ?_
      refine s_iconst (v := nI 1) dM_kind_6 (by decide) ?_
      first | refine s_isubN dM_kind_7 (by omega) ?_ | refine s_isub dM_kind_7 ?_
      refine s_t3 dM_kind_8 cs_M_117 (c_in1 (by omega) hj) rfl rfl rfl rfl ?_
      refine s_if_ne dM_kind_11 (fun _ => ?_) (fun q => absurd q (by decide))
      refine s_aload_n dM_kind_16 rfl rfl ?_
      refine s_mgi dM_kind_17 gf_M_110 rfl ?_
      refine s_top hK ?_
      refine s_bipush (v := nI 20) dM_kind_20 (by decide) ?_
      refine s_icmp_ne dM_kind_22 (fun q => absurd rfl q) (fun _ => ?_)
      refine s_bipush (v := (-3)) dM_kind_25 (by decide) ?_
      refine s_iret dM_kind_27 rfl (by first | exact Nat.le_refl _ | decide | omega) (by first | exact Nat.le_refl _ | decide | omega) ?_
      exact ⟨rfl, rfl⟩
    · refine s_iload_n dM_kind_0 rfl rfl ?_
      refine s_iconst (v := 0) dM_kind_1 (by decide) ?_
      refine s_aload_n dM_kind_2 rfl rfl ?_
      refine s_mgi dM_kind_3 gf_M_110 rfl ?_
      refine s_top hK ?_
      refine s_iconst (v := nI 1) dM_kind_6 (by decide) ?_
      first | refine s_isubN dM_kind_7 (by omega) ?_ | refine s_isub dM_kind_7 ?_
      refine s_t3 dM_kind_8 cs_M_117 (c_in1 (by omega) hj) rfl rfl rfl rfl ?_
      refine s_if_ne dM_kind_11 (fun _ => ?_) (fun q => absurd q (by decide))
      refine s_aload_n dM_kind_16 rfl rfl ?_
      refine s_mgi dM_kind_17 gf_M_110 rfl ?_
      refine s_top hK ?_
      refine s_bipush (v := nI 20) dM_kind_20 (by decide) ?_
      refine s_icmp_ne dM_kind_22 (fun _ => ?_) (fun q => absurd q (nI_ne h20 (by omega) (by omega)))
      refine s_aload_n dM_kind_28 rfl rfl ?_
      refine s_mga dM_kind_29 gf_M_7 rfl ?_
      refine s_aload_n dM_kind_32 rfl rfl ?_
      refine s_mgi dM_kind_33 gf_M_110 rfl ?_
      refine s_top hK ?_
      refine s_iload_n dM_kind_36 rfl rfl ?_
      refine s_mast dM_kind_37 rfl rfl (show _ < 20 by omega) rfl ?_
      refine s_aload_n dM_kind_38 rfl rfl ?_
      refine s_dup dM_kind_39 rfl ?_
      refine s_mgi dM_kind_40 gf_M_110 rfl ?_
      refine s_top hK ?_
      refine s_iconst (v := nI 1) dM_kind_43 (by decide) ?_
      first | refine s_iaddN dM_kind_44 ?_ | refine s_iadd dM_kind_44 ?_
      refine s_mpi dM_kind_45 gf_M_110 rfl rfl (by first | exact ⟨_, rfl⟩ | exact Or.inl rfl | exact Or.inr rfl) ?_
      refine s_aload_n dM_kind_48 rfl rfl ?_
      refine s_mgi dM_kind_49 gf_M_110 rfl ?_
      refine s_top (show _ = nI (K + 1) from rfl) ?_
      refine s_iconst (v := nI 1) dM_kind_52 (by decide) ?_
      first | refine s_isubN dM_kind_53 (by omega) ?_ | refine s_isub dM_kind_53 ?_
      refine s_iret dM_kind_54 rfl (by first | exact Nat.le_refl _ | decide | omega) (by first | exact Nat.le_refl _ | decide | omega) ?_
      rw [if_neg h20]
      exact ⟨by first | rfl | rw [nI_pred], rfl⟩

def Iz (r p : Int32) (K : Nat) : Prop := (r = 1 ∧ ∃ j, j < K ∧ p = nI j) ∨ (r = 0 ∧ ¬ (0 ≤ p ∧ p ≤ nI K - 1))
theorem Iz1 {j K : Nat} (h : j < K) : Iz 1 (nI j) K := Or.inl ⟨rfl, j, h, rfl⟩
theorem Iz0 {p : Int32} {K : Nat} (h : ¬ (0 ≤ p ∧ p ≤ nI K - 1)) : Iz 0 p K := Or.inr ⟨rfl, h⟩
theorem c_inZ {r p a : Int32} {K : Nat} {h : Hp} (hK : K < 2 ^ 30) (hz : Iz r p K) (ha : a = nI K - 1 := by first | rfl | exact (nI_sub1 (by omega)).symm) : ConF mM_isIn 0 [vI p, vI 0, vI a] h (some (vI r)) h := by
  rcases hz with ⟨rfl, j, hj, rfl⟩ | ⟨rfl, hn⟩
  · exact c_in1 hK hj rfl ha
  · exact c_in0 hn ha
theorem Iz.b {r p : Int32} {K : Nat} (h : Iz r p K) : r = 0 ∨ r = 1 := by rcases h with ⟨h, -⟩ | ⟨h, -⟩ <;> simp [h]
/-- the cases of an argument that counts -/
theorem iz_cases (p : Int32) {K : Nat} (hK : K < 2 ^ 30) : (ix p K = none ∧ Iz 0 p K) ∨ ∃ j, j < K ∧ p = nI j ∧ ix p K = some j := by
  rcases ix_cases p hK with ⟨e, -, hn⟩ | q
  · exact Or.inl ⟨e, Iz0 hn⟩
  · exact Or.inr q

theorem c_M_isSubject {σ : Sg} {h : Hp} {N : Nat} {r p : Int32} (hN : σ 2 0 = nI N) (h1 : N < 2 ^ 30) (hz : Iz r p N) : ConF mM_isSubject 1 [vR (100, 0, 0), vI p] (hM σ h) (some (vI r)) (hM σ h) := by
  have hr := hz.b
  refine c_enter (by decide +kernel) rfl rfl ?_
  refine s_iload_n dM_isSubject_0 rfl rfl ?_
  refine s_iconst (v := 0) dM_isSubject_1 (by decide) ?_
  refine s_aload_n dM_isSubject_2 rfl rfl ?_
  refine s_mgi dM_isSubject_3 gf_M_125 rfl ?_
  refine s_top hN ?_
  refine s_iconst (v := nI 1) dM_isSubject_6 (by decide) ?_
  first | refine s_isubN dM_isSubject_7 (by omega) ?_ | refine s_isub dM_isSubject_7 ?_
  refine s_t3 dM_isSubject_8 cs_M_117 (c_inZ h1 hz) rfl rfl rfl rfl ?_
  refine s_zret dM_isSubject_11 rfl (by first | exact Or.inl rfl | exact Or.inr rfl | assumption) (by first | exact Nat.le_refl _ | decide | omega) (by first | exact Nat.le_refl _ | decide | omega) ?_
  exact ⟨rfl, rfl⟩

theorem c_M_isBook {σ : Sg} {h : Hp} {N : Nat} {r p : Int32} (hN : σ 5 0 = nI N) (h1 : N < 2 ^ 30) (hz : Iz r p N) : ConF mM_isBook 1 [vR (100, 0, 0), vI p] (hM σ h) (some (vI r)) (hM σ h) := by
  have hr := hz.b
  refine c_enter (by decide +kernel) rfl rfl ?_
  refine s_iload_n dM_isBook_0 rfl rfl ?_
  refine s_iconst (v := 0) dM_isBook_1 (by decide) ?_
  refine s_aload_n dM_isBook_2 rfl rfl ?_
  refine s_mgi dM_isBook_3 gf_M_132 rfl ?_
  refine s_top hN ?_
  refine s_iconst (v := nI 1) dM_isBook_6 (by decide) ?_
  first | refine s_isubN dM_isBook_7 (by omega) ?_ | refine s_isub dM_isBook_7 ?_
  refine s_t3 dM_isBook_8 cs_M_117 (c_inZ h1 hz) rfl rfl rfl rfl ?_
  refine s_zret dM_isBook_11 rfl (by first | exact Or.inl rfl | exact Or.inr rfl | assumption) (by first | exact Nat.le_refl _ | decide | omega) (by first | exact Nat.le_refl _ | decide | omega) ?_
  exact ⟨rfl, rfl⟩

theorem c_M_isRule {σ : Sg} {h : Hp} {N : Nat} {r p : Int32} (hN : σ 8 0 = nI N) (h1 : N < 2 ^ 30) (hz : Iz r p N) : ConF mM_isRule 1 [vR (100, 0, 0), vI p] (hM σ h) (some (vI r)) (hM σ h) := by
  have hr := hz.b
  refine c_enter (by decide +kernel) rfl rfl ?_
  refine s_iload_n dM_isRule_0 rfl rfl ?_
  refine s_iconst (v := 0) dM_isRule_1 (by decide) ?_
  refine s_aload_n dM_isRule_2 rfl rfl ?_
  refine s_mgi dM_isRule_3 gf_M_138 rfl ?_
  refine s_top hN ?_
  refine s_iconst (v := nI 1) dM_isRule_6 (by decide) ?_
  first | refine s_isubN dM_isRule_7 (by omega) ?_ | refine s_isub dM_isRule_7 ?_
  refine s_t3 dM_isRule_8 cs_M_117 (c_inZ h1 hz) rfl rfl rfl rfl ?_
  refine s_zret dM_isRule_11 rfl (by first | exact Or.inl rfl | exact Or.inr rfl | assumption) (by first | exact Nat.le_refl _ | decide | omega) (by first | exact Nat.le_refl _ | decide | omega) ?_
  exact ⟨rfl, rfl⟩

def fSubject (σ : Sg) (p : Int32) (K N : Nat) : Int32 × Sg := match ix p K with
  | none => (-1, σ)
  | some _ => if N = 20 then (-3, σ) else (nI N, us (us σ 3 N p) 2 0 (nI (N + 1)))
theorem c_M_subject {σ : Sg} {h : Hp} {K N : Nat} (p : Int32) (hK : σ 0 0 = nI K) (h2 : K ≤ 20) (hN : σ 2 0 = nI N) (h3 : N ≤ 20) : ConF mM_subject 1 [vR (100, 0, 0), vI p] (hM σ h) (some (vI (fSubject σ p K N).1)) (hM (fSubject σ p K N).2 h) := by
  unfold fSubject
  refine c_enter (by decide +kernel) rfl rfl ?_
  rcases iz_cases p (K := K) (by omega) with ⟨e, hz⟩ | ⟨j, hj, rfl, e⟩
  · rw [e]
    refine s_iload_n dM_subject_0 rfl rfl ?_
    refine s_iconst (v := 0) dM_subject_1 (by decide) ?_
    refine s_aload_n dM_subject_2 rfl rfl ?_
    refine s_mgi dM_subject_3 gf_M_110 rfl ?_
    refine s_top hK ?_
    refine s_iconst (v := nI 1) dM_subject_6 (by decide) ?_
    first | refine s_isubN dM_subject_7 (by omega) ?_ | refine s_isub dM_subject_7 ?_
    refine s_t3 dM_subject_8 cs_M_117 (c_inZ (by omega) hz) rfl rfl rfl rfl ?_
    refine s_if_ne dM_subject_11 (fun q => absurd (by decide) q) (fun _ => ?_)
    refine s_iconst (v := (-1)) dM_subject_14 (by decide) ?_
    refine s_iret dM_subject_15 rfl (by first | exact Nat.le_refl _ | decide | omega) (by first | exact Nat.le_refl _ | decide | omega) ?_
    exact ⟨rfl, rfl⟩
  · rw [e]
    by_cases h20 : N = 20
    · subst h20
      refine s_iload_n dM_subject_0 rfl rfl ?_
      refine s_iconst (v := 0) dM_subject_1 (by decide) ?_
      refine s_aload_n dM_subject_2 rfl rfl ?_
      refine s_mgi dM_subject_3 gf_M_110 rfl ?_
      refine s_top hK ?_
      refine s_iconst (v := nI 1) dM_subject_6 (by decide) ?_
      first | refine s_isubN dM_subject_7 (by omega) ?_ | refine s_isub dM_subject_7 ?_
      refine s_t3 dM_subject_8 cs_M_117 (c_inZ (K := K) (by omega) (Iz1 hj)) rfl rfl rfl rfl ?_
      refine s_if_ne dM_subject_11 (fun _ => ?_) (fun q => absurd q (by decide))
      refine s_aload_n dM_subject_16 rfl rfl ?_
      refine s_mgi dM_subject_17 gf_M_125 rfl ?_
      refine s_top hN ?_
      refine s_bipush (v := nI 20) dM_subject_20 (by decide) ?_
      refine s_icmp_ne dM_subject_22 (fun q => absurd rfl q) (fun _ => ?_)
      refine s_bipush (v := (-3)) dM_subject_25 (by decide) ?_
      refine s_iret dM_subject_27 rfl (by first | exact Nat.le_refl _ | decide | omega) (by first | exact Nat.le_refl _ | decide | omega) ?_
      exact ⟨rfl, rfl⟩
    · refine s_iload_n dM_subject_0 rfl rfl ?_
      refine s_iconst (v := 0) dM_subject_1 (by decide) ?_
      refine s_aload_n dM_subject_2 rfl rfl ?_
      refine s_mgi dM_subject_3 gf_M_110 rfl ?_
      refine s_top hK ?_
      refine s_iconst (v := nI 1) dM_subject_6 (by decide) ?_
      first | refine s_isubN dM_subject_7 (by omega) ?_ | refine s_isub dM_subject_7 ?_
      refine s_t3 dM_subject_8 cs_M_117 (c_inZ (K := K) (by omega) (Iz1 hj)) rfl rfl rfl rfl ?_
      refine s_if_ne dM_subject_11 (fun _ => ?_) (fun q => absurd q (by decide))
      refine s_aload_n dM_subject_16 rfl rfl ?_
      refine s_mgi dM_subject_17 gf_M_125 rfl ?_
      refine s_top hN ?_
      refine s_bipush (v := nI 20) dM_subject_20 (by decide) ?_
      refine s_icmp_ne dM_subject_22 (fun _ => ?_) (fun q => absurd q (nI_ne h20 (by omega) (by omega)))
      refine s_aload_n dM_subject_28 rfl rfl ?_
      refine s_mga dM_subject_29 gf_M_13 rfl ?_
      refine s_aload_n dM_subject_32 rfl rfl ?_
      refine s_mgi dM_subject_33 gf_M_125 rfl ?_
      refine s_top hN ?_
      refine s_iload_n dM_subject_36 rfl rfl ?_
      refine s_mast dM_subject_37 rfl rfl (show _ < 20 by omega) rfl ?_
      refine s_aload_n dM_subject_38 rfl rfl ?_
      refine s_dup dM_subject_39 rfl ?_
      refine s_mgi dM_subject_40 gf_M_125 rfl ?_
      refine s_top hN ?_
      refine s_iconst (v := nI 1) dM_subject_43 (by decide) ?_
      first | refine s_iaddN dM_subject_44 ?_ | refine s_iadd dM_subject_44 ?_
      refine s_mpi dM_subject_45 gf_M_125 rfl rfl (by first | exact ⟨_, rfl⟩ | exact Or.inl rfl | exact Or.inr rfl) ?_
      refine s_aload_n dM_subject_48 rfl rfl ?_
      refine s_mgi dM_subject_49 gf_M_125 rfl ?_
      refine s_top (show _ = nI (N + 1) from rfl) ?_
      refine s_iconst (v := nI 1) dM_subject_52 (by decide) ?_
      first | refine s_isubN dM_subject_53 (by omega) ?_ | refine s_isub dM_subject_53 ?_
      refine s_iret dM_subject_54 rfl (by first | exact Nat.le_refl _ | decide | omega) (by first | exact Nat.le_refl _ | decide | omega) ?_
      rw [if_neg h20]
      exact ⟨by first | rfl | rw [nI_pred], rfl⟩
def fSet (σ : Sg) (p x v : Int32) (N : Nat) : Int32 × Sg := match ix p N, ix x 4 with
  | some j, some i => (σ 4 (4 * j + i), us σ 4 (4 * j + i) v)
  | _, _ => (-1, σ)
theorem c_M_set {σ : Sg} {h : Hp} {N : Nat} (p x v : Int32) (hN : σ 2 0 = nI N) (h3 : N ≤ 20) : ConF mM_set 2 [vR (100, 0, 0), vI p, vI x, vI v] (hM σ h) (some (vI (fSet σ p x v N).1)) (hM (fSet σ p x v N).2 h) := by
  unfold fSet
  refine c_enter (by decide +kernel) rfl rfl ?_
  rcases iz_cases p (K := N) (by omega) with ⟨e, hz⟩ | ⟨j, hj, rfl, e⟩
  · rw [e]
    refine s_aload_n dM_set_0 rfl rfl ?_
    refine s_iload_n dM_set_1 rfl rfl ?_
    refine s_v1 dM_set_2 cv_M_128 hM_o (c_M_isSubject hN (by omega) hz) rfl rfl rfl rfl ?_
    refine s_if_eq dM_set_5 (fun _ => ?_) (fun q => absurd rfl q)
    refine s_iconst (v := (-1)) dM_set_17 (by decide) ?_
    refine s_iret dM_set_18 rfl (by first | exact Nat.le_refl _ | decide | omega) (by first | exact Nat.le_refl _ | decide | omega) ?_
    exact ⟨rfl, rfl⟩
  · rcases iz_cases x (K := 4) (by omega) with ⟨e1, hz⟩ | ⟨i, hi, rfl, e1⟩
    · rw [e, e1]
      refine s_aload_n dM_set_0 rfl rfl ?_
      refine s_iload_n dM_set_1 rfl rfl ?_
      refine s_v1 dM_set_2 cv_M_128 hM_o (c_M_isSubject hN (by omega) (Iz1 hj)) rfl rfl rfl rfl ?_
      refine s_if_eq dM_set_5 (fun q => absurd q (by decide)) (fun _ => ?_)
      refine s_iload_n dM_set_8 rfl rfl ?_
      refine s_iconst (v := 0) dM_set_9 (by decide) ?_
      refine s_iconst (v := nI 3) dM_set_10 (by decide) ?_
      refine s_t3 dM_set_11 cs_M_117 (c_inZ (K := 4) (by omega) hz) rfl rfl rfl rfl ?_
      refine s_if_ne dM_set_14 (fun q => absurd (by decide) q) (fun _ => ?_)
      refine s_iconst (v := (-1)) dM_set_17 (by decide) ?_
      refine s_iret dM_set_18 rfl (by first | exact Nat.le_refl _ | decide | omega) (by first | exact Nat.le_refl _ | decide | omega) ?_
      exact ⟨rfl, rfl⟩
    · rw [e, e1]
      refine s_aload_n dM_set_0 rfl rfl ?_
      refine s_iload_n dM_set_1 rfl rfl ?_
      refine s_v1 dM_set_2 cv_M_128 hM_o (c_M_isSubject hN (by omega) (Iz1 hj)) rfl rfl rfl rfl ?_
      refine s_if_eq dM_set_5 (fun q => absurd q (by decide)) (fun _ => ?_)
      refine s_iload_n dM_set_8 rfl rfl ?_
      refine s_iconst (v := 0) dM_set_9 (by decide) ?_
      refine s_iconst (v := nI 3) dM_set_10 (by decide) ?_
      refine s_t3 dM_set_11 cs_M_117 (c_inZ (K := 4) (by omega) (Iz1 hi)) rfl rfl rfl rfl ?_
      refine s_if_ne dM_set_14 (fun _ => ?_) (fun q => absurd q (by decide))
      refine s_aload_n dM_set_19 rfl rfl ?_
      refine s_mga dM_set_20 gf_M_16 rfl ?_
      refine s_iconst (v := nI 4) dM_set_23 (by decide) ?_
      refine s_iload_n dM_set_24 rfl rfl ?_
      first | refine s_imulN dM_set_25 ?_ | refine s_imul dM_set_25 ?_
      refine s_iload_n dM_set_26 rfl rfl ?_
      first | refine s_iaddN dM_set_27 ?_ | refine s_iadd dM_set_27 ?_
      refine s_mald dM_set_28 rfl rfl (show _ < 80 by omega) rfl ?_
      refine s_istore dM_set_29 rfl ?_
      refine s_aload_n dM_set_31 rfl rfl ?_
      refine s_mga dM_set_32 gf_M_16 rfl ?_
      refine s_iconst (v := nI 4) dM_set_35 (by decide) ?_
      refine s_iload_n dM_set_36 rfl rfl ?_
      first | refine s_imulN dM_set_37 ?_ | refine s_imul dM_set_37 ?_
      refine s_iload_n dM_set_38 rfl rfl ?_
      first | refine s_iaddN dM_set_39 ?_ | refine s_iadd dM_set_39 ?_
      refine s_iload_n dM_set_40 rfl rfl ?_
      refine s_mast dM_set_41 rfl rfl (show _ < 80 by omega) rfl ?_
      refine s_iload dM_set_42 rfl ?_
      refine s_iret dM_set_44 rfl (by first | exact Nat.le_refl _ | decide | omega) (by first | exact Nat.le_refl _ | decide | omega) ?_
      exact ⟨rfl, rfl⟩
def fValue (σ : Sg) (p x : Int32) (N : Nat) : Int32 := match ix p N, ix x 4 with
  | some j, some i => σ 4 (4 * j + i)
  | _, _ => -1
theorem c_M_value {σ : Sg} {h : Hp} {N : Nat} (p x : Int32) (hN : σ 2 0 = nI N) (h3 : N ≤ 20) : ConF mM_value 2 [vR (100, 0, 0), vI p, vI x] (hM σ h) (some (vI (fValue σ p x N))) (hM σ h) := by
  unfold fValue
  refine c_enter (by decide +kernel) rfl rfl ?_
  rcases iz_cases p (K := N) (by omega) with ⟨e, hz⟩ | ⟨j, hj, rfl, e⟩
  · rw [e]
    refine s_aload_n dM_value_0 rfl rfl ?_
    refine s_iload_n dM_value_1 rfl rfl ?_
    refine s_v1 dM_value_2 cv_M_128 hM_o (c_M_isSubject hN (by omega) hz) rfl rfl rfl rfl ?_
    refine s_if_eq dM_value_5 (fun _ => ?_) (fun q => absurd rfl q)
    refine s_iconst (v := (-1)) dM_value_30 (by decide) ?_
    refine s_iret dM_value_31 rfl (by first | exact Nat.le_refl _ | decide | omega) (by first | exact Nat.le_refl _ | decide | omega) ?_
    exact ⟨rfl, rfl⟩
  · rcases iz_cases x (K := 4) (by omega) with ⟨e1, hz⟩ | ⟨i, hi, rfl, e1⟩
    · rw [e, e1]
      refine s_aload_n dM_value_0 rfl rfl ?_
      refine s_iload_n dM_value_1 rfl rfl ?_
      refine s_v1 dM_value_2 cv_M_128 hM_o (c_M_isSubject hN (by omega) (Iz1 hj)) rfl rfl rfl rfl ?_
      refine s_if_eq dM_value_5 (fun q => absurd q (by decide)) (fun _ => ?_)
      refine s_iload_n dM_value_8 rfl rfl ?_
      refine s_iconst (v := 0) dM_value_9 (by decide) ?_
      refine s_iconst (v := nI 3) dM_value_10 (by decide) ?_
      refine s_t3 dM_value_11 cs_M_117 (c_inZ (K := 4) (by omega) hz) rfl rfl rfl rfl ?_
      refine s_if_eq dM_value_14 (fun _ => ?_) (fun q => absurd rfl q)
      refine s_iconst (v := (-1)) dM_value_30 (by decide) ?_
      refine s_iret dM_value_31 rfl (by first | exact Nat.le_refl _ | decide | omega) (by first | exact Nat.le_refl _ | decide | omega) ?_
      exact ⟨rfl, rfl⟩
    · rw [e, e1]
      refine s_aload_n dM_value_0 rfl rfl ?_
      refine s_iload_n dM_value_1 rfl rfl ?_
      refine s_v1 dM_value_2 cv_M_128 hM_o (c_M_isSubject hN (by omega) (Iz1 hj)) rfl rfl rfl rfl ?_
      refine s_if_eq dM_value_5 (fun q => absurd q (by decide)) (fun _ => ?_)
      refine s_iload_n dM_value_8 rfl rfl ?_
      refine s_iconst (v := 0) dM_value_9 (by decide) ?_
      refine s_iconst (v := nI 3) dM_value_10 (by decide) ?_
      refine s_t3 dM_value_11 cs_M_117 (c_inZ (K := 4) (by omega) (Iz1 hi)) rfl rfl rfl rfl ?_
      refine s_if_eq dM_value_14 (fun q => absurd q (by decide)) (fun _ => ?_)
      refine s_aload_n dM_value_17 rfl rfl ?_
      refine s_mga dM_value_18 gf_M_16 rfl ?_
      refine s_iconst (v := nI 4) dM_value_21 (by decide) ?_
      refine s_iload_n dM_value_22 rfl rfl ?_
      first | refine s_imulN dM_value_23 ?_ | refine s_imul dM_value_23 ?_
      refine s_iload_n dM_value_24 rfl rfl ?_
      first | refine s_iaddN dM_value_25 ?_ | refine s_iadd dM_value_25 ?_
      refine s_mald dM_value_26 rfl rfl (show _ < 80 by omega) rfl ?_
      refine s_goto dM_value_27 ?_
      refine s_iret dM_value_31 rfl (by first | exact Nat.le_refl _ | decide | omega) (by first | exact Nat.le_refl _ | decide | omega) ?_
      exact ⟨rfl, rfl⟩
def fBook (σ : Sg) (p : Int32) (N : Nat) : Int32 × Sg := match ix p 100 with
  | none => (-1, σ)
  | some _ => if N = 12 then (-3, σ) else (nI N, us (us σ 6 N p) 5 0 (nI (N + 1)))
theorem c_M_book {σ : Sg} {h : Hp} {N : Nat} (p : Int32) (hN : σ 5 0 = nI N) (h3 : N ≤ 12) : ConF mM_book 1 [vR (100, 0, 0), vI p] (hM σ h) (some (vI (fBook σ p N).1)) (hM (fBook σ p N).2 h) := by
  unfold fBook
  refine c_enter (by decide +kernel) rfl rfl ?_
  rcases iz_cases p (K := 100) (by omega) with ⟨e, hz⟩ | ⟨j, hj, rfl, e⟩
  · rw [e]
    refine s_iload_n dM_book_0 rfl rfl ?_
    refine s_iconst (v := 0) dM_book_1 (by decide) ?_
    refine s_bipush (v := nI 99) dM_book_2 (by decide) ?_
    refine s_t3 dM_book_4 cs_M_117 (c_inZ (K := 100) (by omega) hz) rfl rfl rfl rfl ?_
    refine s_if_ne dM_book_7 (fun q => absurd (by decide) q) (fun _ => ?_)
    refine s_iconst (v := (-1)) dM_book_10 (by decide) ?_
    refine s_iret dM_book_11 rfl (by first | exact Nat.le_refl _ | decide | omega) (by first | exact Nat.le_refl _ | decide | omega) ?_
    exact ⟨rfl, rfl⟩
  · rw [e]
    by_cases h20 : N = 12
    · subst h20
      refine s_iload_n dM_book_0 rfl rfl ?_
      refine s_iconst (v := 0) dM_book_1 (by decide) ?_
      refine s_bipush (v := nI 99) dM_book_2 (by decide) ?_
      refine s_t3 dM_book_4 cs_M_117 (c_inZ (K := 100) (by omega) (Iz1 hj)) rfl rfl rfl rfl ?_
      refine s_if_ne dM_book_7 (fun _ => ?_) (fun q => absurd q (by decide))
      refine s_aload_n dM_book_12 rfl rfl ?_
      refine s_mgi dM_book_13 gf_M_132 rfl ?_
      refine s_top hN ?_
      refine s_bipush (v := nI 12) dM_book_16 (by decide) ?_
      refine s_icmp_ne dM_book_18 (fun q => absurd rfl q) (fun _ => ?_)
      refine s_bipush (v := (-3)) dM_book_21 (by decide) ?_
      refine s_iret dM_book_23 rfl (by first | exact Nat.le_refl _ | decide | omega) (by first | exact Nat.le_refl _ | decide | omega) ?_
      exact ⟨rfl, rfl⟩
    · refine s_iload_n dM_book_0 rfl rfl ?_
      refine s_iconst (v := 0) dM_book_1 (by decide) ?_
      refine s_bipush (v := nI 99) dM_book_2 (by decide) ?_
      refine s_t3 dM_book_4 cs_M_117 (c_inZ (K := 100) (by omega) (Iz1 hj)) rfl rfl rfl rfl ?_
      refine s_if_ne dM_book_7 (fun _ => ?_) (fun q => absurd q (by decide))
      refine s_aload_n dM_book_12 rfl rfl ?_
      refine s_mgi dM_book_13 gf_M_132 rfl ?_
      refine s_top hN ?_
      refine s_bipush (v := nI 12) dM_book_16 (by decide) ?_
      refine s_icmp_ne dM_book_18 (fun _ => ?_) (fun q => absurd q (nI_ne h20 (by omega) (by omega)))
      refine s_aload_n dM_book_24 rfl rfl ?_
      refine s_mga dM_book_25 gf_M_19 rfl ?_
      refine s_aload_n dM_book_28 rfl rfl ?_
      refine s_mgi dM_book_29 gf_M_132 rfl ?_
      refine s_top hN ?_
      refine s_iload_n dM_book_32 rfl rfl ?_
      refine s_mast dM_book_33 rfl rfl (show _ < 12 by omega) rfl ?_
      refine s_aload_n dM_book_34 rfl rfl ?_
      refine s_dup dM_book_35 rfl ?_
      refine s_mgi dM_book_36 gf_M_132 rfl ?_
      refine s_top hN ?_
      refine s_iconst (v := nI 1) dM_book_39 (by decide) ?_
      first | refine s_iaddN dM_book_40 ?_ | refine s_iadd dM_book_40 ?_
      refine s_mpi dM_book_41 gf_M_132 rfl rfl (by first | exact ⟨_, rfl⟩ | exact Or.inl rfl | exact Or.inr rfl) ?_
      refine s_aload_n dM_book_44 rfl rfl ?_
      refine s_mgi dM_book_45 gf_M_132 rfl ?_
      refine s_top (show _ = nI (N + 1) from rfl) ?_
      refine s_iconst (v := nI 1) dM_book_48 (by decide) ?_
      first | refine s_isubN dM_book_49 (by omega) ?_ | refine s_isub dM_book_49 ?_
      refine s_iret dM_book_50 rfl (by first | exact Nat.le_refl _ | decide | omega) (by first | exact Nat.le_refl _ | decide | omega) ?_
      rw [if_neg h20]
      exact ⟨by first | rfl | rw [nI_pred], rfl⟩
def fVariable (σ : Sg) (p x v : Int32) (N : Nat) : Int32 × Sg := match ix p N, ix x 4 with
  | some j, some i => (0, us σ 7 (4 * j + i) v)
  | _, _ => (-1, σ)
theorem c_M_variable {σ : Sg} {h : Hp} {N : Nat} (p x v : Int32) (hN : σ 5 0 = nI N) (h3 : N ≤ 12) : ConF mM_variable 2 [vR (100, 0, 0), vI p, vI x, vI v] (hM σ h) (some (vI (fVariable σ p x v N).1)) (hM (fVariable σ p x v N).2 h) := by
  unfold fVariable
  refine c_enter (by decide +kernel) rfl rfl ?_
  rcases iz_cases p (K := N) (by omega) with ⟨e, hz⟩ | ⟨j, hj, rfl, e⟩
  · rw [e]
    refine s_aload_n dM_variable_0 rfl rfl ?_
    refine s_iload_n dM_variable_1 rfl rfl ?_
    refine s_v1 dM_variable_2 cv_M_135 hM_o (c_M_isBook hN (by omega) hz) rfl rfl rfl rfl ?_
    refine s_if_eq dM_variable_5 (fun _ => ?_) (fun q => absurd rfl q)
    refine s_iconst (v := (-1)) dM_variable_17 (by decide) ?_
    refine s_iret dM_variable_18 rfl (by first | exact Nat.le_refl _ | decide | omega) (by first | exact Nat.le_refl _ | decide | omega) ?_
    exact ⟨rfl, rfl⟩
  · rcases iz_cases x (K := 4) (by omega) with ⟨e1, hz⟩ | ⟨i, hi, rfl, e1⟩
    · rw [e, e1]
      refine s_aload_n dM_variable_0 rfl rfl ?_
      refine s_iload_n dM_variable_1 rfl rfl ?_
      refine s_v1 dM_variable_2 cv_M_135 hM_o (c_M_isBook hN (by omega) (Iz1 hj)) rfl rfl rfl rfl ?_
      refine s_if_eq dM_variable_5 (fun q => absurd q (by decide)) (fun _ => ?_)
      refine s_iload_n dM_variable_8 rfl rfl ?_
      refine s_iconst (v := 0) dM_variable_9 (by decide) ?_
      refine s_iconst (v := nI 3) dM_variable_10 (by decide) ?_
      refine s_t3 dM_variable_11 cs_M_117 (c_inZ (K := 4) (by omega) hz) rfl rfl rfl rfl ?_
      refine s_if_ne dM_variable_14 (fun q => absurd (by decide) q) (fun _ => ?_)
      refine s_iconst (v := (-1)) dM_variable_17 (by decide) ?_
      refine s_iret dM_variable_18 rfl (by first | exact Nat.le_refl _ | decide | omega) (by first | exact Nat.le_refl _ | decide | omega) ?_
      exact ⟨rfl, rfl⟩
    · rw [e, e1]
      refine s_aload_n dM_variable_0 rfl rfl ?_
      refine s_iload_n dM_variable_1 rfl rfl ?_
      refine s_v1 dM_variable_2 cv_M_135 hM_o (c_M_isBook hN (by omega) (Iz1 hj)) rfl rfl rfl rfl ?_
      refine s_if_eq dM_variable_5 (fun q => absurd q (by decide)) (fun _ => ?_)
      refine s_iload_n dM_variable_8 rfl rfl ?_
      refine s_iconst (v := 0) dM_variable_9 (by decide) ?_
      refine s_iconst (v := nI 3) dM_variable_10 (by decide) ?_
      refine s_t3 dM_variable_11 cs_M_117 (c_inZ (K := 4) (by omega) (Iz1 hi)) rfl rfl rfl rfl ?_
      refine s_if_ne dM_variable_14 (fun _ => ?_) (fun q => absurd q (by decide))
      refine s_aload_n dM_variable_19 rfl rfl ?_
      refine s_mga dM_variable_20 gf_M_22 rfl ?_
      refine s_iconst (v := nI 4) dM_variable_23 (by decide) ?_
      refine s_iload_n dM_variable_24 rfl rfl ?_
      first | refine s_imulN dM_variable_25 ?_ | refine s_imul dM_variable_25 ?_
      refine s_iload_n dM_variable_26 rfl rfl ?_
      first | refine s_iaddN dM_variable_27 ?_ | refine s_iadd dM_variable_27 ?_
      refine s_iload_n dM_variable_28 rfl rfl ?_
      refine s_mast dM_variable_29 rfl rfl (show _ < 48 by omega) rfl ?_
      refine s_iconst (v := 0) dM_variable_30 (by decide) ?_
      refine s_iret dM_variable_31 rfl (by first | exact Nat.le_refl _ | decide | omega) (by first | exact Nat.le_refl _ | decide | omega) ?_
      exact ⟨rfl, rfl⟩
def fRule (σ : Sg) (b s p : Int32) (B N : Nat) : Int32 × Sg := match ix b B, ix s 3, ix p 10 with
  | some _, some _, some _ => if N = 60 then (-3, σ) else (nI N, us (us (us (us (us σ 9 N b) 10 N s) 11 N p) 15 N (-4)) 8 0 (nI (N + 1)))
  | _, _, _ => (-1, σ)
theorem c_M_rule {σ : Sg} {h : Hp} {B N : Nat} (b s p : Int32) (hB : σ 5 0 = nI B) (h2 : B ≤ 12) (hN : σ 8 0 = nI N) (h3 : N ≤ 60) : ConF mM_rule 2 [vR (100, 0, 0), vI b, vI s, vI p] (hM σ h) (some (vI (fRule σ b s p B N).1)) (hM (fRule σ b s p B N).2 h) := by
  unfold fRule
  refine c_enter (by decide +kernel) rfl rfl ?_
  rcases iz_cases b (K := B) (by omega) with ⟨e, hz⟩ | ⟨j, hj, rfl, e⟩
  · rw [e]
    refine s_aload_n dM_rule_0 rfl rfl ?_
    refine s_iload_n dM_rule_1 rfl rfl ?_
    refine s_v1 dM_rule_2 cv_M_135 hM_o (c_M_isBook hB (by omega) hz) rfl rfl rfl rfl ?_
    refine s_if_eq dM_rule_5 (fun _ => ?_) (fun q => absurd rfl q)
    refine s_iconst (v := (-1)) dM_rule_27 (by decide) ?_
    refine s_iret dM_rule_28 rfl (by first | exact Nat.le_refl _ | decide | omega) (by first | exact Nat.le_refl _ | decide | omega) ?_
    exact ⟨rfl, rfl⟩
  · rcases iz_cases s (K := 3) (by omega) with ⟨e1, hz⟩ | ⟨i, hi, rfl, e1⟩
    · rw [e, e1]
      refine s_aload_n dM_rule_0 rfl rfl ?_
      refine s_iload_n dM_rule_1 rfl rfl ?_
      refine s_v1 dM_rule_2 cv_M_135 hM_o (c_M_isBook hB (by omega) (Iz1 hj)) rfl rfl rfl rfl ?_
      refine s_if_eq dM_rule_5 (fun q => absurd q (by decide)) (fun _ => ?_)
      refine s_iload_n dM_rule_8 rfl rfl ?_
      refine s_iconst (v := 0) dM_rule_9 (by decide) ?_
      refine s_iconst (v := nI 2) dM_rule_10 (by decide) ?_
      refine s_t3 dM_rule_11 cs_M_117 (c_inZ (K := 3) (by omega) hz) rfl rfl rfl rfl ?_
      refine s_if_eq dM_rule_14 (fun _ => ?_) (fun q => absurd rfl q)
      refine s_iconst (v := (-1)) dM_rule_27 (by decide) ?_
      refine s_iret dM_rule_28 rfl (by first | exact Nat.le_refl _ | decide | omega) (by first | exact Nat.le_refl _ | decide | omega) ?_
      exact ⟨rfl, rfl⟩
    · rcases iz_cases p (K := 10) (by omega) with ⟨e2, hz⟩ | ⟨i2, hi2, rfl, e2⟩
      · rw [e, e1, e2]
        refine s_aload_n dM_rule_0 rfl rfl ?_
        refine s_iload_n dM_rule_1 rfl rfl ?_
        refine s_v1 dM_rule_2 cv_M_135 hM_o (c_M_isBook hB (by omega) (Iz1 hj)) rfl rfl rfl rfl ?_
        refine s_if_eq dM_rule_5 (fun q => absurd q (by decide)) (fun _ => ?_)
        refine s_iload_n dM_rule_8 rfl rfl ?_
        refine s_iconst (v := 0) dM_rule_9 (by decide) ?_
        refine s_iconst (v := nI 2) dM_rule_10 (by decide) ?_
        refine s_t3 dM_rule_11 cs_M_117 (c_inZ (K := 3) (by omega) (Iz1 hi)) rfl rfl rfl rfl ?_
        refine s_if_eq dM_rule_14 (fun q => absurd q (by decide)) (fun _ => ?_)
        refine s_iload_n dM_rule_17 rfl rfl ?_
        refine s_iconst (v := 0) dM_rule_18 (by decide) ?_
        refine s_bipush (v := nI 9) dM_rule_19 (by decide) ?_
        refine s_t3 dM_rule_21 cs_M_117 (c_inZ (K := 10) (by omega) hz) rfl rfl rfl rfl ?_
        refine s_if_ne dM_rule_24 (fun q => absurd (by decide) q) (fun _ => ?_)
        refine s_iconst (v := (-1)) dM_rule_27 (by decide) ?_
        refine s_iret dM_rule_28 rfl (by first | exact Nat.le_refl _ | decide | omega) (by first | exact Nat.le_refl _ | decide | omega) ?_
        exact ⟨rfl, rfl⟩
      · rw [e, e1, e2]
        by_cases h20 : N = 60
        · subst h20
          refine s_aload_n dM_rule_0 rfl rfl ?_
          refine s_iload_n dM_rule_1 rfl rfl ?_
          refine s_v1 dM_rule_2 cv_M_135 hM_o (c_M_isBook hB (by omega) (Iz1 hj)) rfl rfl rfl rfl ?_
          refine s_if_eq dM_rule_5 (fun q => absurd q (by decide)) (fun _ => ?_)
          refine s_iload_n dM_rule_8 rfl rfl ?_
          refine s_iconst (v := 0) dM_rule_9 (by decide) ?_
          refine s_iconst (v := nI 2) dM_rule_10 (by decide) ?_
          refine s_t3 dM_rule_11 cs_M_117 (c_inZ (K := 3) (by omega) (Iz1 hi)) rfl rfl rfl rfl ?_
          refine s_if_eq dM_rule_14 (fun q => absurd q (by decide)) (fun _ => ?_)
          refine s_iload_n dM_rule_17 rfl rfl ?_
          refine s_iconst (v := 0) dM_rule_18 (by decide) ?_
          refine s_bipush (v := nI 9) dM_rule_19 (by decide) ?_
          refine s_t3 dM_rule_21 cs_M_117 (c_inZ (K := 10) (by omega) (Iz1 hi2)) rfl rfl rfl rfl ?_
          refine s_if_ne dM_rule_24 (fun _ => ?_) (fun q => absurd q (by decide))
          refine s_aload_n dM_rule_29 rfl rfl ?_
          refine s_mgi dM_rule_30 gf_M_138 rfl ?_
          refine s_top hN ?_
          refine s_bipush (v := nI 60) dM_rule_33 (by decide) ?_
          refine s_icmp_ne dM_rule_35 (fun q => absurd rfl q) (fun _ => ?_)
          refine s_bipush (v := (-3)) dM_rule_38 (by decide) ?_
          refine s_iret dM_rule_40 rfl (by first | exact Nat.le_refl _ | decide | omega) (by first | exact Nat.le_refl _ | decide | omega) ?_
          exact ⟨rfl, rfl⟩
        · refine s_aload_n dM_rule_0 rfl rfl ?_
          refine s_iload_n dM_rule_1 rfl rfl ?_
          refine s_v1 dM_rule_2 cv_M_135 hM_o (c_M_isBook hB (by omega) (Iz1 hj)) rfl rfl rfl rfl ?_
          refine s_if_eq dM_rule_5 (fun q => absurd q (by decide)) (fun _ => ?_)
          refine s_iload_n dM_rule_8 rfl rfl ?_
          refine s_iconst (v := 0) dM_rule_9 (by decide) ?_
          refine s_iconst (v := nI 2) dM_rule_10 (by decide) ?_
          refine s_t3 dM_rule_11 cs_M_117 (c_inZ (K := 3) (by omega) (Iz1 hi)) rfl rfl rfl rfl ?_
          refine s_if_eq dM_rule_14 (fun q => absurd q (by decide)) (fun _ => ?_)
          refine s_iload_n dM_rule_17 rfl rfl ?_
          refine s_iconst (v := 0) dM_rule_18 (by decide) ?_
          refine s_bipush (v := nI 9) dM_rule_19 (by decide) ?_
          refine s_t3 dM_rule_21 cs_M_117 (c_inZ (K := 10) (by omega) (Iz1 hi2)) rfl rfl rfl rfl ?_
          refine s_if_ne dM_rule_24 (fun _ => ?_) (fun q => absurd q (by decide))
          refine s_aload_n dM_rule_29 rfl rfl ?_
          refine s_mgi dM_rule_30 gf_M_138 rfl ?_
          refine s_top hN ?_
          refine s_bipush (v := nI 60) dM_rule_33 (by decide) ?_
          refine s_icmp_ne dM_rule_35 (fun _ => ?_) (fun q => absurd q (nI_ne h20 (by omega) (by omega)))
          refine s_aload_n dM_rule_41 rfl rfl ?_
          refine s_mga dM_rule_42 gf_M_25 rfl ?_
          refine s_aload_n dM_rule_45 rfl rfl ?_
          refine s_mgi dM_rule_46 gf_M_138 rfl ?_
          refine s_top hN ?_
          refine s_iload_n dM_rule_49 rfl rfl ?_
          refine s_mast dM_rule_50 rfl rfl (show _ < 60 by omega) rfl ?_
          refine s_aload_n dM_rule_51 rfl rfl ?_
          refine s_mga dM_rule_52 gf_M_28 rfl ?_
          refine s_aload_n dM_rule_55 rfl rfl ?_
          refine s_mgi dM_rule_56 gf_M_138 rfl ?_
          refine s_top hN ?_
          refine s_iload_n dM_rule_59 rfl rfl ?_
          refine s_mast dM_rule_60 rfl rfl (show _ < 60 by omega) rfl ?_
          refine s_aload_n dM_rule_61 rfl rfl ?_
          refine s_mga dM_rule_62 gf_M_31 rfl ?_
          refine s_aload_n dM_rule_65 rfl rfl ?_
          refine s_mgi dM_rule_66 gf_M_138 rfl ?_
          refine s_top hN ?_
          refine s_iload_n dM_rule_69 rfl rfl ?_
          refine s_mast dM_rule_70 rfl rfl (show _ < 60 by omega) rfl ?_
          refine s_aload_n dM_rule_71 rfl rfl ?_
          refine s_mga dM_rule_72 gf_M_43 rfl ?_
          refine s_aload_n dM_rule_75 rfl rfl ?_
          refine s_mgi dM_rule_76 gf_M_138 rfl ?_
          refine s_top hN ?_
          refine s_bipush (v := (-4)) dM_rule_79 (by decide) ?_
          refine s_mast dM_rule_81 rfl rfl (show _ < 60 by omega) rfl ?_
          refine s_aload_n dM_rule_82 rfl rfl ?_
          refine s_dup dM_rule_83 rfl ?_
          refine s_mgi dM_rule_84 gf_M_138 rfl ?_
          refine s_top hN ?_
          refine s_iconst (v := nI 1) dM_rule_87 (by decide) ?_
          first | refine s_iaddN dM_rule_88 ?_ | refine s_iadd dM_rule_88 ?_
          refine s_mpi dM_rule_89 gf_M_138 rfl rfl (by first | exact ⟨_, rfl⟩ | exact Or.inl rfl | exact Or.inr rfl) ?_
          refine s_aload_n dM_rule_92 rfl rfl ?_
          refine s_mgi dM_rule_93 gf_M_138 rfl ?_
          refine s_top (show _ = nI (N + 1) from rfl) ?_
          refine s_iconst (v := nI 1) dM_rule_96 (by decide) ?_
          first | refine s_isubN dM_rule_97 (by omega) ?_ | refine s_isub dM_rule_97 ?_
          refine s_iret dM_rule_98 rfl (by first | exact Nat.le_refl _ | decide | omega) (by first | exact Nat.le_refl _ | decide | omega) ?_
          rw [if_neg h20]
          exact ⟨by first | rfl | rw [nI_pred], rfl⟩
