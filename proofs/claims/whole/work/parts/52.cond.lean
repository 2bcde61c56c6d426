/-! condition, does, order, row -/
/-- a scene -/
def scC (h : Hp) (σ : Sg) (s : Nat) : Prop := h (41, s, 0) = some (7, 0, fl [vI (zi (decide (σ 41 s = 1))), vI (σ 42 s), vI (σ 43 s), vR (42, s, 0), vR (42, s, 1)]) ∧ ∃ f g, h (42, s, 0) = some (20, 2, f) ∧ h (42, s, 1) = some (20, 2, g) ∧ ∀ e, e < 2 → f e = vI (σ 44 (2 * s + e)) ∧ g e = vI (σ 45 (2 * s + e))
def nC (h : Hp) (σ : Sg) (NS : Nat) : Prop := (h (38, 0, 0) = some (8, 0, fl [vR (12, 0, 0), vR (39, 0, 0), vR (38, 1, 0), vI (σ 49 0), vI (σ 47 0)]) ∧ ∃ f, h (38, 1, 0) = some (20, 16, f) ∧ ∀ i, i < nt (σ 49 0) → f i = vI (σ 48 i)) ∧ LsT h (39, 0, 0) (nmL 41 NS) ∧ (∀ s, s < NS → scC h σ s) ∧ ∀ s, NS ≤ s → ∀ c, h (41, s, c) = none ∧ h (42, s, c) = none
theorem nC.fr {h h' : Hp} {σ σ' : Sg} {NS : Nat} (I : nC h σ NS) (h1 : agT 38 42 h h') (h2 : ∀ k j, 41 ≤ k → k ≤ 49 → k ≠ 46 → σ' k j = σ k j) : nC h' σ' NS := by
  obtain ⟨⟨e1, f, e2, e3⟩, e4, e5, e6⟩ := I
  have g49 := h2 49 0 (by omega) (by omega) (by omega)
  have g47 := h2 47 0 (by omega) (by omega) (by omega)
  refine ⟨⟨by rw [h1.g 38 0 0, g49, g47]; exact e1, f, by rw [h1.g 38 1 0]; exact e2, fun i q1 => by rw [h2 48 i (by omega) (by omega) (by omega)]; rw [g49] at q1; exact e3 i q1⟩, e4.ag (h1.s (by decide) (by decide)), fun s q1 => ?_, fun s q1 c => by rw [h1.g 41 s c, h1.g 42 s c]; exact e6 s q1 c⟩
  obtain ⟨a1, fx, gx, a2, a3, a4⟩ := e5 s q1
  refine ⟨?_, fx, gx, by rw [h1.g 42 s 0]; exact a2, by rw [h1.g 42 s 1]; exact a3, fun e q2 => ?_⟩
  · rw [h1.g 41 s 0, h2 41 s (by omega) (by omega) (by omega), h2 42 s (by omega) (by omega) (by omega), h2 43 s (by omega) (by omega) (by omega)]; exact a1
  · rw [h2 44 _ (by omega) (by omega) (by omega), h2 45 _ (by omega) (by omega) (by omega)]; exact a4 e q2
theorem c_Scs_has {h : Hp} {σ : Sg} {NS : Nat} {r p : Int32} (I : nC h σ NS) (hN : NS ≤ 8) (hz : Iy r p NS) : ConF mScs_has 1 [vR (38, 0, 0), vI p] h (some (vI r)) h := by
  have e1 := I.1.1
  have cs := c_size I.2.1
  rw [nmL_len] at cs
  obtain ⟨cap, z, f, e2, -⟩ := id I.2.1
  refine c_enter (by decide +kernel) rfl rfl ?_
  rcases hz with ⟨rfl, j, hj, rfl⟩ | ⟨rfl, hn⟩
  · refine s_iload_n dScs_has_0 rfl rfl ?_
    refine s_if_lt dScs_has_1 (fun q => absurd q (nI_nlt (b := 0) (by omega) (by omega))) (fun _ => ?_)
    refine s_iload_n dScs_has_4 rfl rfl ?_
    refine s_aload_n dScs_has_5 rfl rfl ?_
    refine s_get dScs_has_6 gf_Scs_12 (by repeat (first | exact up_self | assumption | rw [up_ne (by first | assumption | (intro q0; cases q0; done) | (intro q0; simp at q0; omega))])) ?_
    refine s_v0 dScs_has_9 cv_Scs_25 (by repeat (first | exact up_self | assumption | rw [up_ne (by first | assumption | (intro q0; cases q0; done) | (intro q0; simp at q0; omega))])) (cs) rfl rfl rfl rfl ?_
    refine s_icmp_ge dScs_has_12 (fun q => absurd q (nI_ge hj (by omega))) (fun _ => ?_)
    refine s_iconst (v := 1) dScs_has_15 (by decide) ?_
    refine s_goto dScs_has_16 ?_
    refine s_zret dScs_has_20 rfl (by first | exact Or.inl rfl | exact Or.inr rfl | assumption) (by first | exact Nat.le_refl _ | decide | omega) (by first | exact Nat.le_refl _ | decide | omega) ?_
    exact ⟨rfl, rfl⟩
  · by_cases c1 : p < 0
    · refine s_iload_n dScs_has_0 rfl rfl ?_
      refine s_if_lt dScs_has_1 (fun _ => ?_) (fun q => absurd c1 q)
      refine s_iconst (v := 0) dScs_has_19 (by decide) ?_
      refine s_zret dScs_has_20 rfl (by first | exact Or.inl rfl | exact Or.inr rfl | assumption) (by first | exact Nat.le_refl _ | decide | omega) (by first | exact Nat.le_refl _ | decide | omega) ?_
      exact ⟨rfl, rfl⟩
    · refine s_iload_n dScs_has_0 rfl rfl ?_
      refine s_if_lt dScs_has_1 (fun q => absurd q c1) (fun _ => ?_)
      refine s_iload_n dScs_has_4 rfl rfl ?_
      refine s_aload_n dScs_has_5 rfl rfl ?_
      refine s_get dScs_has_6 gf_Scs_12 (by repeat (first | exact up_self | assumption | rw [up_ne (by first | assumption | (intro q0; cases q0; done) | (intro q0; simp at q0; omega))])) ?_
      refine s_v0 dScs_has_9 cv_Scs_25 (by repeat (first | exact up_self | assumption | rw [up_ne (by first | assumption | (intro q0; cases q0; done) | (intro q0; simp at q0; omega))])) (cs) rfl rfl rfl rfl ?_
      refine s_icmp_ge dScs_has_12 (fun _ => ?_) (fun q => absurd (Int32.not_lt.mp fun z1 => hn ⟨Int32.not_lt.mp c1, z1⟩) q)
      refine s_iconst (v := 0) dScs_has_19 (by decide) ?_
      refine s_zret dScs_has_20 rfl (by first | exact Or.inl rfl | exact Or.inr rfl | assumption) (by first | exact Nat.le_refl _ | decide | omega) (by first | exact Nat.le_refl _ | decide | omega) ?_
      exact ⟨rfl, rfl⟩
theorem cd_cases (c : Int32) : (∃ n b, c = nI n ∧ n < 17 ∧ (n ≤ 6 ∧ b = n ∨ 10 ≤ n ∧ b = n - 10) ∧ b ≤ 6 ∧ b = bs n ∧ cdB c = some b) ∨ (cdB c = none ∧ ((c < nI 10 ∧ (c.toInt < 0 ∨ 6 < c.toInt)) ∨ (nI 10 ≤ c ∧ 6 < (c - nI 10).toInt))) := by
  rcases iy_cases c (K := 17) (by omega) with ⟨q1, hz⟩ | ⟨n, hn, rfl, q1⟩
  · right
    refine ⟨by unfold cdB; rw [q1], ?_⟩
    rcases hz with ⟨z1, -⟩ | ⟨-, hz⟩
    · cases z1
    · by_cases c1 : c < 0
      · left
        have c2 := Int32.lt_iff_toInt_lt.mp c1
        have e0 : (0 : Int32).toInt = 0 := by decide
        rw [e0] at c2
        refine ⟨?_, Or.inl c2⟩
        rw [Int32.lt_iff_toInt_lt, nI_toInt (by omega)]
        omega
      · right
        have c3 : nI 17 ≤ c := Int32.not_lt.mp fun z1 => hz ⟨Int32.not_lt.mp c1, z1⟩
        have c4 := i32_sub10 c3
        rw [Int32.lt_iff_toInt_lt, nI_toInt (by omega)] at c4
        refine ⟨?_, by omega⟩
        rw [Int32.le_iff_toInt_le, nI_toInt (by omega)] at c3 ⊢
        omega
  · by_cases c1 : n ≤ 6
    · exact Or.inl ⟨n, n, rfl, hn, Or.inl ⟨c1, rfl⟩, c1, (if_neg (by omega)).symm, by unfold cdB; rw [q1]; simp [c1]⟩
    · by_cases c2 : n < 10
      · right
        refine ⟨by unfold cdB; rw [q1]; simp [c1, c2], Or.inl ⟨nI_lt c2 (by omega), Or.inr ?_⟩⟩
        rw [nI_toInt (by omega)]
        omega
      · exact Or.inl ⟨n, n - 10, rfl, hn, Or.inr ⟨by omega, rfl⟩, by omega, (if_pos (by omega)).symm, by unfold cdB; rw [q1]; simp [c1, c2]⟩
theorem c_isCond {h : Hp} {σ : Sg} {K R NS j : Nat} {a v o tb : Int32} (c x : Int32) (M1 : mnC h a v o tb) (Ik : kC h σ K) (hK : K ≤ 20) (In : nC h σ NS) (hNS : NS ≤ 8) (Ir : rC h σ R) (hR : R ≤ 60) (hj : j < R) :
    ConF mX_isConditionOf 4 [vR (10, 0, 0), vR (28, j, 0), vI c, vI x] h (some (vI (zi (match cdB c with | some b => cdX σ b j x K R NS | none => false)))) h := by
  have M0 := M1
  unfold mnC at M1
  have ek := Ik.1
  have en := In.1.1
  obtain ⟨⟨bj, hwj, mkj, ebj, hbj, ej, -⟩, -⟩ := Ir.2.1 j hj
  unfold ruL at ej
  have K14 : ∀ b, b ≤ 6 → S mX_isConditionOf 4 0 0 (fun v' h' => v' = some (vI (zi (cdX σ b j x K R NS))) ∧ h' = h) 14 [some (vR (10, 0, 0)), some (vR (28, j, 0)), some (vI c), some (vI x), none] [vI (nI b)] h 0 0 := by
    intro b hb
    rcases (show b = 0 ∨ (1 ≤ b ∧ b < 5) ∨ b = 5 ∨ b = 6 by omega) with rfl | ⟨h1, h2⟩ | rfl | rfl
    · rcases iy_cases x (K := K) (by omega) with ⟨q1, hz⟩ | ⟨i, hi, rfl, q1⟩
      · have ex : cdX σ 0 j x K R NS = false := by simp [cdX, q1]
        rw [ex]
        refine s_tabIn (off := 42) (tgt := 56) dX_isConditionOf_14 (by decide +kernel) (by decide +kernel) (by decide +kernel) (by decide) ?_
        refine s_aload_n dX_isConditionOf_56 rfl rfl ?_
        refine s_get dX_isConditionOf_57 gf_X_10 (by repeat (first | exact up_self | assumption | rw [up_ne (by first | assumption | (intro q0; cases q0; done) | (intro q0; simp at q0; omega))])) ?_
        refine s_iload_n dX_isConditionOf_60 rfl rfl ?_
        refine s_v1 dX_isConditionOf_61 cv_X_75 (by repeat (first | exact up_self | assumption | rw [up_ne (by first | assumption | (intro q0; cases q0; done) | (intro q0; simp at q0; omega))])) (c_has Ik hK hz) rfl rfl rfl rfl ?_
        refine s_zret dX_isConditionOf_64 rfl (by first | exact Or.inl rfl | exact Or.inr rfl | assumption) (by first | exact Nat.le_refl _ | decide | omega) (by first | exact Nat.le_refl _ | decide | omega) ?_
        exact ⟨rfl, rfl⟩
      · have ex : cdX σ 0 j (nI i) K R NS = true := by simp [cdX, q1]
        rw [ex]
        refine s_tabIn (off := 42) (tgt := 56) dX_isConditionOf_14 (by decide +kernel) (by decide +kernel) (by decide +kernel) (by decide) ?_
        refine s_aload_n dX_isConditionOf_56 rfl rfl ?_
        refine s_get dX_isConditionOf_57 gf_X_10 (by repeat (first | exact up_self | assumption | rw [up_ne (by first | assumption | (intro q0; cases q0; done) | (intro q0; simp at q0; omega))])) ?_
        refine s_iload_n dX_isConditionOf_60 rfl rfl ?_
        refine s_v1 dX_isConditionOf_61 cv_X_75 (by repeat (first | exact up_self | assumption | rw [up_ne (by first | assumption | (intro q0; cases q0; done) | (intro q0; simp at q0; omega))])) (c_has Ik hK (Iy1 hi)) rfl rfl rfl rfl ?_
        refine s_zret dX_isConditionOf_64 rfl (by first | exact Or.inl rfl | exact Or.inr rfl | assumption) (by first | exact Nat.le_refl _ | decide | omega) (by first | exact Nat.le_refl _ | decide | omega) ?_
        exact ⟨rfl, rfl⟩
    · have K65 : S mX_isConditionOf 4 0 0 (fun v' h' => v' = some (vI (zi (cdX σ b j x K R NS))) ∧ h' = h) 65 [some (vR (10, 0, 0)), some (vR (28, j, 0)), some (vI c), some (vI x), none] [] h 0 0 := by
        rcases iy_cases x (K := 4) (by omega) with ⟨q1, hz⟩ | ⟨i, hi, rfl, q1⟩
        · have ex : cdX σ b j x K R NS = false := by simp [cdX, q1, h2, show b ≠ 0 by omega]
          rw [ex]
          refine s_iload_n dX_isConditionOf_65 rfl rfl ?_
          refine s_t1 dX_isConditionOf_66 cs_X_107 (c_isSlot hz) rfl rfl rfl rfl ?_
          refine s_zret dX_isConditionOf_69 rfl (by first | exact Or.inl rfl | exact Or.inr rfl | assumption) (by first | exact Nat.le_refl _ | decide | omega) (by first | exact Nat.le_refl _ | decide | omega) ?_
          exact ⟨rfl, rfl⟩
        · have ex : cdX σ b j (nI i) K R NS = true := by simp [cdX, q1, h2, show b ≠ 0 by omega]
          rw [ex]
          refine s_iload_n dX_isConditionOf_65 rfl rfl ?_
          refine s_t1 dX_isConditionOf_66 cs_X_107 (c_isSlot (Iy1 hi)) rfl rfl rfl rfl ?_
          refine s_zret dX_isConditionOf_69 rfl (by first | exact Or.inl rfl | exact Or.inr rfl | assumption) (by first | exact Nat.le_refl _ | decide | omega) (by first | exact Nat.le_refl _ | decide | omega) ?_
          exact ⟨rfl, rfl⟩
      rcases (show b = 1 ∨ b = 2 ∨ b = 3 ∨ b = 4 by omega) with rfl | rfl | rfl | rfl
      · refine s_tabIn (off := 51) (tgt := 65) dX_isConditionOf_14 (by decide +kernel) (by decide +kernel) (by decide +kernel) (by decide) ?_
        exact K65
      · refine s_tabIn (off := 51) (tgt := 65) dX_isConditionOf_14 (by decide +kernel) (by decide +kernel) (by decide +kernel) (by decide) ?_
        exact K65
      · refine s_tabIn (off := 51) (tgt := 65) dX_isConditionOf_14 (by decide +kernel) (by decide +kernel) (by decide +kernel) (by decide) ?_
        exact K65
      · refine s_tabIn (off := 51) (tgt := 65) dX_isConditionOf_14 (by decide +kernel) (by decide +kernel) (by decide +kernel) (by decide) ?_
        exact K65
    · rcases iy_cases x (K := NS) (by omega) with ⟨q1, hz⟩ | ⟨i, hi, rfl, q1⟩
      · have ex : cdX σ 5 j x K R NS = false := by simp [cdX, q1]
        rw [ex]
        refine s_tabIn (off := 56) (tgt := 70) dX_isConditionOf_14 (by decide +kernel) (by decide +kernel) (by decide +kernel) (by decide) ?_
        refine s_aload_n dX_isConditionOf_70 rfl rfl ?_
        refine s_get dX_isConditionOf_71 gf_X_49 (by repeat (first | exact up_self | assumption | rw [up_ne (by first | assumption | (intro q0; cases q0; done) | (intro q0; simp at q0; omega))])) ?_
        refine s_iload_n dX_isConditionOf_74 rfl rfl ?_
        refine s_v1 dX_isConditionOf_75 cv_X_164 (by repeat (first | exact up_self | assumption | rw [up_ne (by first | assumption | (intro q0; cases q0; done) | (intro q0; simp at q0; omega))])) (c_Scs_has In hNS hz) rfl rfl rfl rfl ?_
        refine s_zret dX_isConditionOf_78 rfl (by first | exact Or.inl rfl | exact Or.inr rfl | assumption) (by first | exact Nat.le_refl _ | decide | omega) (by first | exact Nat.le_refl _ | decide | omega) ?_
        exact ⟨rfl, rfl⟩
      · have ex : cdX σ 5 j (nI i) K R NS = true := by simp [cdX, q1]
        rw [ex]
        refine s_tabIn (off := 56) (tgt := 70) dX_isConditionOf_14 (by decide +kernel) (by decide +kernel) (by decide +kernel) (by decide) ?_
        refine s_aload_n dX_isConditionOf_70 rfl rfl ?_
        refine s_get dX_isConditionOf_71 gf_X_49 (by repeat (first | exact up_self | assumption | rw [up_ne (by first | assumption | (intro q0; cases q0; done) | (intro q0; simp at q0; omega))])) ?_
        refine s_iload_n dX_isConditionOf_74 rfl rfl ?_
        refine s_v1 dX_isConditionOf_75 cv_X_164 (by repeat (first | exact up_self | assumption | rw [up_ne (by first | assumption | (intro q0; cases q0; done) | (intro q0; simp at q0; omega))])) (c_Scs_has In hNS (Iy1 hi)) rfl rfl rfl rfl ?_
        refine s_zret dX_isConditionOf_78 rfl (by first | exact Or.inl rfl | exact Or.inr rfl | assumption) (by first | exact Nat.le_refl _ | decide | omega) (by first | exact Nat.le_refl _ | decide | omega) ?_
        exact ⟨rfl, rfl⟩
    · rcases iy_cases x (K := R) (by omega) with ⟨q1, hz⟩ | ⟨i, hi, rfl, q1⟩
      · have ex : cdX σ 6 j x K R NS = false := by simp [cdX, q1]
        rw [ex]
        refine s_tabIn (off := 65) (tgt := 79) dX_isConditionOf_14 (by decide +kernel) (by decide +kernel) (by decide +kernel) (by decide) ?_
        refine s_aload_n dX_isConditionOf_79 rfl rfl ?_
        refine s_iload_n dX_isConditionOf_80 rfl rfl ?_
        refine s_v1 dX_isConditionOf_81 cv_X_135 (by repeat (first | exact up_self | assumption | rw [up_ne (by first | assumption | (intro q0; cases q0; done) | (intro q0; simp at q0; omega))])) (c_ruleNo M0 Ir hR hz) rfl rfl rfl rfl ?_
        refine s_astore dX_isConditionOf_84 rfl ?_
        refine s_aload dX_isConditionOf_86 rfl ?_
        refine s_ifnull dX_isConditionOf_88 (fun _ => ?_) (fun q => by obtain ⟨_, q⟩ := q; cases q)
        refine s_iconst (v := 0) dX_isConditionOf_107 (by decide) ?_
        refine s_zret dX_isConditionOf_108 rfl (by first | exact Or.inl rfl | exact Or.inr rfl | assumption) (by first | exact Nat.le_refl _ | decide | omega) (by first | exact Nat.le_refl _ | decide | omega) ?_
        exact ⟨rfl, rfl⟩
      · obtain ⟨⟨bi, hwi, mki, ebi, hbi, ei, -⟩, -⟩ := Ir.2.1 i hi
        unfold ruL at ei
        by_cases c1 : bi = bj
        · have ex : cdX σ 6 j (nI i) K R NS = true := by simp [cdX, q1, ebi, ebj, c1]
          rw [ex]
          refine s_tabIn (off := 65) (tgt := 79) dX_isConditionOf_14 (by decide +kernel) (by decide +kernel) (by decide +kernel) (by decide) ?_
          refine s_aload_n dX_isConditionOf_79 rfl rfl ?_
          refine s_iload_n dX_isConditionOf_80 rfl rfl ?_
          refine s_v1 dX_isConditionOf_81 cv_X_135 (by repeat (first | exact up_self | assumption | rw [up_ne (by first | assumption | (intro q0; cases q0; done) | (intro q0; simp at q0; omega))])) (c_ruleAt M0 Ir hR hi) rfl rfl rfl rfl ?_
          refine s_astore dX_isConditionOf_84 rfl ?_
          refine s_aload dX_isConditionOf_86 rfl ?_
          refine s_ifnull dX_isConditionOf_88 (fun q => by cases q) (fun _ => ?_)
          refine s_aload dX_isConditionOf_91 rfl ?_
          refine s_get dX_isConditionOf_93 gf_X_157 (by repeat (first | exact up_self | assumption | rw [up_ne (by first | assumption | (intro q0; cases q0; done) | (intro q0; simp at q0; omega))])) ?_
          refine s_aload_n dX_isConditionOf_96 rfl rfl ?_
          refine s_get dX_isConditionOf_97 gf_X_157 (by repeat (first | exact up_self | assumption | rw [up_ne (by first | assumption | (intro q0; cases q0; done) | (intro q0; simp at q0; omega))])) ?_
          refine s_acmp_ne dX_isConditionOf_100 (fun q => absurd (by rw [c1]) q) (fun _ => ?_)
          refine s_iconst (v := 1) dX_isConditionOf_103 (by decide) ?_
          refine s_goto dX_isConditionOf_104 ?_
          refine s_zret dX_isConditionOf_108 rfl (by first | exact Or.inl rfl | exact Or.inr rfl | assumption) (by first | exact Nat.le_refl _ | decide | omega) (by first | exact Nat.le_refl _ | decide | omega) ?_
          exact ⟨rfl, rfl⟩
        · have ex : cdX σ 6 j (nI i) K R NS = false := by
            have : ¬ nI bi = nI bj := nI_ne c1 (by omega) (by omega)
            simp [cdX, q1, ebi, ebj, this]
          rw [ex]
          refine s_tabIn (off := 65) (tgt := 79) dX_isConditionOf_14 (by decide +kernel) (by decide +kernel) (by decide +kernel) (by decide) ?_
          refine s_aload_n dX_isConditionOf_79 rfl rfl ?_
          refine s_iload_n dX_isConditionOf_80 rfl rfl ?_
          refine s_v1 dX_isConditionOf_81 cv_X_135 (by repeat (first | exact up_self | assumption | rw [up_ne (by first | assumption | (intro q0; cases q0; done) | (intro q0; simp at q0; omega))])) (c_ruleAt M0 Ir hR hi) rfl rfl rfl rfl ?_
          refine s_astore dX_isConditionOf_84 rfl ?_
          refine s_aload dX_isConditionOf_86 rfl ?_
          refine s_ifnull dX_isConditionOf_88 (fun q => by cases q) (fun _ => ?_)
          refine s_aload dX_isConditionOf_91 rfl ?_
          refine s_get dX_isConditionOf_93 gf_X_157 (by repeat (first | exact up_self | assumption | rw [up_ne (by first | assumption | (intro q0; cases q0; done) | (intro q0; simp at q0; omega))])) ?_
          refine s_aload_n dX_isConditionOf_96 rfl rfl ?_
          refine s_get dX_isConditionOf_97 gf_X_157 (by repeat (first | exact up_self | assumption | rw [up_ne (by first | assumption | (intro q0; cases q0; done) | (intro q0; simp at q0; omega))])) ?_
          refine s_acmp_ne dX_isConditionOf_100 (fun _ => ?_) (fun q => absurd q (fun q0 => c1 (by cases q0; rfl)))
          refine s_iconst (v := 0) dX_isConditionOf_107 (by decide) ?_
          refine s_zret dX_isConditionOf_108 rfl (by first | exact Or.inl rfl | exact Or.inr rfl | assumption) (by first | exact Nat.le_refl _ | decide | omega) (by first | exact Nat.le_refl _ | decide | omega) ?_
          exact ⟨rfl, rfl⟩
  refine c_enter (by decide +kernel) rfl rfl ?_
  rcases cd_cases c with ⟨n, b, rfl, hn, hb, hb6, -, ecd⟩ | ⟨ecd, hc⟩
  · rw [ecd]
    dsimp only
    rcases hb with ⟨h1, rfl⟩ | ⟨h1, rfl⟩
    · refine s_iload_n dX_isConditionOf_0 rfl rfl ?_
      refine s_bipush (v := nI 10) dX_isConditionOf_1 (by decide) ?_
      refine s_icmp_lt dX_isConditionOf_3 (fun _ => ?_) (fun q => absurd (nI_lt (show b < 10 by omega) (by omega)) q)
      refine s_iload_n dX_isConditionOf_13 rfl rfl ?_
      exact K14 b hb6
    · refine s_iload_n dX_isConditionOf_0 rfl rfl ?_
      refine s_bipush (v := nI 10) dX_isConditionOf_1 (by decide) ?_
      refine s_icmp_lt dX_isConditionOf_3 (fun q => absurd q (nI_nlt h1 (by omega))) (fun _ => ?_)
      refine s_iload_n dX_isConditionOf_6 rfl rfl ?_
      refine s_bipush (v := nI 10) dX_isConditionOf_7 (by decide) ?_
      first | refine s_isubN dX_isConditionOf_9 (by omega) ?_ | refine s_isub dX_isConditionOf_9 ?_
      refine s_goto dX_isConditionOf_10 ?_
      exact K14 (n - 10) hb6
  · rw [ecd]
    rcases hc with ⟨h1, h2⟩ | ⟨h1, h2⟩
    · refine s_iload_n dX_isConditionOf_0 rfl rfl ?_
      refine s_bipush (v := nI 10) dX_isConditionOf_1 (by decide) ?_
      refine s_icmp_lt dX_isConditionOf_3 (fun _ => ?_) (fun q => absurd h1 q)
      refine s_iload_n dX_isConditionOf_13 rfl rfl ?_
      refine s_tabOut (tgt := 109) dX_isConditionOf_14 (by rcases h2 with h2 | h2; exact Or.inl h2; exact Or.inr h2) (by decide) ?_
      refine s_iconst (v := 0) dX_isConditionOf_109 (by decide) ?_
      refine s_zret dX_isConditionOf_110 rfl (by first | exact Or.inl rfl | exact Or.inr rfl | assumption) (by first | exact Nat.le_refl _ | decide | omega) (by first | exact Nat.le_refl _ | decide | omega) ?_
      exact ⟨rfl, rfl⟩
    · refine s_iload_n dX_isConditionOf_0 rfl rfl ?_
      refine s_bipush (v := nI 10) dX_isConditionOf_1 (by decide) ?_
      refine s_icmp_lt dX_isConditionOf_3 (fun q => absurd q (Int32.not_lt.mpr h1)) (fun _ => ?_)
      refine s_iload_n dX_isConditionOf_6 rfl rfl ?_
      refine s_bipush (v := nI 10) dX_isConditionOf_7 (by decide) ?_
      first | refine s_isubN dX_isConditionOf_9 (by omega) ?_ | refine s_isub dX_isConditionOf_9 ?_
      refine s_goto dX_isConditionOf_10 ?_
      refine s_tabOut (tgt := 109) dX_isConditionOf_14 (Or.inr h2) (by decide) ?_
      refine s_iconst (v := 0) dX_isConditionOf_109 (by decide) ?_
      refine s_zret dX_isConditionOf_110 rfl (by first | exact Or.inl rfl | exact Or.inr rfl | assumption) (by first | exact Nat.le_refl _ | decide | omega) (by first | exact Nat.le_refl _ | decide | omega) ?_
      exact ⟨rfl, rfl⟩
theorem c_Cond_init {h : Hp} {r k n : Nat} {x y : Int32} (e1 : h (31, r, k) = some (1, 0, fl [vI 0, vI 0, vI 0, vI 0])) (hn : n < 17) :
    ConF mCond_init 1 [vR (31, r, k), vI (nI n), vI x, vI y] h none (up h (31, r, k) (1, 0, fl [vI (nI (bs n)), vI (zi (decide (10 ≤ n))), vI x, vI y])) := by
  refine c_enter (by decide +kernel) rfl rfl ?_
  by_cases c1 : 10 ≤ n
  · refine s_aload_n dCond_init_0 rfl rfl ?_
    refine s_objInit dCond_init_1 ob_Cond_3 rfl rfl ?_
    refine s_aload_n dCond_init_4 rfl rfl ?_
    refine s_iload_n dCond_init_5 rfl rfl ?_
    refine s_bipush (v := nI 10) dCond_init_6 (by decide) ?_
    refine s_icmp_lt dCond_init_8 (fun q => absurd q (nI_nlt c1 (by omega))) (fun _ => ?_)
    refine s_iconst (v := 1) dCond_init_11 (by decide) ?_
    refine s_goto dCond_init_12 ?_
    refine s_putF dCond_init_16 gf_Cond_9 (by repeat (first | exact up_self | assumption | rw [up_ne (by first | assumption | (intro q0; cases q0; done) | (intro q0; simp at q0; omega))])) (by first | rfl | assumption) rfl (by first | exact Or.inl rfl | exact Or.inr ⟨rfl, rfl⟩) (by first | exact ⟨_, rfl⟩ | exact Or.inl rfl | exact Or.inr rfl | assumption) ?_
    refine s_aload_n dCond_init_19 rfl rfl ?_
    refine s_aload_n dCond_init_20 rfl rfl ?_
    refine s_get dCond_init_21 gf_Cond_9 (by repeat (first | exact up_self | assumption | rw [up_ne (by first | assumption | (intro q0; cases q0; done) | (intro q0; simp at q0; omega))])) ?_
    refine s_if_eq dCond_init_24 (fun q => absurd q (by decide)) (fun _ => ?_)
    refine s_iload_n dCond_init_27 rfl rfl ?_
    refine s_bipush (v := nI 10) dCond_init_28 (by decide) ?_
    first | refine s_isubN dCond_init_30 (by omega) ?_ | refine s_isub dCond_init_30 ?_
    refine s_goto dCond_init_31 ?_
    refine s_putF dCond_init_35 gf_Cond_15 (by repeat (first | exact up_self | assumption | rw [up_ne (by first | assumption | (intro q0; cases q0; done) | (intro q0; simp at q0; omega))])) (by first | rfl | assumption) rfl (by first | exact Or.inl rfl | exact Or.inr ⟨rfl, rfl⟩) (by first | exact ⟨_, rfl⟩ | exact Or.inl rfl | exact Or.inr rfl | assumption) ?_
    refine s_aload_n dCond_init_38 rfl rfl ?_
    refine s_iload_n dCond_init_39 rfl rfl ?_
    refine s_putF dCond_init_40 gf_Cond_19 (by repeat (first | exact up_self | assumption | rw [up_ne (by first | assumption | (intro q0; cases q0; done) | (intro q0; simp at q0; omega))])) (by first | rfl | assumption) rfl (by first | exact Or.inl rfl | exact Or.inr ⟨rfl, rfl⟩) (by first | exact ⟨_, rfl⟩ | exact Or.inl rfl | exact Or.inr rfl | assumption) ?_
    refine s_aload_n dCond_init_43 rfl rfl ?_
    refine s_iload_n dCond_init_44 rfl rfl ?_
    refine s_putF dCond_init_45 gf_Cond_22 (by repeat (first | exact up_self | assumption | rw [up_ne (by first | assumption | (intro q0; cases q0; done) | (intro q0; simp at q0; omega))])) (by first | rfl | assumption) rfl (by first | exact Or.inl rfl | exact Or.inr ⟨rfl, rfl⟩) (by first | exact ⟨_, rfl⟩ | exact Or.inl rfl | exact Or.inr rfl | assumption) ?_
    refine s_vret dCond_init_48 rfl (by first | exact Nat.le_refl _ | decide | omega) (by first | exact Nat.le_refl _ | decide | omega) ?_
    refine ⟨rfl, ?_⟩
    simp only [up_up]
    rw [show bs n = n - 10 from if_pos c1, zi_dec.1 c1]
    rfl
  · refine s_aload_n dCond_init_0 rfl rfl ?_
    refine s_objInit dCond_init_1 ob_Cond_3 rfl rfl ?_
    refine s_aload_n dCond_init_4 rfl rfl ?_
    refine s_iload_n dCond_init_5 rfl rfl ?_
    refine s_bipush (v := nI 10) dCond_init_6 (by decide) ?_
    refine s_icmp_lt dCond_init_8 (fun _ => ?_) (fun q => absurd (nI_lt (by omega) (by omega)) q)
    refine s_iconst (v := 0) dCond_init_15 (by decide) ?_
    refine s_putF dCond_init_16 gf_Cond_9 (by repeat (first | exact up_self | assumption | rw [up_ne (by first | assumption | (intro q0; cases q0; done) | (intro q0; simp at q0; omega))])) (by first | rfl | assumption) rfl (by first | exact Or.inl rfl | exact Or.inr ⟨rfl, rfl⟩) (by first | exact ⟨_, rfl⟩ | exact Or.inl rfl | exact Or.inr rfl | assumption) ?_
    refine s_aload_n dCond_init_19 rfl rfl ?_
    refine s_aload_n dCond_init_20 rfl rfl ?_
    refine s_get dCond_init_21 gf_Cond_9 (by repeat (first | exact up_self | assumption | rw [up_ne (by first | assumption | (intro q0; cases q0; done) | (intro q0; simp at q0; omega))])) ?_
    refine s_if_eq dCond_init_24 (fun _ => ?_) (fun q => absurd rfl q)
    refine s_iload_n dCond_init_34 rfl rfl ?_
    refine s_putF dCond_init_35 gf_Cond_15 (by repeat (first | exact up_self | assumption | rw [up_ne (by first | assumption | (intro q0; cases q0; done) | (intro q0; simp at q0; omega))])) (by first | rfl | assumption) rfl (by first | exact Or.inl rfl | exact Or.inr ⟨rfl, rfl⟩) (by first | exact ⟨_, rfl⟩ | exact Or.inl rfl | exact Or.inr rfl | assumption) ?_
    refine s_aload_n dCond_init_38 rfl rfl ?_
    refine s_iload_n dCond_init_39 rfl rfl ?_
    refine s_putF dCond_init_40 gf_Cond_19 (by repeat (first | exact up_self | assumption | rw [up_ne (by first | assumption | (intro q0; cases q0; done) | (intro q0; simp at q0; omega))])) (by first | rfl | assumption) rfl (by first | exact Or.inl rfl | exact Or.inr ⟨rfl, rfl⟩) (by first | exact ⟨_, rfl⟩ | exact Or.inl rfl | exact Or.inr rfl | assumption) ?_
    refine s_aload_n dCond_init_43 rfl rfl ?_
    refine s_iload_n dCond_init_44 rfl rfl ?_
    refine s_putF dCond_init_45 gf_Cond_22 (by repeat (first | exact up_self | assumption | rw [up_ne (by first | assumption | (intro q0; cases q0; done) | (intro q0; simp at q0; omega))])) (by first | rfl | assumption) rfl (by first | exact Or.inl rfl | exact Or.inr ⟨rfl, rfl⟩) (by first | exact ⟨_, rfl⟩ | exact Or.inl rfl | exact Or.inr rfl | assumption) ?_
    refine s_vret dCond_init_48 rfl (by first | exact Nat.le_refl _ | decide | omega) (by first | exact Nat.le_refl _ | decide | omega) ?_
    refine ⟨rfl, ?_⟩
    simp only [up_up]
    rw [show bs n = n from if_neg c1, zi_dec.2 c1]
    rfl
theorem c_isDeed {h : Hp} {σ : Sg} {B : Nat} {own od rw0 : Nat → List Nat} {a v o tb : Int32} (c x y : Int32) (M1 : mnC h a v o tb) (Ib : bC h σ B own od rw0) (hB : B ≤ 12) :
    ConF mX_isDeed 4 [vR (10, 0, 0), vI c, vI x, vI y] h (some (vI (zi (match ix c 9 with | some n => deed n x y B | none => false)))) h := by
  have M0 := M1
  unfold mnC at M1
  refine c_enter (by decide +kernel) rfl rfl ?_
  rcases iy_cases c (K := 9) (by omega) with ⟨q1, hz⟩ | ⟨n, hn, rfl, q1⟩
  · rw [q1]
    have h1 : c.toInt < 0 ∨ 8 < c.toInt := by
      rcases hz with ⟨z1, -⟩ | ⟨-, hz⟩
      · cases z1
      · by_cases c1 : c < 0
        · left
          have c2 := Int32.lt_iff_toInt_lt.mp c1
          have e0 : (0 : Int32).toInt = 0 := by decide
          omega
        · right
          have c3 : nI 9 ≤ c := Int32.not_lt.mp fun z1 => hz ⟨Int32.not_lt.mp c1, z1⟩
          rw [Int32.le_iff_toInt_le, nI_toInt (by omega)] at c3
          omega
    refine s_iload_n dX_isDeed_0 rfl rfl ?_
    refine s_tabOut (tgt := 110) dX_isDeed_1 (by rcases h1 with h1 | h1; exact Or.inl h1; exact Or.inr h1) (by decide) ?_
    refine s_iconst (v := 0) dX_isDeed_110 (by decide) ?_
    refine s_zret dX_isDeed_111 rfl (by first | exact Or.inl rfl | exact Or.inr rfl | assumption) (by first | exact Nat.le_refl _ | decide | omega) (by first | exact Nat.le_refl _ | decide | omega) ?_
    exact ⟨rfl, rfl⟩
  · rw [q1]
    dsimp only
    have K71 : (n = 2 ∨ n = 3) → S mX_isDeed 4 0 0 (fun v' h' => v' = some (vI (zi (deed n x y B))) ∧ h' = h) 71 [some (vR (10, 0, 0)), some (vI (nI n)), some (vI x), some (vI y)] [] h 0 0 := by
      intro hn2
      rcases iy_cases x (K := 4) (by omega) with ⟨q2, hz⟩ | ⟨i, hi, rfl, q2⟩
      · have ex : deed n x y B = false := by rcases hn2 with rfl | rfl <;> simp [deed, q2]
        rw [ex]
        refine s_iload_n dX_isDeed_71 rfl rfl ?_
        refine s_t1 dX_isDeed_72 cs_X_107 (c_isSlot hz) rfl rfl rfl rfl ?_
        refine s_zret dX_isDeed_75 rfl (by first | exact Or.inl rfl | exact Or.inr rfl | assumption) (by first | exact Nat.le_refl _ | decide | omega) (by first | exact Nat.le_refl _ | decide | omega) ?_
        exact ⟨rfl, rfl⟩
      · have ex : deed n (nI i) y B = true := by rcases hn2 with rfl | rfl <;> simp [deed, q2]
        rw [ex]
        refine s_iload_n dX_isDeed_71 rfl rfl ?_
        refine s_t1 dX_isDeed_72 cs_X_107 (c_isSlot (Iy1 hi)) rfl rfl rfl rfl ?_
        refine s_zret dX_isDeed_75 rfl (by first | exact Or.inl rfl | exact Or.inr rfl | assumption) (by first | exact Nat.le_refl _ | decide | omega) (by first | exact Nat.le_refl _ | decide | omega) ?_
        exact ⟨rfl, rfl⟩
    have K76 : (n = 4 ∨ n = 8) → S mX_isDeed 4 0 0 (fun v' h' => v' = some (vI (zi (deed n x y B))) ∧ h' = h) 76 [some (vR (10, 0, 0)), some (vI (nI n)), some (vI x), some (vI y)] [] h 0 0 := by
      intro hn2
      rcases iy_cases x (K := 4) (by omega) with ⟨q2, hz⟩ | ⟨i, hi, rfl, q2⟩
      · have ex : deed n x y B = false := by rcases hn2 with rfl | rfl <;> simp [deed, q2]
        rw [ex]
        refine s_iload_n dX_isDeed_76 rfl rfl ?_
        refine s_t1 dX_isDeed_77 cs_X_107 (c_isSlot hz) rfl rfl rfl rfl ?_
        refine s_if_eq dX_isDeed_80 (fun _ => ?_) (fun q => absurd rfl q)
        refine s_iconst (v := 0) dX_isDeed_94 (by decide) ?_
        refine s_zret dX_isDeed_95 rfl (by first | exact Or.inl rfl | exact Or.inr rfl | assumption) (by first | exact Nat.le_refl _ | decide | omega) (by first | exact Nat.le_refl _ | decide | omega) ?_
        exact ⟨rfl, rfl⟩
      · rcases iy_cases y (K := 4) (by omega) with ⟨q3, hz⟩ | ⟨i2, hi2, rfl, q3⟩
        · have ex : deed n (nI i) y B = false := by rcases hn2 with rfl | rfl <;> simp [deed, q2, q3]
          rw [ex]
          refine s_iload_n dX_isDeed_76 rfl rfl ?_
          refine s_t1 dX_isDeed_77 cs_X_107 (c_isSlot (Iy1 hi)) rfl rfl rfl rfl ?_
          refine s_if_eq dX_isDeed_80 (fun q => absurd q (by decide)) (fun _ => ?_)
          refine s_iload_n dX_isDeed_83 rfl rfl ?_
          refine s_t1 dX_isDeed_84 cs_X_107 (c_isSlot hz) rfl rfl rfl rfl ?_
          refine s_if_eq dX_isDeed_87 (fun _ => ?_) (fun q => absurd rfl q)
          refine s_iconst (v := 0) dX_isDeed_94 (by decide) ?_
          refine s_zret dX_isDeed_95 rfl (by first | exact Or.inl rfl | exact Or.inr rfl | assumption) (by first | exact Nat.le_refl _ | decide | omega) (by first | exact Nat.le_refl _ | decide | omega) ?_
          exact ⟨rfl, rfl⟩
        · have ex : deed n (nI i) (nI i2) B = true := by rcases hn2 with rfl | rfl <;> simp [deed, q2, q3]
          rw [ex]
          refine s_iload_n dX_isDeed_76 rfl rfl ?_
          refine s_t1 dX_isDeed_77 cs_X_107 (c_isSlot (Iy1 hi)) rfl rfl rfl rfl ?_
          refine s_if_eq dX_isDeed_80 (fun q => absurd q (by decide)) (fun _ => ?_)
          refine s_iload_n dX_isDeed_83 rfl rfl ?_
          refine s_t1 dX_isDeed_84 cs_X_107 (c_isSlot (Iy1 hi2)) rfl rfl rfl rfl ?_
          refine s_if_eq dX_isDeed_87 (fun q => absurd q (by decide)) (fun _ => ?_)
          refine s_iconst (v := 1) dX_isDeed_90 (by decide) ?_
          refine s_goto dX_isDeed_91 ?_
          refine s_zret dX_isDeed_95 rfl (by first | exact Or.inl rfl | exact Or.inr rfl | assumption) (by first | exact Nat.le_refl _ | decide | omega) (by first | exact Nat.le_refl _ | decide | omega) ?_
          exact ⟨rfl, rfl⟩
    have K96 : (n = 5 ∨ n = 6) → S mX_isDeed 4 0 0 (fun v' h' => v' = some (vI (zi (deed n x y B))) ∧ h' = h) 96 [some (vR (10, 0, 0)), some (vI (nI n)), some (vI x), some (vI y)] [] h 0 0 := by
      intro hn2
      rcases iy_cases x (K := B) (by omega) with ⟨q2, hz⟩ | ⟨i, hi, rfl, q2⟩
      · have ex : deed n x y B = false := by rcases hn2 with rfl | rfl <;> simp [deed, q2]
        rw [ex]
        refine s_aload_n dX_isDeed_96 rfl rfl ?_
        refine s_iload_n dX_isDeed_97 rfl rfl ?_
        refine s_v1 dX_isDeed_98 cv_X_116 (by repeat (first | exact up_self | assumption | rw [up_ne (by first | assumption | (intro q0; cases q0; done) | (intro q0; simp at q0; omega))])) (c_bookNo M0 Ib hB hz) rfl rfl rfl rfl ?_
        refine s_ifnull dX_isDeed_101 (fun _ => ?_) (fun q => by obtain ⟨_, q⟩ := q; cases q)
        refine s_iconst (v := 0) dX_isDeed_108 (by decide) ?_
        refine s_zret dX_isDeed_109 rfl (by first | exact Or.inl rfl | exact Or.inr rfl | assumption) (by first | exact Nat.le_refl _ | decide | omega) (by first | exact Nat.le_refl _ | decide | omega) ?_
        exact ⟨rfl, rfl⟩
      · have ex : deed n (nI i) y B = true := by rcases hn2 with rfl | rfl <;> simp [deed, q2]
        rw [ex]
        refine s_aload_n dX_isDeed_96 rfl rfl ?_
        refine s_iload_n dX_isDeed_97 rfl rfl ?_
        refine s_v1 dX_isDeed_98 cv_X_116 (by repeat (first | exact up_self | assumption | rw [up_ne (by first | assumption | (intro q0; cases q0; done) | (intro q0; simp at q0; omega))])) (c_bookAt M0 Ib hB hi) rfl rfl rfl rfl ?_
        refine s_ifnull dX_isDeed_101 (fun q => by cases q) (fun _ => ?_)
        refine s_iconst (v := 1) dX_isDeed_104 (by decide) ?_
        refine s_goto dX_isDeed_105 ?_
        refine s_zret dX_isDeed_109 rfl (by first | exact Or.inl rfl | exact Or.inr rfl | assumption) (by first | exact Nat.le_refl _ | decide | omega) (by first | exact Nat.le_refl _ | decide | omega) ?_
        exact ⟨rfl, rfl⟩
    rcases (show n = 0 ∨ n = 1 ∨ n = 2 ∨ n = 3 ∨ n = 4 ∨ n = 5 ∨ n = 6 ∨ n = 7 ∨ n = 8 by omega) with rfl | rfl | rfl | rfl | rfl | rfl | rfl | rfl | rfl
    · refine s_iload_n dX_isDeed_0 rfl rfl ?_
      refine s_tabIn (off := 51) (tgt := 52) dX_isDeed_1 (by decide +kernel) (by decide +kernel) (by decide +kernel) (by decide) ?_
      refine s_iconst (v := 1) dX_isDeed_52 (by decide) ?_
      refine s_zret dX_isDeed_53 rfl (by first | exact Or.inl rfl | exact Or.inr rfl | assumption) (by first | exact Nat.le_refl _ | decide | omega) (by first | exact Nat.le_refl _ | decide | omega) ?_
      exact ⟨rfl, rfl⟩
    · by_cases c1 : x < 1
      · have ex : deed 1 x y B = false := by
          have : ¬ (1 ≤ x ∧ x ≤ nI 99) := fun z1 => absurd c1 (Int32.not_lt.mpr z1.1)
          simp only [deed, if_true]
          exact decide_eq_false this
        rw [ex]
        refine s_iload_n dX_isDeed_0 rfl rfl ?_
        refine s_tabIn (off := 53) (tgt := 54) dX_isDeed_1 (by decide +kernel) (by decide +kernel) (by decide +kernel) (by decide) ?_
        refine s_iload_n dX_isDeed_54 rfl rfl ?_
        refine s_iconst (v := 1) dX_isDeed_55 (by decide) ?_
        refine s_icmp_lt dX_isDeed_56 (fun _ => ?_) (fun q => absurd c1 q)
        refine s_iconst (v := 0) dX_isDeed_69 (by decide) ?_
        refine s_zret dX_isDeed_70 rfl (by first | exact Or.inl rfl | exact Or.inr rfl | assumption) (by first | exact Nat.le_refl _ | decide | omega) (by first | exact Nat.le_refl _ | decide | omega) ?_
        exact ⟨rfl, rfl⟩
      · by_cases c2 : nI 99 < x
        · have ex : deed 1 x y B = false := by
            have : ¬ (1 ≤ x ∧ x ≤ nI 99) := fun z1 => absurd c2 (Int32.not_lt.mpr z1.2)
            simp only [deed, if_true]
            exact decide_eq_false this
          rw [ex]
          refine s_iload_n dX_isDeed_0 rfl rfl ?_
          refine s_tabIn (off := 53) (tgt := 54) dX_isDeed_1 (by decide +kernel) (by decide +kernel) (by decide +kernel) (by decide) ?_
          refine s_iload_n dX_isDeed_54 rfl rfl ?_
          refine s_iconst (v := 1) dX_isDeed_55 (by decide) ?_
          refine s_icmp_lt dX_isDeed_56 (fun q => absurd q c1) (fun _ => ?_)
          refine s_iload_n dX_isDeed_59 rfl rfl ?_
          refine s_bipush (v := nI 99) dX_isDeed_60 (by decide) ?_
          refine s_icmp_gt dX_isDeed_62 (fun _ => ?_) (fun q => absurd c2 q)
          refine s_iconst (v := 0) dX_isDeed_69 (by decide) ?_
          refine s_zret dX_isDeed_70 rfl (by first | exact Or.inl rfl | exact Or.inr rfl | assumption) (by first | exact Nat.le_refl _ | decide | omega) (by first | exact Nat.le_refl _ | decide | omega) ?_
          exact ⟨rfl, rfl⟩
        · have ex : deed 1 x y B = true := by
            have : 1 ≤ x ∧ x ≤ nI 99 := ⟨Int32.not_lt.mp c1, Int32.not_lt.mp c2⟩
            simp only [deed, if_true]
            exact decide_eq_true this
          rw [ex]
          refine s_iload_n dX_isDeed_0 rfl rfl ?_
          refine s_tabIn (off := 53) (tgt := 54) dX_isDeed_1 (by decide +kernel) (by decide +kernel) (by decide +kernel) (by decide) ?_
          refine s_iload_n dX_isDeed_54 rfl rfl ?_
          refine s_iconst (v := 1) dX_isDeed_55 (by decide) ?_
          refine s_icmp_lt dX_isDeed_56 (fun q => absurd q c1) (fun _ => ?_)
          refine s_iload_n dX_isDeed_59 rfl rfl ?_
          refine s_bipush (v := nI 99) dX_isDeed_60 (by decide) ?_
          refine s_icmp_gt dX_isDeed_62 (fun q => absurd q c2) (fun _ => ?_)
          refine s_iconst (v := 1) dX_isDeed_65 (by decide) ?_
          refine s_goto dX_isDeed_66 ?_
          refine s_zret dX_isDeed_70 rfl (by first | exact Or.inl rfl | exact Or.inr rfl | assumption) (by first | exact Nat.le_refl _ | decide | omega) (by first | exact Nat.le_refl _ | decide | omega) ?_
          exact ⟨rfl, rfl⟩
    · refine s_iload_n dX_isDeed_0 rfl rfl ?_
      refine s_tabIn (off := 70) (tgt := 71) dX_isDeed_1 (by decide +kernel) (by decide +kernel) (by decide +kernel) (by decide) ?_
      exact K71 (by omega)
    · refine s_iload_n dX_isDeed_0 rfl rfl ?_
      refine s_tabIn (off := 70) (tgt := 71) dX_isDeed_1 (by decide +kernel) (by decide +kernel) (by decide +kernel) (by decide) ?_
      exact K71 (by omega)
    · refine s_iload_n dX_isDeed_0 rfl rfl ?_
      refine s_tabIn (off := 75) (tgt := 76) dX_isDeed_1 (by decide +kernel) (by decide +kernel) (by decide +kernel) (by decide) ?_
      exact K76 (by omega)
    · refine s_iload_n dX_isDeed_0 rfl rfl ?_
      refine s_tabIn (off := 95) (tgt := 96) dX_isDeed_1 (by decide +kernel) (by decide +kernel) (by decide +kernel) (by decide) ?_
      exact K96 (by omega)
    · refine s_iload_n dX_isDeed_0 rfl rfl ?_
      refine s_tabIn (off := 95) (tgt := 96) dX_isDeed_1 (by decide +kernel) (by decide +kernel) (by decide +kernel) (by decide) ?_
      exact K96 (by omega)
    · refine s_iload_n dX_isDeed_0 rfl rfl ?_
      refine s_tabIn (off := 51) (tgt := 52) dX_isDeed_1 (by decide +kernel) (by decide +kernel) (by decide +kernel) (by decide) ?_
      refine s_iconst (v := 1) dX_isDeed_52 (by decide) ?_
      refine s_zret dX_isDeed_53 rfl (by first | exact Or.inl rfl | exact Or.inr rfl | assumption) (by first | exact Nat.le_refl _ | decide | omega) (by first | exact Nat.le_refl _ | decide | omega) ?_
      exact ⟨rfl, rfl⟩
    · refine s_iload_n dX_isDeed_0 rfl rfl ?_
      refine s_tabIn (off := 75) (tgt := 76) dX_isDeed_1 (by decide +kernel) (by decide +kernel) (by decide +kernel) (by decide) ?_
      exact K76 (by omega)
theorem c_X_row {h : Hp} {σ : Sg} {B R : Nat} {od : Nat → List Nat} {a v o tb : Int32} (p i : Int32) (M1 : mnC h a v o tb) (I : brC h σ B R od) (hB : B ≤ 12) (hR : R ≤ 60) (hod : odK σ R od) : ConF mX_row 4 [vR (10, 0, 0), vI p, vI i] h (some (vI (match ix p B with | none => -1 | some c => fRow (rowS σ c R (od c)) i))) h := by
  have M0 := M1
  unfold mnC at M1
  obtain ⟨Ib, Ir⟩ := I
  refine c_enter (by decide +kernel) rfl rfl ?_
  rcases iy_cases p (K := B) (by omega) with ⟨q1, hz1⟩ | ⟨j, hj, rfl, q1⟩
  · rw [q1]
    refine s_aload_n dX_row_0 rfl rfl ?_
    refine s_iload_n dX_row_1 rfl rfl ?_
    refine s_v1 dX_row_2 cv_X_116 (by repeat (first | exact up_self | assumption | rw [up_ne (by first | assumption | (intro q0; cases q0; done) | (intro q0; simp at q0; omega))])) (c_bookNo M0 Ib hB hz1) rfl rfl rfl rfl ?_
    refine s_astore_n dX_row_5 rfl rfl ?_
    refine s_aload_n dX_row_6 rfl rfl ?_
    refine s_ifnonnull dX_row_7 (fun q => by obtain ⟨_, q⟩ := q; cases q) (fun _ => ?_)
    refine s_iconst (v := (-1)) dX_row_10 (by decide) ?_
    refine s_iret dX_row_11 rfl (by first | exact Nat.le_refl _ | decide | omega) (by first | exact Nat.le_refl _ | decide | omega) ?_
    exact ⟨rfl, rfl⟩
  · rw [q1]
    dsimp only
    obtain ⟨d1, d2, d4, d5, d6⟩ := id (Ib.2.1 j hj)
    have hlen := rowS_len (σ := σ) (b := j) (R := R) (O := od j)
    have cs := c_size d6
    rw [rL_len] at cs
    obtain ⟨cap, z, f, e2, -⟩ := id d6
    unfold fRow
    rcases iy_cases i (K := (rowS σ j R (od j)).length) (by omega) with ⟨q2, hz1⟩ | ⟨n, hn, rfl, q2⟩
    · rw [q2]
      rcases hz1 with ⟨z1, -⟩ | ⟨-, hn1⟩
      · cases z1
      · by_cases c1 : i < 0
        · refine s_aload_n dX_row_0 rfl rfl ?_
          refine s_iload_n dX_row_1 rfl rfl ?_
          refine s_v1 dX_row_2 cv_X_116 (by repeat (first | exact up_self | assumption | rw [up_ne (by first | assumption | (intro q0; cases q0; done) | (intro q0; simp at q0; omega))])) (c_bookAt M0 Ib hB hj) rfl rfl rfl rfl ?_
          refine s_astore_n dX_row_5 rfl rfl ?_
          refine s_aload_n dX_row_6 rfl rfl ?_
          refine s_ifnonnull dX_row_7 (fun _ => ?_) (fun q => by cases q)
          refine s_iload_n dX_row_12 rfl rfl ?_
          refine s_if_lt dX_row_13 (fun _ => ?_) (fun q => absurd c1 q)
          refine s_bipush (v := (-4)) dX_row_27 (by decide) ?_
          refine s_iret dX_row_29 rfl (by first | exact Nat.le_refl _ | decide | omega) (by first | exact Nat.le_refl _ | decide | omega) ?_
          exact ⟨rfl, rfl⟩
        · refine s_aload_n dX_row_0 rfl rfl ?_
          refine s_iload_n dX_row_1 rfl rfl ?_
          refine s_v1 dX_row_2 cv_X_116 (by repeat (first | exact up_self | assumption | rw [up_ne (by first | assumption | (intro q0; cases q0; done) | (intro q0; simp at q0; omega))])) (c_bookAt M0 Ib hB hj) rfl rfl rfl rfl ?_
          refine s_astore_n dX_row_5 rfl rfl ?_
          refine s_aload_n dX_row_6 rfl rfl ?_
          refine s_ifnonnull dX_row_7 (fun _ => ?_) (fun q => by cases q)
          refine s_iload_n dX_row_12 rfl rfl ?_
          refine s_if_lt dX_row_13 (fun q => absurd q c1) (fun _ => ?_)
          refine s_iload_n dX_row_16 rfl rfl ?_
          refine s_aload_n dX_row_17 rfl rfl ?_
          refine s_get dX_row_18 gf_X_191 (by repeat (first | exact up_self | assumption | rw [up_ne (by first | assumption | (intro q0; cases q0; done) | (intro q0; simp at q0; omega))])) ?_
          refine s_v0 dX_row_21 cv_X_91 (by repeat (first | exact up_self | assumption | rw [up_ne (by first | assumption | (intro q0; cases q0; done) | (intro q0; simp at q0; omega))])) (cs) rfl rfl rfl rfl ?_
          refine s_icmp_lt dX_row_24 (fun q => absurd q (fun z1 => hn1 ⟨Int32.not_lt.mp c1, z1⟩)) (fun _ => ?_)
          refine s_bipush (v := (-4)) dX_row_27 (by decide) ?_
          refine s_iret dX_row_29 rfl (by first | exact Nat.le_refl _ | decide | omega) (by first | exact Nat.le_refl _ | decide | omega) ?_
          exact ⟨rfl, rfl⟩
    · rw [q2]
      have eg : (rowS σ j R (od j))[n]? = some ((rowS σ j R (od j)).getD n 0) := by rw [List.getD_eq_getElem?_getD, List.getElem?_eq_getElem hn]; rfl
      have hrR : (rowS σ j R (od j)).getD n 0 < R := rowS_mem (fun r q3 => ((hod j).1 r q3).1) _ (List.mem_of_getElem? eg)
      obtain ⟨⟨bi, hwi, mki, ebi, hbi, ei, -⟩, -⟩ := Ir.2.1 _ hrR
      unfold ruL at ei
      refine s_aload_n dX_row_0 rfl rfl ?_
      refine s_iload_n dX_row_1 rfl rfl ?_
      refine s_v1 dX_row_2 cv_X_116 (by repeat (first | exact up_self | assumption | rw [up_ne (by first | assumption | (intro q0; cases q0; done) | (intro q0; simp at q0; omega))])) (c_bookAt M0 Ib hB hj) rfl rfl rfl rfl ?_
      refine s_astore_n dX_row_5 rfl rfl ?_
      refine s_aload_n dX_row_6 rfl rfl ?_
      refine s_ifnonnull dX_row_7 (fun _ => ?_) (fun q => by cases q)
      refine s_iload_n dX_row_12 rfl rfl ?_
      refine s_if_lt dX_row_13 (fun q => absurd q (nI_nlt (b := 0) (by omega) (by omega))) (fun _ => ?_)
      refine s_iload_n dX_row_16 rfl rfl ?_
      refine s_aload_n dX_row_17 rfl rfl ?_
      refine s_get dX_row_18 gf_X_191 (by repeat (first | exact up_self | assumption | rw [up_ne (by first | assumption | (intro q0; cases q0; done) | (intro q0; simp at q0; omega))])) ?_
      refine s_v0 dX_row_21 cv_X_91 (by repeat (first | exact up_self | assumption | rw [up_ne (by first | assumption | (intro q0; cases q0; done) | (intro q0; simp at q0; omega))])) (cs) rfl rfl rfl rfl ?_
      refine s_icmp_lt dX_row_24 (fun _ => ?_) (fun q => absurd (nI_lt hn (by omega)) q)
      refine s_aload_n dX_row_30 rfl rfl ?_
      refine s_get dX_row_31 gf_X_191 (by repeat (first | exact up_self | assumption | rw [up_ne (by first | assumption | (intro q0; cases q0; done) | (intro q0; simp at q0; omega))])) ?_
      refine s_iload_n dX_row_34 rfl rfl ?_
      refine s_v1 dX_row_35 cv_X_194 (by repeat (first | exact up_self | assumption | rw [up_ne (by first | assumption | (intro q0; cases q0; done) | (intro q0; simp at q0; omega))])) (c_get d6 (rL_get eg)) rfl rfl rfl rfl ?_
      refine s_cast dX_row_38 (by decide) (nw_X_123).2.1 (by repeat (first | exact up_self | assumption | rw [up_ne (by first | assumption | (intro q0; cases q0; done) | (intro q0; simp at q0; omega))])) ?_
      refine s_get dX_row_41 gf_X_132 (by repeat (first | exact up_self | assumption | rw [up_ne (by first | assumption | (intro q0; cases q0; done) | (intro q0; simp at q0; omega))])) ?_
      refine s_iret dX_row_44 rfl (by first | exact Nat.le_refl _ | decide | omega) (by first | exact Nat.le_refl _ | decide | omega) ?_
      exact ⟨rfl, rfl⟩
