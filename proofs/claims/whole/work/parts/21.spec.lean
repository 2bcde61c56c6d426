/-- a number among 0 .. K-1, as one -/
def ix (p : Int32) (K : Nat) : Option Nat := if 0 ≤ p ∧ p < nI K then some p.toNatClampNeg else none
theorem ix_nI {j K : Nat} (h : j < K) (hK : K < 2 ^ 30) : ix (nI j) K = some j := by
  unfold ix
  rw [if_pos ⟨nI_pos' (by omega), nI_lt h (by omega)⟩, nI_clamp (by omega)]
theorem ix_cases (p : Int32) {K : Nat} (hK : K < 2 ^ 30) : (ix p K = none ∧ ¬ (0 ≤ p ∧ p < nI K) ∧ ¬ (0 ≤ p ∧ p ≤ nI K - 1)) ∨ ∃ j, j < K ∧ p = nI j ∧ ix p K = some j := by
  rcases pk_ix p (n := K) (by omega) with h | h | ⟨j, hj, rfl⟩
  · have h0 : ¬ 0 ≤ p := Int32.not_le.mpr h
    exact Or.inl ⟨if_neg fun q => h0 q.1, fun q => h0 q.1, fun q => h0 q.1⟩
  · refine Or.inl ⟨if_neg fun q => ?_, fun q => ?_, fun q => ?_⟩
    · exact absurd q.2 (Int32.not_lt.mpr h)
    · exact absurd q.2 (Int32.not_lt.mpr h)
    · obtain ⟨q1, q2⟩ := q
      rw [Int32.le_iff_toInt_le] at h q2
      have e1 : (nI K).toInt = (K : Int) := nI_toInt (by omega)
      have e2 : (nI K - 1).toInt = (K : Int) - 1 := by
        have := pk_sub_toInt (a := K) (b := 1) hK (by omega)
        rw [show nI 1 = (1 : Int32) by decide] at this
        exact this
      omega
  · exact Or.inr ⟨j, hj, rfl, ix_nI hj hK⟩
theorem in_ok {j K : Nat} (h : j < K) (hK : K < 2 ^ 30) : (0 : Int32) ≤ nI j ∧ nI j ≤ nI K - 1 := by
  refine ⟨nI_pos' (by omega), ?_⟩
  rw [show (1 : Int32) = nI 1 by decide, pk_sub (show 1 ≤ K by omega)]
  exact nI_le (by omega) (by omega)
theorem le_ok {a b : Nat} (h : a ≤ b) (hb : b < 2 ^ 30) : nI a ≤ nI b := nI_le h (by omega)
theorem c_isIn {v a b r : Int32} {h : Hp} (hr : (r = 1 ∧ a ≤ v ∧ v ≤ b) ∨ (r = 0 ∧ ¬ (a ≤ v ∧ v ≤ b))) : ConF mM_isIn 0 [vI v, vI a, vI b] h (some (vI r)) h := by
  refine c_enter (by decide +kernel) rfl rfl ?_
  refine s_iload_n dM_isIn_0 rfl rfl ?_
  refine s_iload_n dM_isIn_1 rfl rfl ?_
  rcases hr with ⟨rfl, h1, h2⟩ | ⟨rfl, h1⟩
  · refine s_icmp_lt dM_isIn_2 (fun q => absurd q (Int32.not_lt.mpr h1)) (fun _ => ?_)
    refine s_iload_n dM_isIn_5 rfl rfl ?_
    refine s_iload_n dM_isIn_6 rfl rfl ?_
    refine s_icmp_gt dM_isIn_7 (fun q => absurd q (Int32.not_lt.mpr h2)) (fun _ => ?_)
    refine s_iconst (v := 1) dM_isIn_10 (by decide) ?_
    refine s_goto dM_isIn_11 ?_
    refine s_zret dM_isIn_15 rfl (by first | exact Or.inl rfl | exact Or.inr rfl | assumption) (by first | exact Nat.le_refl _ | decide | omega) (by first | exact Nat.le_refl _ | decide | omega) ?_
    exact ⟨rfl, rfl⟩
  · by_cases h2 : v < a
    · refine s_icmp_lt dM_isIn_2 (fun _ => ?_) (fun q => absurd h2 q)
      refine s_iconst (v := 0) dM_isIn_14 (by decide) ?_
      refine s_zret dM_isIn_15 rfl (by first | exact Or.inl rfl | exact Or.inr rfl | assumption) (by first | exact Nat.le_refl _ | decide | omega) (by first | exact Nat.le_refl _ | decide | omega) ?_
      exact ⟨rfl, rfl⟩
    · refine s_icmp_lt dM_isIn_2 (fun q => absurd q h2) (fun _ => ?_)
      refine s_iload_n dM_isIn_5 rfl rfl ?_
      refine s_iload_n dM_isIn_6 rfl rfl ?_
      refine s_icmp_gt dM_isIn_7 (fun _ => ?_) (fun q => absurd (Int32.not_le.mp fun q => h1 ⟨Int32.not_lt.mp h2, q⟩) q)
      refine s_iconst (v := 0) dM_isIn_14 (by decide) ?_
      refine s_zret dM_isIn_15 rfl (by first | exact Or.inl rfl | exact Or.inr rfl | assumption) (by first | exact Nat.le_refl _ | decide | omega) (by first | exact Nat.le_refl _ | decide | omega) ?_
      exact ⟨rfl, rfl⟩
