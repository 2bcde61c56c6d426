/-! scenes of the class -/
theorem nI_div {a b : Nat} (ha : a < 2 ^ 30) (hb : b < 2 ^ 30) : nI a / nI b = nI (a / b) := by
  have h1 : a / b ≤ a := Nat.div_le_self a b
  apply Int32.toInt_inj.mp
  rw [Int32.toInt_div, nI_toInt (by omega), nI_toInt (by omega), nI_toInt (by omega), ← Int.ofNat_tdiv]
  generalize a / b = q at h1 ⊢
  apply Int.bmod_eq_of_le <;> omega
theorem nI_rem {a b : Nat} (ha : a < 2 ^ 30) (hb : b < 2 ^ 30) : nI a - nI a / nI b * nI b = nI (a % b) := by
  rw [nI_div ha hb]
  have h1 := Nat.div_add_mod a b
  have h2 : nI (a / b) * nI b = nI (a / b * b) := (Int32.ofNat_mul _ _).symm
  have h3 : nI a = nI (a / b * b) + nI (a % b) := by rw [nI_add, Nat.mul_comm (a / b) b, h1]
  rw [h2]
  generalize nI (a / b * b) = u at h3 ⊢
  rw [h3, Int32.add_comm]
  exact Int32.add_sub_cancel _ _
theorem dv0 {x : Int32} (h0 : ¬ x < 0) : (x / nI 4).toInt = x.toInt / 4 ∧ 0 ≤ x.toInt := by
  have e0 : (0 : Int32).toInt = 0 := by decide
  rw [Int32.lt_iff_toInt_lt, e0] at h0
  have h2 := Int32.toInt_lt x
  have h3 : (x.toInt.tdiv (4 : Nat)) = x.toInt / 4 := Int.tdiv_eq_ediv_of_nonneg (by omega)
  rw [Int32.toInt_div, nI_toInt (by omega), h3, Int.bmod_eq_of_le (by omega) (by omega)]
  exact ⟨rfl, by omega⟩
theorem dv4 {x : Int32} {N : Nat} (h0 : ¬ x < 0) (h1 : x / nI 4 < nI N) (hN : N < 1000) : ∃ y, y < 4 * N ∧ x = nI y := by
  obtain ⟨h2, h3⟩ := dv0 h0
  rw [Int32.lt_iff_toInt_lt, nI_toInt (by omega), h2] at h1
  refine ⟨x.toInt.toNat, by omega, ?_⟩
  apply Int32.toInt_inj.mp
  rw [nI_toInt (by omega)]
  omega
theorem l_wasIn {h : Hp} {σ : Sg} {NS n : Nat} {e1 : Int32} {Q : Option PV → Hp → Prop} (I : nC h σ NS) (h49 : σ 49 0 = nI n) (hn : n ≤ 16) (hq : Q (some (vI (zi (isEv σ e1 n)))) h) :
    ∀ (d k : Nat), k + d = n → isEv σ e1 k = false → S mScs_wasInTurn 0 0 0 Q 2 [some (vR (38, 0, 0)), some (vI e1), some (vI (nI k))] [] h 0 0 := by
  obtain ⟨⟨c1, f, c2, c3⟩, -⟩ := I
  rw [h49] at c1 c3
  rw [nt_nI (by omega)] at c3
  intro d
  induction d with
  | zero =>
    intro k hk1 hf1
    have ek : k = n := by omega
    subst ek
    refine s_iload_n dScs_wasInTurn_2 rfl rfl ?_
    refine s_aload_n dScs_wasInTurn_3 rfl rfl ?_
    refine s_get dScs_wasInTurn_4 gf_Scs_67 (by repeat (first | exact up_self | assumption | rw [up_ne (by first | assumption | (intro q0; cases q0; done) | (intro q0; simp at q0; omega))])) ?_
    refine s_icmp_ge dScs_wasInTurn_7 (fun _ => ?_) (fun q => absurd (nI_le (Nat.le_refl _) (by omega)) q)
    refine s_iconst (v := 0) dScs_wasInTurn_28 (by decide) ?_
    refine s_zret dScs_wasInTurn_29 rfl (by first | exact Or.inl rfl | exact Or.inr rfl | assumption) (by first | exact Nat.le_refl _ | decide | omega) (by first | exact Nat.le_refl _ | decide | omega) ?_
    rw [hf1] at hq
    exact hq
  | succ d ih1 =>
    intro k hk1 hf1
    by_cases c4 : σ 48 k = e1
    · refine s_iload_n dScs_wasInTurn_2 rfl rfl ?_
      refine s_aload_n dScs_wasInTurn_3 rfl rfl ?_
      refine s_get dScs_wasInTurn_4 gf_Scs_67 (by repeat (first | exact up_self | assumption | rw [up_ne (by first | assumption | (intro q0; cases q0; done) | (intro q0; simp at q0; omega))])) ?_
      refine s_icmp_ge dScs_wasInTurn_7 (fun q => absurd q (nI_ge (show k < n by omega) (by omega))) (fun _ => ?_)
      refine s_aload_n dScs_wasInTurn_10 rfl rfl ?_
      refine s_get dScs_wasInTurn_11 gf_Scs_18 (by repeat (first | exact up_self | assumption | rw [up_ne (by first | assumption | (intro q0; cases q0; done) | (intro q0; simp at q0; omega))])) ?_
      refine s_iload_n dScs_wasInTurn_14 rfl rfl ?_
      refine s_ialdN dScs_wasInTurn_15 (by repeat (first | exact up_self | assumption | rw [up_ne (by first | assumption | (intro q0; cases q0; done) | (intro q0; simp at q0; omega))])) (by omega) (by omega) ?_
      refine s_tv (c3 k (by omega)) ?_
      refine s_iload_n dScs_wasInTurn_16 rfl rfl ?_
      refine s_icmp_ne dScs_wasInTurn_17 (fun q => absurd c4 q) (fun _ => ?_)
      refine s_iconst (v := 1) dScs_wasInTurn_20 (by decide) ?_
      refine s_zret dScs_wasInTurn_21 rfl (by first | exact Or.inl rfl | exact Or.inr rfl | assumption) (by first | exact Nat.le_refl _ | decide | omega) (by first | exact Nat.le_refl _ | decide | omega) ?_
      rw [isEv_of (show k < n by omega) c4] at hq
      exact hq
    · refine s_iload_n dScs_wasInTurn_2 rfl rfl ?_
      refine s_aload_n dScs_wasInTurn_3 rfl rfl ?_
      refine s_get dScs_wasInTurn_4 gf_Scs_67 (by repeat (first | exact up_self | assumption | rw [up_ne (by first | assumption | (intro q0; cases q0; done) | (intro q0; simp at q0; omega))])) ?_
      refine s_icmp_ge dScs_wasInTurn_7 (fun q => absurd q (nI_ge (show k < n by omega) (by omega))) (fun _ => ?_)
      refine s_aload_n dScs_wasInTurn_10 rfl rfl ?_
      refine s_get dScs_wasInTurn_11 gf_Scs_18 (by repeat (first | exact up_self | assumption | rw [up_ne (by first | assumption | (intro q0; cases q0; done) | (intro q0; simp at q0; omega))])) ?_
      refine s_iload_n dScs_wasInTurn_14 rfl rfl ?_
      refine s_ialdN dScs_wasInTurn_15 (by repeat (first | exact up_self | assumption | rw [up_ne (by first | assumption | (intro q0; cases q0; done) | (intro q0; simp at q0; omega))])) (by omega) (by omega) ?_
      refine s_tv (c3 k (by omega)) ?_
      refine s_iload_n dScs_wasInTurn_16 rfl rfl ?_
      refine s_icmp_ne dScs_wasInTurn_17 (fun _ => ?_) (fun q => absurd q c4)
      first | refine s_iincN dScs_wasInTurn_22 rfl rfl ?_ | refine s_iinc dScs_wasInTurn_22 rfl rfl ?_
      refine s_goto dScs_wasInTurn_25 ?_
      exact ih1 (k + 1) (by omega) (by simp [isEv, hf1, c4])
theorem c_wasIn {h : Hp} {σ : Sg} {NS n : Nat} {e1 : Int32} (I : nC h σ NS) (h49 : σ 49 0 = nI n) (hn : n ≤ 16) : ConF mScs_wasInTurn 0 [vR (38, 0, 0), vI e1] h (some (vI (zi (isEv σ e1 n)))) h := by
  refine c_enter (by decide +kernel) rfl rfl ?_
  refine s_iconst (v := 0) dScs_wasInTurn_0 (by decide) ?_
  refine s_istore_n dScs_wasInTurn_1 rfl rfl ?_
  exact l_wasIn I h49 hn ⟨rfl, rfl⟩ n 0 (by omega) rfl
def evI (c x : Int32) : Int32 := match evO c x with
  | some e => nI e
  | none => -1
theorem c_eventOf {h : Hp} {c y : Nat} {x : Int32} (hc : c ≤ 4) (hx : c = 2 ∨ c = 3 → x = nI y ∧ y < 2 ^ 20) : ConF mScs_eventOf 0 [vI (nI c), vI x] h (some (vI (evI (nI c) x))) h := by
  unfold evI evO
  refine c_enter (by decide +kernel) rfl rfl ?_
  rcases (show c = 0 ∨ c = 1 ∨ c = 2 ∨ c = 3 ∨ c = 4 by omega) with rfl | rfl | rfl | rfl | rfl
  · refine s_iload_n dScs_eventOf_0 rfl rfl ?_
    refine s_lookup (off := 39) (tgt := 40) dScs_eventOf_1 (by decide +kernel) (by decide +kernel) (by decide) ?_
    refine s_iconst (v := (-1)) dScs_eventOf_40 (by decide) ?_
    refine s_iret dScs_eventOf_41 rfl (by first | exact Nat.le_refl _ | decide | omega) (by first | exact Nat.le_refl _ | decide | omega) ?_
    exact ⟨by rw [if_neg (by decide), if_neg (by decide)], rfl⟩
  · refine s_iload_n dScs_eventOf_0 rfl rfl ?_
    refine s_lookup (off := 39) (tgt := 40) dScs_eventOf_1 (by decide +kernel) (by decide +kernel) (by decide) ?_
    refine s_iconst (v := (-1)) dScs_eventOf_40 (by decide) ?_
    refine s_iret dScs_eventOf_41 rfl (by first | exact Nat.le_refl _ | decide | omega) (by first | exact Nat.le_refl _ | decide | omega) ?_
    exact ⟨by rw [if_neg (by decide), if_neg (by decide)], rfl⟩
  · obtain ⟨rfl, hy⟩ := hx (Or.inl rfl)
    refine s_iload_n dScs_eventOf_0 rfl rfl ?_
    refine s_lookup (off := 27) (tgt := 28) dScs_eventOf_1 (by decide +kernel) (by decide +kernel) (by decide) ?_
    refine s_iconst (v := nI 2) dScs_eventOf_28 (by decide) ?_
    refine s_iload_n dScs_eventOf_29 rfl rfl ?_
    first | refine s_imulN dScs_eventOf_30 ?_ | refine s_imul dScs_eventOf_30 ?_
    refine s_iconst (v := nI 0) dScs_eventOf_31 (by decide) ?_
    first | refine s_iaddN dScs_eventOf_32 ?_ | refine s_iadd dScs_eventOf_32 ?_
    refine s_iret dScs_eventOf_33 rfl (by first | exact Nat.le_refl _ | decide | omega) (by first | exact Nat.le_refl _ | decide | omega) ?_
    exact ⟨by rw [if_pos rfl, nt_nI (by omega)]; rfl, rfl⟩
  · obtain ⟨rfl, hy⟩ := hx (Or.inr rfl)
    refine s_iload_n dScs_eventOf_0 rfl rfl ?_
    refine s_lookup (off := 33) (tgt := 34) dScs_eventOf_1 (by decide +kernel) (by decide +kernel) (by decide) ?_
    refine s_iconst (v := nI 2) dScs_eventOf_34 (by decide) ?_
    refine s_iload_n dScs_eventOf_35 rfl rfl ?_
    first | refine s_imulN dScs_eventOf_36 ?_ | refine s_imul dScs_eventOf_36 ?_
    refine s_iconst (v := nI 1) dScs_eventOf_37 (by decide) ?_
    first | refine s_iaddN dScs_eventOf_38 ?_ | refine s_iadd dScs_eventOf_38 ?_
    refine s_iret dScs_eventOf_39 rfl (by first | exact Nat.le_refl _ | decide | omega) (by first | exact Nat.le_refl _ | decide | omega) ?_
    exact ⟨by rw [if_neg (by decide), if_pos rfl, nt_nI (by omega)], rfl⟩
  · refine s_iload_n dScs_eventOf_0 rfl rfl ?_
    refine s_lookup (off := 39) (tgt := 40) dScs_eventOf_1 (by decide +kernel) (by decide +kernel) (by decide) ?_
    refine s_iconst (v := (-1)) dScs_eventOf_40 (by decide) ?_
    refine s_iret dScs_eventOf_41 rfl (by first | exact Nat.le_refl _ | decide | omega) (by first | exact Nat.le_refl _ | decide | omega) ?_
    exact ⟨by rw [if_neg (by decide), if_neg (by decide)], rfl⟩
theorem c_isAnchor {h : Hp} {σ : Sg} {v : Nat → Int32} {NS N : Nat} (c x : Int32) (I : nC h σ NS) (hNS : NS ≤ 8) (Is : sC h σ v N) (hN : N ≤ 20) : ConF mScs_isAnchor 2 [vR (38, 0, 0), vI c, vI x] h (some (vI (zi (match ix c 5 with | some k => ancOk k x NS N | none => false)))) h := by
  have e1 := I.1.1
  have css := c_size Is.1
  rw [nmL_len] at css
  obtain ⟨cap, z, f, e2, -⟩ := id Is.1
  refine c_enter (by decide +kernel) rfl rfl ?_
  rcases iy_cases c (K := 5) (by omega) with ⟨q1, hz⟩ | ⟨k, hk, rfl, q1⟩
  · rw [q1]
    have h1 : c.toInt < 0 ∨ 4 < c.toInt := by
      rcases hz with ⟨z1, -⟩ | ⟨-, hz⟩
      · cases z1
      · by_cases c1 : c < 0
        · left
          have c2 := Int32.lt_iff_toInt_lt.mp c1
          have e0 : (0 : Int32).toInt = 0 := by decide
          omega
        · right
          have c3 : nI 5 ≤ c := Int32.not_lt.mp fun z1 => hz ⟨Int32.not_lt.mp c1, z1⟩
          rw [Int32.le_iff_toInt_le, nI_toInt (by omega)] at c3
          omega
    refine s_iload_n dScs_isAnchor_0 rfl rfl ?_
    refine s_tabOut (tgt := 77) dScs_isAnchor_1 (by rcases h1 with h1 | h1; exact Or.inl h1; exact Or.inr h1) (by decide) ?_
    refine s_iconst (v := 0) dScs_isAnchor_77 (by decide) ?_
    refine s_zret dScs_isAnchor_78 rfl (by first | exact Or.inl rfl | exact Or.inr rfl | assumption) (by first | exact Nat.le_refl _ | decide | omega) (by first | exact Nat.le_refl _ | decide | omega) ?_
    exact ⟨rfl, rfl⟩
  · rw [q1]
    dsimp only
    rcases (show k = 0 ∨ k = 1 ∨ k = 2 ∨ k = 3 ∨ k = 4 by omega) with rfl | rfl | rfl | rfl | rfl
    · refine s_iload_n dScs_isAnchor_0 rfl rfl ?_
      refine s_tabIn (off := 35) (tgt := 36) dScs_isAnchor_1 (by decide +kernel) (by decide +kernel) (by decide +kernel) (by decide) ?_
      refine s_iconst (v := 1) dScs_isAnchor_36 (by decide) ?_
      refine s_zret dScs_isAnchor_37 rfl (by first | exact Or.inl rfl | exact Or.inr rfl | assumption) (by first | exact Nat.le_refl _ | decide | omega) (by first | exact Nat.le_refl _ | decide | omega) ?_
      exact ⟨rfl, rfl⟩
    · by_cases c1 : x < 0
      · refine s_iload_n dScs_isAnchor_0 rfl rfl ?_
        refine s_tabIn (off := 37) (tgt := 38) dScs_isAnchor_1 (by decide +kernel) (by decide +kernel) (by decide +kernel) (by decide) ?_
        refine s_iload_n dScs_isAnchor_38 rfl rfl ?_
        refine s_if_lt dScs_isAnchor_39 (fun _ => ?_) (fun q => absurd c1 q)
        refine s_iconst (v := 0) dScs_isAnchor_46 (by decide) ?_
        refine s_zret dScs_isAnchor_47 rfl (by first | exact Or.inl rfl | exact Or.inr rfl | assumption) (by first | exact Nat.le_refl _ | decide | omega) (by first | exact Nat.le_refl _ | decide | omega) ?_
        exact ⟨by simp [ancOk, Int32.not_le.mpr c1], rfl⟩
      · refine s_iload_n dScs_isAnchor_0 rfl rfl ?_
        refine s_tabIn (off := 37) (tgt := 38) dScs_isAnchor_1 (by decide +kernel) (by decide +kernel) (by decide +kernel) (by decide) ?_
        refine s_iload_n dScs_isAnchor_38 rfl rfl ?_
        refine s_if_lt dScs_isAnchor_39 (fun q => absurd q c1) (fun _ => ?_)
        refine s_iconst (v := 1) dScs_isAnchor_42 (by decide) ?_
        refine s_goto dScs_isAnchor_43 ?_
        refine s_zret dScs_isAnchor_47 rfl (by first | exact Or.inl rfl | exact Or.inr rfl | assumption) (by first | exact Nat.le_refl _ | decide | omega) (by first | exact Nat.le_refl _ | decide | omega) ?_
        exact ⟨by simp [ancOk, Int32.not_lt.mp c1], rfl⟩
    · rcases iy_cases x (K := NS) (by omega) with ⟨q2, hz⟩ | ⟨i, hi, rfl, q2⟩
      · refine s_iload_n dScs_isAnchor_0 rfl rfl ?_
        refine s_tabIn (off := 47) (tgt := 48) dScs_isAnchor_1 (by decide +kernel) (by decide +kernel) (by decide +kernel) (by decide) ?_
        refine s_aload_n dScs_isAnchor_48 rfl rfl ?_
        refine s_iload_n dScs_isAnchor_49 rfl rfl ?_
        refine s_v1 dScs_isAnchor_50 cv_Scs_50 (by repeat (first | exact up_self | assumption | rw [up_ne (by first | assumption | (intro q0; cases q0; done) | (intro q0; simp at q0; omega))])) (c_Scs_has I hNS hz) (by first | rfl | exact Nat.ble_eq_true_of_le (by omega)) (by first | rfl | exact Nat.ble_eq_true_of_le (by omega)) (by first | rfl | exact Nat.ble_eq_true_of_le (by omega)) rfl ?_
        refine s_zret dScs_isAnchor_53 rfl (by first | exact Or.inl rfl | exact Or.inr rfl | assumption) (by first | exact Nat.le_refl _ | decide | omega) (by first | exact Nat.le_refl _ | decide | omega) ?_
        exact ⟨by simp [ancOk, q2], rfl⟩
      · refine s_iload_n dScs_isAnchor_0 rfl rfl ?_
        refine s_tabIn (off := 47) (tgt := 48) dScs_isAnchor_1 (by decide +kernel) (by decide +kernel) (by decide +kernel) (by decide) ?_
        refine s_aload_n dScs_isAnchor_48 rfl rfl ?_
        refine s_iload_n dScs_isAnchor_49 rfl rfl ?_
        refine s_v1 dScs_isAnchor_50 cv_Scs_50 (by repeat (first | exact up_self | assumption | rw [up_ne (by first | assumption | (intro q0; cases q0; done) | (intro q0; simp at q0; omega))])) (c_Scs_has I hNS (Iy1 hi)) (by first | rfl | exact Nat.ble_eq_true_of_le (by omega)) (by first | rfl | exact Nat.ble_eq_true_of_le (by omega)) (by first | rfl | exact Nat.ble_eq_true_of_le (by omega)) rfl ?_
        refine s_zret dScs_isAnchor_53 rfl (by first | exact Or.inl rfl | exact Or.inr rfl | assumption) (by first | exact Nat.le_refl _ | decide | omega) (by first | exact Nat.le_refl _ | decide | omega) ?_
        exact ⟨by simp [ancOk, q2], rfl⟩
    · rcases iy_cases x (K := NS) (by omega) with ⟨q2, hz⟩ | ⟨i, hi, rfl, q2⟩
      · refine s_iload_n dScs_isAnchor_0 rfl rfl ?_
        refine s_tabIn (off := 47) (tgt := 48) dScs_isAnchor_1 (by decide +kernel) (by decide +kernel) (by decide +kernel) (by decide) ?_
        refine s_aload_n dScs_isAnchor_48 rfl rfl ?_
        refine s_iload_n dScs_isAnchor_49 rfl rfl ?_
        refine s_v1 dScs_isAnchor_50 cv_Scs_50 (by repeat (first | exact up_self | assumption | rw [up_ne (by first | assumption | (intro q0; cases q0; done) | (intro q0; simp at q0; omega))])) (c_Scs_has I hNS hz) (by first | rfl | exact Nat.ble_eq_true_of_le (by omega)) (by first | rfl | exact Nat.ble_eq_true_of_le (by omega)) (by first | rfl | exact Nat.ble_eq_true_of_le (by omega)) rfl ?_
        refine s_zret dScs_isAnchor_53 rfl (by first | exact Or.inl rfl | exact Or.inr rfl | assumption) (by first | exact Nat.le_refl _ | decide | omega) (by first | exact Nat.le_refl _ | decide | omega) ?_
        exact ⟨by simp [ancOk, q2], rfl⟩
      · refine s_iload_n dScs_isAnchor_0 rfl rfl ?_
        refine s_tabIn (off := 47) (tgt := 48) dScs_isAnchor_1 (by decide +kernel) (by decide +kernel) (by decide +kernel) (by decide) ?_
        refine s_aload_n dScs_isAnchor_48 rfl rfl ?_
        refine s_iload_n dScs_isAnchor_49 rfl rfl ?_
        refine s_v1 dScs_isAnchor_50 cv_Scs_50 (by repeat (first | exact up_self | assumption | rw [up_ne (by first | assumption | (intro q0; cases q0; done) | (intro q0; simp at q0; omega))])) (c_Scs_has I hNS (Iy1 hi)) (by first | rfl | exact Nat.ble_eq_true_of_le (by omega)) (by first | rfl | exact Nat.ble_eq_true_of_le (by omega)) (by first | rfl | exact Nat.ble_eq_true_of_le (by omega)) rfl ?_
        refine s_zret dScs_isAnchor_53 rfl (by first | exact Or.inl rfl | exact Or.inr rfl | assumption) (by first | exact Nat.le_refl _ | decide | omega) (by first | exact Nat.le_refl _ | decide | omega) ?_
        exact ⟨by simp [ancOk, q2], rfl⟩
    · by_cases c1 : x < 0
      · refine s_iload_n dScs_isAnchor_0 rfl rfl ?_
        refine s_tabIn (off := 53) (tgt := 54) dScs_isAnchor_1 (by decide +kernel) (by decide +kernel) (by decide +kernel) (by decide) ?_
        refine s_iload_n dScs_isAnchor_54 rfl rfl ?_
        refine s_if_lt dScs_isAnchor_55 (fun _ => ?_) (fun q => absurd c1 q)
        refine s_iconst (v := 0) dScs_isAnchor_75 (by decide) ?_
        refine s_zret dScs_isAnchor_76 rfl (by first | exact Or.inl rfl | exact Or.inr rfl | assumption) (by first | exact Nat.le_refl _ | decide | omega) (by first | exact Nat.le_refl _ | decide | omega) ?_
        exact ⟨by simp [ancOk, Int32.not_le.mpr c1], rfl⟩
      · rcases iy_cases (x / nI 4) (K := N) (by omega) with ⟨q2, hz⟩ | ⟨i, hi, ei, q2⟩
        · rcases hz with ⟨z1, -⟩ | ⟨-, hz⟩
          · cases z1
          · have c2 : nI N ≤ x / nI 4 := by
              refine Int32.not_lt.mp (fun z1 => hz ⟨?_, z1⟩)
              obtain ⟨a1, a2⟩ := dv0 c1
              have e0 : (0 : Int32).toInt = 0 := by decide
              rw [Int32.le_iff_toInt_le, e0, a1]
              omega
            refine s_iload_n dScs_isAnchor_0 rfl rfl ?_
            refine s_tabIn (off := 53) (tgt := 54) dScs_isAnchor_1 (by decide +kernel) (by decide +kernel) (by decide +kernel) (by decide) ?_
            refine s_iload_n dScs_isAnchor_54 rfl rfl ?_
            refine s_if_lt dScs_isAnchor_55 (fun q => absurd q c1) (fun _ => ?_)
            refine s_iload_n dScs_isAnchor_58 rfl rfl ?_
            refine s_iconst (v := nI 4) dScs_isAnchor_59 (by decide) ?_
            refine s_idiv dScs_isAnchor_60 (by decide) ?_
            refine s_aload_n dScs_isAnchor_61 rfl rfl ?_
            refine s_get dScs_isAnchor_62 gf_Scs_22 (by repeat (first | exact up_self | assumption | rw [up_ne (by first | assumption | (intro q0; cases q0; done) | (intro q0; simp at q0; omega))])) ?_
            refine s_v0 dScs_isAnchor_65 cv_Scs_25 (by repeat (first | exact up_self | assumption | rw [up_ne (by first | assumption | (intro q0; cases q0; done) | (intro q0; simp at q0; omega))])) (css) (by first | rfl | exact Nat.ble_eq_true_of_le (by omega)) (by first | rfl | exact Nat.ble_eq_true_of_le (by omega)) (by first | rfl | exact Nat.ble_eq_true_of_le (by omega)) rfl ?_
            refine s_icmp_ge dScs_isAnchor_68 (fun _ => ?_) (fun q => absurd c2 q)
            refine s_iconst (v := 0) dScs_isAnchor_75 (by decide) ?_
            refine s_zret dScs_isAnchor_76 rfl (by first | exact Or.inl rfl | exact Or.inr rfl | assumption) (by first | exact Nat.le_refl _ | decide | omega) (by first | exact Nat.le_refl _ | decide | omega) ?_
            exact ⟨by simp [ancOk, q2], rfl⟩
        · refine s_iload_n dScs_isAnchor_0 rfl rfl ?_
          refine s_tabIn (off := 53) (tgt := 54) dScs_isAnchor_1 (by decide +kernel) (by decide +kernel) (by decide +kernel) (by decide) ?_
          refine s_iload_n dScs_isAnchor_54 rfl rfl ?_
          refine s_if_lt dScs_isAnchor_55 (fun q => absurd q c1) (fun _ => ?_)
          refine s_iload_n dScs_isAnchor_58 rfl rfl ?_
          refine s_iconst (v := nI 4) dScs_isAnchor_59 (by decide) ?_
          refine s_idiv dScs_isAnchor_60 (by decide) ?_
          refine s_aload_n dScs_isAnchor_61 rfl rfl ?_
          refine s_get dScs_isAnchor_62 gf_Scs_22 (by repeat (first | exact up_self | assumption | rw [up_ne (by first | assumption | (intro q0; cases q0; done) | (intro q0; simp at q0; omega))])) ?_
          refine s_v0 dScs_isAnchor_65 cv_Scs_25 (by repeat (first | exact up_self | assumption | rw [up_ne (by first | assumption | (intro q0; cases q0; done) | (intro q0; simp at q0; omega))])) (css) (by first | rfl | exact Nat.ble_eq_true_of_le (by omega)) (by first | rfl | exact Nat.ble_eq_true_of_le (by omega)) (by first | rfl | exact Nat.ble_eq_true_of_le (by omega)) rfl ?_
          refine s_icmp_ge dScs_isAnchor_68 (fun q => absurd q (by rw [ei]; exact nI_ge hi (by omega))) (fun _ => ?_)
          refine s_iconst (v := 1) dScs_isAnchor_71 (by decide) ?_
          refine s_goto dScs_isAnchor_72 ?_
          refine s_zret dScs_isAnchor_76 rfl (by first | exact Or.inl rfl | exact Or.inr rfl | assumption) (by first | exact Nat.le_refl _ | decide | omega) (by first | exact Nat.le_refl _ | decide | omega) ?_
          exact ⟨by simp [ancOk, q2, Int32.not_lt.mp c1], rfl⟩
theorem evI_m1 {c x : Int32} (h1 : evO c x = none) : evI c x = -1 := by unfold evI; rw [h1]
theorem evI_s {c x : Int32} {e : Nat} (h1 : evO c x = some e) : evI c x = nI e := by unfold evI; rw [h1]
theorem evO_lt {σ : Sg} {A NS e e' : Nat} (P : AP σ A NS) (he : e < A) (h1 : evO (σ 44 e) (σ 45 e) = some e') : e' < 2 * NS := by
  obtain ⟨hNS, hA, P⟩ := P
  obtain ⟨c, hc, ec, h23, h4⟩ := P e he
  unfold evO at h1
  split at h1
  · rename_i z1
    rw [ec] at z1
    obtain ⟨x, hx, ex⟩ := h23 (Or.inl (nI_inj (by omega) (by omega) z1))
    rw [ex, nt_nI (by omega)] at h1
    cases h1
    omega
  · split at h1
    · rename_i z1
      rw [ec] at z1
      obtain ⟨x, hx, ex⟩ := h23 (Or.inr (nI_inj (by omega) (by omega) z1))
      rw [ex, nt_nI (by omega)] at h1
      cases h1
      omega
    · cases h1
theorem c_evAt {h : Hp} {σ : Sg} {A NS e : Nat} (P : AP σ A NS) (he : e < A) : ConF mScs_eventOf 0 [vI (σ 44 e), vI (σ 45 e)] h (some (vI (evI (σ 44 e) (σ 45 e)))) h := by
  obtain ⟨hNS, hA, P⟩ := P
  obtain ⟨c, hc, ec, h23, h4⟩ := P e he
  rw [ec]
  refine c_eventOf (y := nt (σ 45 e)) hc (fun z1 => ?_)
  obtain ⟨x, hx, ex⟩ := h23 z1
  rw [ex, nt_nI (by omega)]
  exact ⟨rfl, by omega⟩
theorem l_ring {h : Hp} {σ : Sg} {NS t : Nat} {c x : Int32} {Q : Option PV → Hp → Prop} (I : nC h σ NS) (P : AP σ (2 * NS) NS) (ht : t < 2 * NS) :
    ∀ (n k e : Nat) (o6 : Option PV), k + n = 16 → e < 2 * NS → Q (some (vI (zi (chn σ t n e)))) h → S mScs_wouldRing 3 0 0 Q 10 [some (vR (38, 0, 0)), some (vI (nI t)), some (vI c), some (vI x), some (vI (nI e)), some (vI (nI k)), o6] [] h 0 0 := by
  have e1 := I.1.1
  have hNS := P.1
  obtain ⟨cap, z, f0, e2, -⟩ := id I.2.1
  intro n
  induction n with
  | zero =>
    intro k e o6 hk1 he hq
    have ek : k = 16 := by omega
    subst ek
    by_cases c1 : e = t
    · refine s_iload dScs_wouldRing_10 rfl ?_
      refine s_bipush (v := nI 16) dScs_wouldRing_12 (by decide) ?_
      refine s_icmp_ge dScs_wouldRing_14 (fun _ => ?_) (fun q => absurd (by decide) q)
      refine s_iload dScs_wouldRing_76 rfl ?_
      refine s_iload_n dScs_wouldRing_78 rfl rfl ?_
      refine s_icmp_ne dScs_wouldRing_79 (fun q => absurd (by rw [c1]) q) (fun _ => ?_)
      refine s_iconst (v := 1) dScs_wouldRing_82 (by decide) ?_
      refine s_goto dScs_wouldRing_83 ?_
      refine s_zret dScs_wouldRing_87 rfl (by first | exact Or.inl rfl | exact Or.inr rfl | assumption) (by first | exact Nat.le_refl _ | decide | omega) (by first | exact Nat.le_refl _ | decide | omega) ?_
      rw [show chn σ t 0 e = true by simp [chn, c1]] at hq
      exact hq
    · refine s_iload dScs_wouldRing_10 rfl ?_
      refine s_bipush (v := nI 16) dScs_wouldRing_12 (by decide) ?_
      refine s_icmp_ge dScs_wouldRing_14 (fun _ => ?_) (fun q => absurd (by decide) q)
      refine s_iload dScs_wouldRing_76 rfl ?_
      refine s_iload_n dScs_wouldRing_78 rfl rfl ?_
      refine s_icmp_ne dScs_wouldRing_79 (fun _ => ?_) (fun q => absurd q (nI_ne c1 (by omega) (by omega)))
      refine s_iconst (v := 0) dScs_wouldRing_86 (by decide) ?_
      refine s_zret dScs_wouldRing_87 rfl (by first | exact Or.inl rfl | exact Or.inr rfl | assumption) (by first | exact Nat.le_refl _ | decide | omega) (by first | exact Nat.le_refl _ | decide | omega) ?_
      rw [show chn σ t 0 e = false by simp [chn, c1]] at hq
      exact hq
  | succ n ih1 =>
    intro k e o6 hk1 he hq
    by_cases c1 : e = t
    · refine s_iload dScs_wouldRing_10 rfl ?_
      refine s_bipush (v := nI 16) dScs_wouldRing_12 (by decide) ?_
      refine s_icmp_ge dScs_wouldRing_14 (fun q => absurd q (nI_ge (show k < 16 by omega) (by omega))) (fun _ => ?_)
      refine s_iload dScs_wouldRing_17 rfl ?_
      refine s_iconst (v := (-1)) dScs_wouldRing_19 (by decide) ?_
      refine s_icmp_eq dScs_wouldRing_20 (fun q => absurd q (nI_m1 (by omega))) (fun _ => ?_)
      refine s_iload dScs_wouldRing_23 rfl ?_
      refine s_iload_n dScs_wouldRing_25 rfl rfl ?_
      refine s_icmp_eq dScs_wouldRing_26 (fun _ => ?_) (fun q => absurd (by rw [c1]) q)
      refine s_iload dScs_wouldRing_76 rfl ?_
      refine s_iload_n dScs_wouldRing_78 rfl rfl ?_
      refine s_icmp_ne dScs_wouldRing_79 (fun q => absurd (by rw [c1]) q) (fun _ => ?_)
      refine s_iconst (v := 1) dScs_wouldRing_82 (by decide) ?_
      refine s_goto dScs_wouldRing_83 ?_
      refine s_zret dScs_wouldRing_87 rfl (by first | exact Or.inl rfl | exact Or.inr rfl | assumption) (by first | exact Nat.le_refl _ | decide | omega) (by first | exact Nat.le_refl _ | decide | omega) ?_
      rw [show chn σ t (n + 1) e = true by simp [chn, c1]] at hq
      exact hq
    · obtain ⟨a1, f, g, a2, a3, a4⟩ := I.2.2.1 (e / 2) (by omega)
      obtain ⟨b1, b2⟩ := a4 (e % 2) (by omega)
      rw [show 2 * (e / 2) + e % 2 = e by omega] at b1 b2
      have cg := c_get I.2.1 (nmL_get (t := 41) (show e / 2 < NS by omega))
      have ce := c_evAt (h := h) P he
      cases hev : evO (σ 44 e) (σ 45 e) with
      | none =>
        rw [evI_m1 hev] at ce
        have hf : chn σ t (n + 1) e = false := by simp [chn, c1, hev]
        rw [hf] at hq
        by_cases c2 : k + 1 = 16
        · refine s_iload dScs_wouldRing_10 rfl ?_
          refine s_bipush (v := nI 16) dScs_wouldRing_12 (by decide) ?_
          refine s_icmp_ge dScs_wouldRing_14 (fun q => absurd q (nI_ge (show k < 16 by omega) (by omega))) (fun _ => ?_)
          refine s_iload dScs_wouldRing_17 rfl ?_
          refine s_iconst (v := (-1)) dScs_wouldRing_19 (by decide) ?_
          refine s_icmp_eq dScs_wouldRing_20 (fun q => absurd q (nI_m1 (by omega))) (fun _ => ?_)
          refine s_iload dScs_wouldRing_23 rfl ?_
          refine s_iload_n dScs_wouldRing_25 rfl rfl ?_
          refine s_icmp_eq dScs_wouldRing_26 (fun q => absurd q (nI_ne c1 (by omega) (by omega))) (fun _ => ?_)
          refine s_aload_n dScs_wouldRing_29 rfl rfl ?_
          refine s_get dScs_wouldRing_30 gf_Scs_12 (by repeat (first | exact up_self | assumption | rw [up_ne (by first | assumption | (intro q0; cases q0; done) | (intro q0; simp at q0; omega))])) ?_
          refine s_iload dScs_wouldRing_33 rfl ?_
          refine s_iconst (v := nI 2) dScs_wouldRing_35 (by decide) ?_
          refine s_idiv dScs_wouldRing_36 (by decide) ?_
          refine s_tv (congrArg vI (nI_div (by omega) (by omega))) ?_
          refine s_v1 dScs_wouldRing_37 cv_Scs_38 (by repeat (first | exact up_self | assumption | rw [up_ne (by first | assumption | (intro q0; cases q0; done) | (intro q0; simp at q0; omega))])) (cg) (by first | rfl | exact Nat.ble_eq_true_of_le (by omega)) (by first | rfl | exact Nat.ble_eq_true_of_le (by omega)) (by first | rfl | exact Nat.ble_eq_true_of_le (by omega)) rfl ?_
          refine s_cast dScs_wouldRing_40 (by decide) (nw_Scs_29).2.1 (by repeat (first | exact up_self | assumption | rw [up_ne (by first | assumption | (intro q0; cases q0; done) | (intro q0; simp at q0; omega))])) ?_
          refine s_astore dScs_wouldRing_43 rfl ?_
          refine s_aload dScs_wouldRing_45 rfl ?_
          refine s_get dScs_wouldRing_47 gf_Scs_54 (by repeat (first | exact up_self | assumption | rw [up_ne (by first | assumption | (intro q0; cases q0; done) | (intro q0; simp at q0; omega))])) ?_
          refine s_iload dScs_wouldRing_50 rfl ?_
          refine s_iconst (v := nI 2) dScs_wouldRing_52 (by decide) ?_
          refine s_irem dScs_wouldRing_53 (by decide) ?_
          refine s_tv (congrArg vI (nI_rem (by omega) (by omega))) ?_
          refine s_ialdN dScs_wouldRing_54 (by repeat (first | exact up_self | assumption | rw [up_ne (by first | assumption | (intro q0; cases q0; done) | (intro q0; simp at q0; omega))])) (by omega) (by omega) ?_
          refine s_tv b1 ?_
          refine s_aload dScs_wouldRing_55 rfl ?_
          refine s_get dScs_wouldRing_57 gf_Scs_57 (by repeat (first | exact up_self | assumption | rw [up_ne (by first | assumption | (intro q0; cases q0; done) | (intro q0; simp at q0; omega))])) ?_
          refine s_iload dScs_wouldRing_60 rfl ?_
          refine s_iconst (v := nI 2) dScs_wouldRing_62 (by decide) ?_
          refine s_irem dScs_wouldRing_63 (by decide) ?_
          refine s_tv (congrArg vI (nI_rem (by omega) (by omega))) ?_
          refine s_ialdN dScs_wouldRing_64 (by repeat (first | exact up_self | assumption | rw [up_ne (by first | assumption | (intro q0; cases q0; done) | (intro q0; simp at q0; omega))])) (by omega) (by omega) ?_
          refine s_tv b2 ?_
          refine s_t2 dScs_wouldRing_65 cs_Scs_60 (ce) (by first | rfl | exact Nat.ble_eq_true_of_le (by omega)) (by first | rfl | exact Nat.ble_eq_true_of_le (by omega)) (by first | rfl | exact Nat.ble_eq_true_of_le (by omega)) rfl ?_
          refine s_istore dScs_wouldRing_68 rfl ?_
          first | refine s_iincN dScs_wouldRing_70 rfl rfl ?_ | refine s_iinc dScs_wouldRing_70 rfl rfl ?_
          refine s_goto dScs_wouldRing_73 ?_
          refine s_iload dScs_wouldRing_10 rfl ?_
          refine s_bipush (v := nI 16) dScs_wouldRing_12 (by decide) ?_
          refine s_icmp_ge dScs_wouldRing_14 (fun _ => ?_) (fun q => absurd (by rw [c2]; decide) q)
          refine s_iload dScs_wouldRing_76 rfl ?_
          refine s_iload_n dScs_wouldRing_78 rfl rfl ?_
          refine s_icmp_ne dScs_wouldRing_79 (fun _ => ?_) (fun q => absurd q (fun q0 => nI_m1 (k := t) (by omega) q0.symm))
          refine s_iconst (v := 0) dScs_wouldRing_86 (by decide) ?_
          refine s_zret dScs_wouldRing_87 rfl (by first | exact Or.inl rfl | exact Or.inr rfl | assumption) (by first | exact Nat.le_refl _ | decide | omega) (by first | exact Nat.le_refl _ | decide | omega) ?_
          exact hq
        · refine s_iload dScs_wouldRing_10 rfl ?_
          refine s_bipush (v := nI 16) dScs_wouldRing_12 (by decide) ?_
          refine s_icmp_ge dScs_wouldRing_14 (fun q => absurd q (nI_ge (show k < 16 by omega) (by omega))) (fun _ => ?_)
          refine s_iload dScs_wouldRing_17 rfl ?_
          refine s_iconst (v := (-1)) dScs_wouldRing_19 (by decide) ?_
          refine s_icmp_eq dScs_wouldRing_20 (fun q => absurd q (nI_m1 (by omega))) (fun _ => ?_)
          refine s_iload dScs_wouldRing_23 rfl ?_
          refine s_iload_n dScs_wouldRing_25 rfl rfl ?_
          refine s_icmp_eq dScs_wouldRing_26 (fun q => absurd q (nI_ne c1 (by omega) (by omega))) (fun _ => ?_)
          refine s_aload_n dScs_wouldRing_29 rfl rfl ?_
          refine s_get dScs_wouldRing_30 gf_Scs_12 (by repeat (first | exact up_self | assumption | rw [up_ne (by first | assumption | (intro q0; cases q0; done) | (intro q0; simp at q0; omega))])) ?_
          refine s_iload dScs_wouldRing_33 rfl ?_
          refine s_iconst (v := nI 2) dScs_wouldRing_35 (by decide) ?_
          refine s_idiv dScs_wouldRing_36 (by decide) ?_
          refine s_tv (congrArg vI (nI_div (by omega) (by omega))) ?_
          refine s_v1 dScs_wouldRing_37 cv_Scs_38 (by repeat (first | exact up_self | assumption | rw [up_ne (by first | assumption | (intro q0; cases q0; done) | (intro q0; simp at q0; omega))])) (cg) (by first | rfl | exact Nat.ble_eq_true_of_le (by omega)) (by first | rfl | exact Nat.ble_eq_true_of_le (by omega)) (by first | rfl | exact Nat.ble_eq_true_of_le (by omega)) rfl ?_
          refine s_cast dScs_wouldRing_40 (by decide) (nw_Scs_29).2.1 (by repeat (first | exact up_self | assumption | rw [up_ne (by first | assumption | (intro q0; cases q0; done) | (intro q0; simp at q0; omega))])) ?_
          refine s_astore dScs_wouldRing_43 rfl ?_
          refine s_aload dScs_wouldRing_45 rfl ?_
          refine s_get dScs_wouldRing_47 gf_Scs_54 (by repeat (first | exact up_self | assumption | rw [up_ne (by first | assumption | (intro q0; cases q0; done) | (intro q0; simp at q0; omega))])) ?_
          refine s_iload dScs_wouldRing_50 rfl ?_
          refine s_iconst (v := nI 2) dScs_wouldRing_52 (by decide) ?_
          refine s_irem dScs_wouldRing_53 (by decide) ?_
          refine s_tv (congrArg vI (nI_rem (by omega) (by omega))) ?_
          refine s_ialdN dScs_wouldRing_54 (by repeat (first | exact up_self | assumption | rw [up_ne (by first | assumption | (intro q0; cases q0; done) | (intro q0; simp at q0; omega))])) (by omega) (by omega) ?_
          refine s_tv b1 ?_
          refine s_aload dScs_wouldRing_55 rfl ?_
          refine s_get dScs_wouldRing_57 gf_Scs_57 (by repeat (first | exact up_self | assumption | rw [up_ne (by first | assumption | (intro q0; cases q0; done) | (intro q0; simp at q0; omega))])) ?_
          refine s_iload dScs_wouldRing_60 rfl ?_
          refine s_iconst (v := nI 2) dScs_wouldRing_62 (by decide) ?_
          refine s_irem dScs_wouldRing_63 (by decide) ?_
          refine s_tv (congrArg vI (nI_rem (by omega) (by omega))) ?_
          refine s_ialdN dScs_wouldRing_64 (by repeat (first | exact up_self | assumption | rw [up_ne (by first | assumption | (intro q0; cases q0; done) | (intro q0; simp at q0; omega))])) (by omega) (by omega) ?_
          refine s_tv b2 ?_
          refine s_t2 dScs_wouldRing_65 cs_Scs_60 (ce) (by first | rfl | exact Nat.ble_eq_true_of_le (by omega)) (by first | rfl | exact Nat.ble_eq_true_of_le (by omega)) (by first | rfl | exact Nat.ble_eq_true_of_le (by omega)) rfl ?_
          refine s_istore dScs_wouldRing_68 rfl ?_
          first | refine s_iincN dScs_wouldRing_70 rfl rfl ?_ | refine s_iinc dScs_wouldRing_70 rfl rfl ?_
          refine s_goto dScs_wouldRing_73 ?_
          refine s_iload dScs_wouldRing_10 rfl ?_
          refine s_bipush (v := nI 16) dScs_wouldRing_12 (by decide) ?_
          refine s_icmp_ge dScs_wouldRing_14 (fun q => absurd q (nI_ge (show k + 1 < 16 by omega) (by omega))) (fun _ => ?_)
          refine s_iload dScs_wouldRing_17 rfl ?_
          refine s_iconst (v := (-1)) dScs_wouldRing_19 (by decide) ?_
          refine s_icmp_eq dScs_wouldRing_20 (fun _ => ?_) (fun q => absurd rfl q)
          refine s_iload dScs_wouldRing_76 rfl ?_
          refine s_iload_n dScs_wouldRing_78 rfl rfl ?_
          refine s_icmp_ne dScs_wouldRing_79 (fun _ => ?_) (fun q => absurd q (fun q0 => nI_m1 (k := t) (by omega) q0.symm))
          refine s_iconst (v := 0) dScs_wouldRing_86 (by decide) ?_
          refine s_zret dScs_wouldRing_87 rfl (by first | exact Or.inl rfl | exact Or.inr rfl | assumption) (by first | exact Nat.le_refl _ | decide | omega) (by first | exact Nat.le_refl _ | decide | omega) ?_
          exact hq
      | some e' =>
        rw [evI_s hev] at ce
        refine s_iload dScs_wouldRing_10 rfl ?_
        refine s_bipush (v := nI 16) dScs_wouldRing_12 (by decide) ?_
        refine s_icmp_ge dScs_wouldRing_14 (fun q => absurd q (nI_ge (show k < 16 by omega) (by omega))) (fun _ => ?_)
        refine s_iload dScs_wouldRing_17 rfl ?_
        refine s_iconst (v := (-1)) dScs_wouldRing_19 (by decide) ?_
        refine s_icmp_eq dScs_wouldRing_20 (fun q => absurd q (nI_m1 (by omega))) (fun _ => ?_)
        refine s_iload dScs_wouldRing_23 rfl ?_
        refine s_iload_n dScs_wouldRing_25 rfl rfl ?_
        refine s_icmp_eq dScs_wouldRing_26 (fun q => absurd q (nI_ne c1 (by omega) (by omega))) (fun _ => ?_)
        refine s_aload_n dScs_wouldRing_29 rfl rfl ?_
        refine s_get dScs_wouldRing_30 gf_Scs_12 (by repeat (first | exact up_self | assumption | rw [up_ne (by first | assumption | (intro q0; cases q0; done) | (intro q0; simp at q0; omega))])) ?_
        refine s_iload dScs_wouldRing_33 rfl ?_
        refine s_iconst (v := nI 2) dScs_wouldRing_35 (by decide) ?_
        refine s_idiv dScs_wouldRing_36 (by decide) ?_
        refine s_tv (congrArg vI (nI_div (by omega) (by omega))) ?_
        refine s_v1 dScs_wouldRing_37 cv_Scs_38 (by repeat (first | exact up_self | assumption | rw [up_ne (by first | assumption | (intro q0; cases q0; done) | (intro q0; simp at q0; omega))])) (cg) (by first | rfl | exact Nat.ble_eq_true_of_le (by omega)) (by first | rfl | exact Nat.ble_eq_true_of_le (by omega)) (by first | rfl | exact Nat.ble_eq_true_of_le (by omega)) rfl ?_
        refine s_cast dScs_wouldRing_40 (by decide) (nw_Scs_29).2.1 (by repeat (first | exact up_self | assumption | rw [up_ne (by first | assumption | (intro q0; cases q0; done) | (intro q0; simp at q0; omega))])) ?_
        refine s_astore dScs_wouldRing_43 rfl ?_
        refine s_aload dScs_wouldRing_45 rfl ?_
        refine s_get dScs_wouldRing_47 gf_Scs_54 (by repeat (first | exact up_self | assumption | rw [up_ne (by first | assumption | (intro q0; cases q0; done) | (intro q0; simp at q0; omega))])) ?_
        refine s_iload dScs_wouldRing_50 rfl ?_
        refine s_iconst (v := nI 2) dScs_wouldRing_52 (by decide) ?_
        refine s_irem dScs_wouldRing_53 (by decide) ?_
        refine s_tv (congrArg vI (nI_rem (by omega) (by omega))) ?_
        refine s_ialdN dScs_wouldRing_54 (by repeat (first | exact up_self | assumption | rw [up_ne (by first | assumption | (intro q0; cases q0; done) | (intro q0; simp at q0; omega))])) (by omega) (by omega) ?_
        refine s_tv b1 ?_
        refine s_aload dScs_wouldRing_55 rfl ?_
        refine s_get dScs_wouldRing_57 gf_Scs_57 (by repeat (first | exact up_self | assumption | rw [up_ne (by first | assumption | (intro q0; cases q0; done) | (intro q0; simp at q0; omega))])) ?_
        refine s_iload dScs_wouldRing_60 rfl ?_
        refine s_iconst (v := nI 2) dScs_wouldRing_62 (by decide) ?_
        refine s_irem dScs_wouldRing_63 (by decide) ?_
        refine s_tv (congrArg vI (nI_rem (by omega) (by omega))) ?_
        refine s_ialdN dScs_wouldRing_64 (by repeat (first | exact up_self | assumption | rw [up_ne (by first | assumption | (intro q0; cases q0; done) | (intro q0; simp at q0; omega))])) (by omega) (by omega) ?_
        refine s_tv b2 ?_
        refine s_t2 dScs_wouldRing_65 cs_Scs_60 (ce) (by first | rfl | exact Nat.ble_eq_true_of_le (by omega)) (by first | rfl | exact Nat.ble_eq_true_of_le (by omega)) (by first | rfl | exact Nat.ble_eq_true_of_le (by omega)) rfl ?_
        refine s_istore dScs_wouldRing_68 rfl ?_
        first | refine s_iincN dScs_wouldRing_70 rfl rfl ?_ | refine s_iinc dScs_wouldRing_70 rfl rfl ?_
        refine s_goto dScs_wouldRing_73 ?_
        refine ih1 (k + 1) e' _ (by omega) (evO_lt P he hev) ?_
        rw [show chn σ t (n + 1) e = chn σ t n e' by simp [chn, c1, hev]] at hq
        exact hq
theorem c_ring {h : Hp} {σ : Sg} {NS t k : Nat} {x : Int32} (I : nC h σ NS) (P : AP σ (2 * NS) NS) (ht : t < 2 * NS) (hk : k ≤ 4) (hx : k = 2 ∨ k = 3 → ∃ y, y < NS ∧ x = nI y) : ConF mScs_wouldRing 3 [vR (38, 0, 0), vI (nI t), vI (nI k), vI x] h (some (vI (zi (ring σ t k x)))) h := by
  have hNS := P.1
  have ce := c_eventOf (h := h) (c := k) (x := x) (y := nt x) hk (fun z1 => by
    obtain ⟨y, hy, rfl⟩ := hx z1
    rw [nt_nI (by omega)]
    exact ⟨rfl, by omega⟩)
  unfold ring
  refine c_enter (by decide +kernel) rfl rfl ?_
  cases hev : evO (nI k) x with
  | none =>
    rw [evI_m1 hev] at ce
    refine s_iload_n dScs_wouldRing_0 rfl rfl ?_
    refine s_iload_n dScs_wouldRing_1 rfl rfl ?_
    refine s_t2 dScs_wouldRing_2 cs_Scs_60 (ce) (by first | rfl | exact Nat.ble_eq_true_of_le (by omega)) (by first | rfl | exact Nat.ble_eq_true_of_le (by omega)) (by first | rfl | exact Nat.ble_eq_true_of_le (by omega)) rfl ?_
    refine s_istore dScs_wouldRing_5 rfl ?_
    refine s_iconst (v := 0) dScs_wouldRing_7 (by decide) ?_
    refine s_istore dScs_wouldRing_8 rfl ?_
    refine s_iload dScs_wouldRing_10 rfl ?_
    refine s_bipush (v := nI 16) dScs_wouldRing_12 (by decide) ?_
    refine s_icmp_ge dScs_wouldRing_14 (fun q => absurd q (by decide)) (fun _ => ?_)
    refine s_iload dScs_wouldRing_17 rfl ?_
    refine s_iconst (v := (-1)) dScs_wouldRing_19 (by decide) ?_
    refine s_icmp_eq dScs_wouldRing_20 (fun _ => ?_) (fun q => absurd rfl q)
    refine s_iload dScs_wouldRing_76 rfl ?_
    refine s_iload_n dScs_wouldRing_78 rfl rfl ?_
    refine s_icmp_ne dScs_wouldRing_79 (fun _ => ?_) (fun q => absurd q (fun q0 => nI_m1 (k := t) (by omega) q0.symm))
    refine s_iconst (v := 0) dScs_wouldRing_86 (by decide) ?_
    refine s_zret dScs_wouldRing_87 rfl (by first | exact Or.inl rfl | exact Or.inr rfl | assumption) (by first | exact Nat.le_refl _ | decide | omega) (by first | exact Nat.le_refl _ | decide | omega) ?_
    exact ⟨rfl, rfl⟩
  | some e =>
    rw [evI_s hev] at ce
    have he : e < 2 * NS := by
      unfold evO at hev
      split at hev
      · rename_i z1
        obtain ⟨y, hy, rfl⟩ := hx (Or.inl (nI_inj (by omega) (by omega) z1))
        rw [nt_nI (by omega)] at hev
        cases hev
        omega
      · split at hev
        · rename_i z1
          obtain ⟨y, hy, rfl⟩ := hx (Or.inr (nI_inj (by omega) (by omega) z1))
          rw [nt_nI (by omega)] at hev
          cases hev
          omega
        · cases hev
    refine s_iload_n dScs_wouldRing_0 rfl rfl ?_
    refine s_iload_n dScs_wouldRing_1 rfl rfl ?_
    refine s_t2 dScs_wouldRing_2 cs_Scs_60 (ce) (by first | rfl | exact Nat.ble_eq_true_of_le (by omega)) (by first | rfl | exact Nat.ble_eq_true_of_le (by omega)) (by first | rfl | exact Nat.ble_eq_true_of_le (by omega)) rfl ?_
    refine s_istore dScs_wouldRing_5 rfl ?_
    refine s_iconst (v := 0) dScs_wouldRing_7 (by decide) ?_
    refine s_istore dScs_wouldRing_8 rfl ?_
    exact l_ring I P ht 16 0 e _ (by omega) he ⟨rfl, rfl⟩
theorem c_setAnchor {h : Hp} {σ : Sg} {NS t : Nat} {c x : Int32} (I : nC h σ NS) (hNS : NS ≤ 8) (ht : t < 2 * NS) : Con mScs_setAnchor 3 0 0 [vR (38, 0, 0), vI (nI t), vI c, vI x] h (fun r h' => r = none ∧ fT [42] h h' ∧ nC h' (us (us σ 44 t c) 45 t x) NS) := by
  have I0 := I
  obtain ⟨⟨e1, fe, e2, e3⟩, e4, e5, e6⟩ := I
  obtain ⟨cap, z, f0, el, -⟩ := id e4
  obtain ⟨a1, f, g, a2, a3, a4⟩ := e5 (t / 2) (by omega)
  have cg := c_get e4 (nmL_get (t := 41) (show t / 2 < NS by omega))
  refine c_enter (by decide +kernel) rfl rfl ?_
  refine s_aload_n dScs_setAnchor_0 rfl rfl ?_
  refine s_get dScs_setAnchor_1 gf_Scs_12 (by repeat (first | exact up_self | assumption | rw [up_ne (by first | assumption | (intro q0; cases q0; done) | (intro q0; simp at q0; omega))])) ?_
  refine s_iload_n dScs_setAnchor_4 rfl rfl ?_
  refine s_iconst (v := nI 2) dScs_setAnchor_5 (by decide) ?_
  refine s_idiv dScs_setAnchor_6 (by decide) ?_
  refine s_tv (congrArg vI (nI_div (by omega) (by omega))) ?_
  refine s_v1 dScs_setAnchor_7 cv_Scs_38 (by repeat (first | exact up_self | assumption | rw [up_ne (by first | assumption | (intro q0; cases q0; done) | (intro q0; simp at q0; omega))])) (cg) (by first | rfl | exact Nat.ble_eq_true_of_le (by omega)) (by first | rfl | exact Nat.ble_eq_true_of_le (by omega)) (by first | rfl | exact Nat.ble_eq_true_of_le (by omega)) rfl ?_
  refine s_cast dScs_setAnchor_10 (by decide) (nw_Scs_29).2.1 (by repeat (first | exact up_self | assumption | rw [up_ne (by first | assumption | (intro q0; cases q0; done) | (intro q0; simp at q0; omega))])) ?_
  refine s_astore dScs_setAnchor_13 rfl ?_
  refine s_aload dScs_setAnchor_15 rfl ?_
  refine s_get dScs_setAnchor_17 gf_Scs_54 (by repeat (first | exact up_self | assumption | rw [up_ne (by first | assumption | (intro q0; cases q0; done) | (intro q0; simp at q0; omega))])) ?_
  refine s_iload_n dScs_setAnchor_20 rfl rfl ?_
  refine s_iconst (v := nI 2) dScs_setAnchor_21 (by decide) ?_
  refine s_irem dScs_setAnchor_22 (by decide) ?_
  refine s_tv (congrArg vI (nI_rem (by omega) (by omega))) ?_
  refine s_iload_n dScs_setAnchor_23 rfl rfl ?_
  refine s_iastN dScs_setAnchor_24 (by repeat (first | exact up_self | assumption | rw [up_ne (by first | assumption | (intro q0; cases q0; done) | (intro q0; simp at q0; omega))])) (by first | rfl | assumption) (by omega) (by omega) ?_
  refine s_aload dScs_setAnchor_25 rfl ?_
  refine s_get dScs_setAnchor_27 gf_Scs_57 (by repeat (first | exact up_self | assumption | rw [up_ne (by first | assumption | (intro q0; cases q0; done) | (intro q0; simp at q0; omega))])) ?_
  refine s_iload_n dScs_setAnchor_30 rfl rfl ?_
  refine s_iconst (v := nI 2) dScs_setAnchor_31 (by decide) ?_
  refine s_irem dScs_setAnchor_32 (by decide) ?_
  refine s_tv (congrArg vI (nI_rem (by omega) (by omega))) ?_
  refine s_iload_n dScs_setAnchor_33 rfl rfl ?_
  refine s_iastN dScs_setAnchor_34 (by repeat (first | exact up_self | assumption | rw [up_ne (by first | assumption | (intro q0; cases q0; done) | (intro q0; simp at q0; omega))])) (by first | rfl | assumption) (by omega) (by omega) ?_
  refine s_vret dScs_setAnchor_35 rfl (by first | exact Nat.le_refl _ | decide | omega) (by first | exact Nat.le_refl _ | decide | omega) ?_
  have τo : ∀ k i, (k ≠ 44 ∧ k ≠ 45) ∨ i ≠ t → us (us σ 44 t c) 45 t x k i = σ k i := fun k i b1 => by rw [us_o (by omega), us_o (by omega)]
  have F : fT [42] h (up (up h (42, t / 2, 0) (20, 2, upf f (t % 2) (vI c))) (42, t / 2, 1) (20, 2, upf g (t % 2) (vI x))) := (fT.rf.v).v
  refine ⟨rfl, F, ⟨?_, fe, ?_, fun i q1 => ?_⟩, ?_, fun s q1 => ?_, fun s q1 cc => ?_⟩
  · rw [F _ (show (38 : Nat) ∉ [42] by decide), τo 49 0 (by omega), τo 47 0 (by omega)]; exact e1
  · rw [F _ (show (38 : Nat) ∉ [42] by decide)]; exact e2
  · rw [τo 49 0 (by omega)] at q1
    rw [τo 48 i (by omega)]
    exact e3 i q1
  · exact e4.ag (F.ag (by decide))
  · obtain ⟨s1, fs, gs, s2, s3, s4⟩ := e5 s q1
    refine ⟨by rw [F _ (show (41 : Nat) ∉ [42] by decide), τo 41 s (by omega), τo 42 s (by omega), τo 43 s (by omega)]; exact s1, ?_⟩
    by_cases c1 : s = t / 2
    · subst c1
      rw [a2] at s2
      rw [a3] at s3
      cases s2
      cases s3
      refine ⟨upf f (t % 2) (vI c), upf g (t % 2) (vI x), ?_, up_self, fun e q2 => ?_⟩
      · rw [up_ne (fun q0 => by simp at q0), up_self]
      · unfold upf
        by_cases c2 : e = t % 2
        · rw [if_pos c2, if_pos c2, show 2 * (t / 2) + e = t by omega, us_s, us_k (by decide), us_s]
          exact ⟨rfl, rfl⟩
        · rw [if_neg c2, if_neg c2, τo 44 _ (by omega), τo 45 _ (by omega)]
          exact s4 e q2
    · refine ⟨fs, gs, ?_, ?_, fun e q2 => ?_⟩
      · rw [up_ne (fun q0 => by simp at q0), up_ne (fun q0 => by simp at q0; omega)]; exact s2
      · rw [up_ne (fun q0 => by simp at q0; omega), up_ne (fun q0 => by simp at q0)]; exact s3
      · rw [τo 44 _ (by omega), τo 45 _ (by omega)]
        exact s4 e q2
  · rw [F _ (show (41 : Nat) ∉ [42] by decide), up_ne (fun q0 => by simp at q0; omega), up_ne (fun q0 => by simp at q0; omega)]
    exact e6 s q1 cc
theorem c_X_anchor {h : Hp} {σ : Sg} {v : Nat → Int32} {NS N : Nat} {aa vv oo tb : Int32} (s d c x : Int32) (M1 : mnC h aa vv oo tb) (I : nC h σ NS) (Is : sC h σ v N) (hN : N ≤ 20) (P : AP σ (2 * NS) NS) : Con mX_anchor 4 0 0 [vR (10, 0, 0), vI s, vI d, vI c, vI x] h (fun r h' => r = some (vI (fAnchor σ s d c x NS N).1) ∧ fT [42] h h' ∧ nC h' (fAnchor σ s d c x NS N).2 NS) := by
  have M0 := M1
  unfold mnC at M1
  have e1 := I.1.1
  have hNS := P.1
  have ca := c_isAnchor c x I hNS Is hN
  unfold fAnchor
  refine c_enter (by decide +kernel) rfl rfl ?_
  rcases iy_cases s (K := NS) (by omega) with ⟨q1, hz⟩ | ⟨i, hi, rfl, q1⟩
  · rw [q1]
    refine s_aload_n dX_anchor_0 rfl rfl ?_
    refine s_get dX_anchor_1 gf_X_49 (by repeat (first | exact up_self | assumption | rw [up_ne (by first | assumption | (intro q0; cases q0; done) | (intro q0; simp at q0; omega))])) ?_
    refine s_iload_n dX_anchor_4 rfl rfl ?_
    refine s_v1 dX_anchor_5 cv_X_164 (by repeat (first | exact up_self | assumption | rw [up_ne (by first | assumption | (intro q0; cases q0; done) | (intro q0; simp at q0; omega))])) (c_Scs_has I hNS hz) (by first | rfl | exact Nat.ble_eq_true_of_le (by omega)) (by first | rfl | exact Nat.ble_eq_true_of_le (by omega)) (by first | rfl | exact Nat.ble_eq_true_of_le (by omega)) rfl ?_
    refine s_if_eq dX_anchor_8 (fun _ => ?_) (fun q => absurd rfl q)
    refine s_iconst (v := (-1)) dX_anchor_33 (by decide) ?_
    refine s_iret dX_anchor_34 rfl (by first | exact Nat.le_refl _ | decide | omega) (by first | exact Nat.le_refl _ | decide | omega) ?_
    exact ⟨rfl, fT.rf, I⟩
  · rw [q1]
    have ch := c_Scs_has I hNS (Iy1 hi)
    rcases iy_cases d (K := 2) (by omega) with ⟨q2, hz⟩ | ⟨j, hj, rfl, q2⟩
    · rw [q2]
      rcases hz with ⟨z1, -⟩ | ⟨-, hz⟩
      · cases z1
      · have n0 : ¬ d = 0 := fun z1 => hz (by rw [z1]; decide)
        have n1 : ¬ d = 1 := fun z1 => hz (by rw [z1]; decide)
        refine s_aload_n dX_anchor_0 rfl rfl ?_
        refine s_get dX_anchor_1 gf_X_49 (by repeat (first | exact up_self | assumption | rw [up_ne (by first | assumption | (intro q0; cases q0; done) | (intro q0; simp at q0; omega))])) ?_
        refine s_iload_n dX_anchor_4 rfl rfl ?_
        refine s_v1 dX_anchor_5 cv_X_164 (by repeat (first | exact up_self | assumption | rw [up_ne (by first | assumption | (intro q0; cases q0; done) | (intro q0; simp at q0; omega))])) (ch) (by first | rfl | exact Nat.ble_eq_true_of_le (by omega)) (by first | rfl | exact Nat.ble_eq_true_of_le (by omega)) (by first | rfl | exact Nat.ble_eq_true_of_le (by omega)) rfl ?_
        refine s_if_eq dX_anchor_8 (fun q => absurd q (by decide)) (fun _ => ?_)
        refine s_iload_n dX_anchor_11 rfl rfl ?_
        refine s_if_eq dX_anchor_12 (fun q => absurd q n0) (fun _ => ?_)
        refine s_iload_n dX_anchor_15 rfl rfl ?_
        refine s_iconst (v := 1) dX_anchor_16 (by decide) ?_
        refine s_icmp_ne dX_anchor_17 (fun _ => ?_) (fun q => absurd q n1)
        refine s_iconst (v := (-1)) dX_anchor_33 (by decide) ?_
        refine s_iret dX_anchor_34 rfl (by first | exact Nat.le_refl _ | decide | omega) (by first | exact Nat.le_refl _ | decide | omega) ?_
        exact ⟨rfl, fT.rf, I⟩
    · rw [q2]
      have K20 : S mX_anchor 4 0 0 (fun r h' => r = some (vI (match (some i : Option Nat), (some j : Option Nat), ix c 5 with
          | some i, some j, some k => if ancOk k x NS N then (if ring σ (2 * i + j) k x then ((-2 : Int32), σ) else (0, us (us σ 44 (2 * i + j) c) 45 (2 * i + j) x)) else (-1, σ)
          | _, _, _ => (-1, σ)).1) ∧ fT [42] h h' ∧ nC h' (match (some i : Option Nat), (some j : Option Nat), ix c 5 with
          | some i, some j, some k => if ancOk k x NS N then (if ring σ (2 * i + j) k x then ((-2 : Int32), σ) else (0, us (us σ 44 (2 * i + j) c) 45 (2 * i + j) x)) else (-1, σ)
          | _, _, _ => (-1, σ)).2 NS) 20 [some (vR (10, 0, 0)), some (vI (nI i)), some (vI (nI j)), some (vI c), some (vI x)] [] h 0 0 := by
        rcases iy_cases c (K := 5) (by omega) with ⟨q3, hz⟩ | ⟨k, hk, rfl, q3⟩
        · rw [q3] at ca ⊢
          dsimp only at ca ⊢
          refine s_aload_n dX_anchor_20 rfl rfl ?_
          refine s_get dX_anchor_21 gf_X_49 (by repeat (first | exact up_self | assumption | rw [up_ne (by first | assumption | (intro q0; cases q0; done) | (intro q0; simp at q0; omega))])) ?_
          refine s_iload_n dX_anchor_24 rfl rfl ?_
          refine s_iload dX_anchor_25 rfl ?_
          refine s_v2 dX_anchor_27 cv_X_247 (by repeat (first | exact up_self | assumption | rw [up_ne (by first | assumption | (intro q0; cases q0; done) | (intro q0; simp at q0; omega))])) (ca) (by first | rfl | exact Nat.ble_eq_true_of_le (by omega)) (by first | rfl | exact Nat.ble_eq_true_of_le (by omega)) (by first | rfl | exact Nat.ble_eq_true_of_le (by omega)) rfl ?_
          refine s_if_ne dX_anchor_30 (fun q => absurd rfl q) (fun _ => ?_)
          refine s_iconst (v := (-1)) dX_anchor_33 (by decide) ?_
          refine s_iret dX_anchor_34 rfl (by first | exact Nat.le_refl _ | decide | omega) (by first | exact Nat.le_refl _ | decide | omega) ?_
          exact ⟨rfl, fT.rf, I⟩
        · rw [q3] at ca ⊢
          dsimp only at ca ⊢
          cases eo : ancOk k x NS N with
          | false =>
            rw [eo] at ca
            rw [if_neg (by decide)]
            refine s_aload_n dX_anchor_20 rfl rfl ?_
            refine s_get dX_anchor_21 gf_X_49 (by repeat (first | exact up_self | assumption | rw [up_ne (by first | assumption | (intro q0; cases q0; done) | (intro q0; simp at q0; omega))])) ?_
            refine s_iload_n dX_anchor_24 rfl rfl ?_
            refine s_iload dX_anchor_25 rfl ?_
            refine s_v2 dX_anchor_27 cv_X_247 (by repeat (first | exact up_self | assumption | rw [up_ne (by first | assumption | (intro q0; cases q0; done) | (intro q0; simp at q0; omega))])) (ca) (by first | rfl | exact Nat.ble_eq_true_of_le (by omega)) (by first | rfl | exact Nat.ble_eq_true_of_le (by omega)) (by first | rfl | exact Nat.ble_eq_true_of_le (by omega)) rfl ?_
            refine s_if_ne dX_anchor_30 (fun q => absurd rfl q) (fun _ => ?_)
            refine s_iconst (v := (-1)) dX_anchor_33 (by decide) ?_
            refine s_iret dX_anchor_34 rfl (by first | exact Nat.le_refl _ | decide | omega) (by first | exact Nat.le_refl _ | decide | omega) ?_
            exact ⟨rfl, fT.rf, I⟩
          | true =>
            rw [eo] at ca
            rw [if_pos rfl]
            have cr := c_ring (t := 2 * i + j) (k := k) (x := x) I P (by omega) (by omega) (fun z1 => by
              rcases iy_cases x (K := NS) (by omega) with ⟨q4, -⟩ | ⟨y, hy, ey, -⟩
              · rcases z1 with rfl | rfl <;> simp [ancOk, q4] at eo
              · exact ⟨y, hy, ey⟩)
            cases er : ring σ (2 * i + j) k x with
            | true =>
              rw [er] at cr
              rw [if_pos rfl]
              refine s_aload_n dX_anchor_20 rfl rfl ?_
              refine s_get dX_anchor_21 gf_X_49 (by repeat (first | exact up_self | assumption | rw [up_ne (by first | assumption | (intro q0; cases q0; done) | (intro q0; simp at q0; omega))])) ?_
              refine s_iload_n dX_anchor_24 rfl rfl ?_
              refine s_iload dX_anchor_25 rfl ?_
              refine s_v2 dX_anchor_27 cv_X_247 (by repeat (first | exact up_self | assumption | rw [up_ne (by first | assumption | (intro q0; cases q0; done) | (intro q0; simp at q0; omega))])) (ca) (by first | rfl | exact Nat.ble_eq_true_of_le (by omega)) (by first | rfl | exact Nat.ble_eq_true_of_le (by omega)) (by first | rfl | exact Nat.ble_eq_true_of_le (by omega)) rfl ?_
              refine s_if_ne dX_anchor_30 (fun _ => ?_) (fun q => absurd q (by decide))
              refine s_aload_n dX_anchor_35 rfl rfl ?_
              refine s_get dX_anchor_36 gf_X_49 (by repeat (first | exact up_self | assumption | rw [up_ne (by first | assumption | (intro q0; cases q0; done) | (intro q0; simp at q0; omega))])) ?_
              refine s_iconst (v := nI 2) dX_anchor_39 (by decide) ?_
              refine s_iload_n dX_anchor_40 rfl rfl ?_
              first | refine s_imulN dX_anchor_41 ?_ | refine s_imul dX_anchor_41 ?_
              refine s_iload_n dX_anchor_42 rfl rfl ?_
              first | refine s_iaddN dX_anchor_43 ?_ | refine s_iadd dX_anchor_43 ?_
              refine s_iload_n dX_anchor_44 rfl rfl ?_
              refine s_iload dX_anchor_45 rfl ?_
              refine s_v3 dX_anchor_47 cv_X_250 (by repeat (first | exact up_self | assumption | rw [up_ne (by first | assumption | (intro q0; cases q0; done) | (intro q0; simp at q0; omega))])) (cr) (by first | rfl | exact Nat.ble_eq_true_of_le (by omega)) (by first | rfl | exact Nat.ble_eq_true_of_le (by omega)) (by first | rfl | exact Nat.ble_eq_true_of_le (by omega)) rfl ?_
              refine s_if_eq dX_anchor_50 (fun q => absurd q (by decide)) (fun _ => ?_)
              refine s_bipush (v := (-2)) dX_anchor_53 (by decide) ?_
              refine s_iret dX_anchor_55 rfl (by first | exact Nat.le_refl _ | decide | omega) (by first | exact Nat.le_refl _ | decide | omega) ?_
              exact ⟨rfl, fT.rf, I⟩
            | false =>
              rw [er] at cr
              rw [if_neg (by decide)]
              refine s_aload_n dX_anchor_20 rfl rfl ?_
              refine s_get dX_anchor_21 gf_X_49 (by repeat (first | exact up_self | assumption | rw [up_ne (by first | assumption | (intro q0; cases q0; done) | (intro q0; simp at q0; omega))])) ?_
              refine s_iload_n dX_anchor_24 rfl rfl ?_
              refine s_iload dX_anchor_25 rfl ?_
              refine s_v2 dX_anchor_27 cv_X_247 (by repeat (first | exact up_self | assumption | rw [up_ne (by first | assumption | (intro q0; cases q0; done) | (intro q0; simp at q0; omega))])) (ca) (by first | rfl | exact Nat.ble_eq_true_of_le (by omega)) (by first | rfl | exact Nat.ble_eq_true_of_le (by omega)) (by first | rfl | exact Nat.ble_eq_true_of_le (by omega)) rfl ?_
              refine s_if_ne dX_anchor_30 (fun _ => ?_) (fun q => absurd q (by decide))
              refine s_aload_n dX_anchor_35 rfl rfl ?_
              refine s_get dX_anchor_36 gf_X_49 (by repeat (first | exact up_self | assumption | rw [up_ne (by first | assumption | (intro q0; cases q0; done) | (intro q0; simp at q0; omega))])) ?_
              refine s_iconst (v := nI 2) dX_anchor_39 (by decide) ?_
              refine s_iload_n dX_anchor_40 rfl rfl ?_
              first | refine s_imulN dX_anchor_41 ?_ | refine s_imul dX_anchor_41 ?_
              refine s_iload_n dX_anchor_42 rfl rfl ?_
              first | refine s_iaddN dX_anchor_43 ?_ | refine s_iadd dX_anchor_43 ?_
              refine s_iload_n dX_anchor_44 rfl rfl ?_
              refine s_iload dX_anchor_45 rfl ?_
              refine s_v3 dX_anchor_47 cv_X_250 (by repeat (first | exact up_self | assumption | rw [up_ne (by first | assumption | (intro q0; cases q0; done) | (intro q0; simp at q0; omega))])) (cr) (by first | rfl | exact Nat.ble_eq_true_of_le (by omega)) (by first | rfl | exact Nat.ble_eq_true_of_le (by omega)) (by first | rfl | exact Nat.ble_eq_true_of_le (by omega)) rfl ?_
              refine s_if_eq dX_anchor_50 (fun _ => ?_) (fun q => absurd rfl q)
              refine s_aload_n dX_anchor_56 rfl rfl ?_
              refine s_get dX_anchor_57 gf_X_49 (by repeat (first | exact up_self | assumption | rw [up_ne (by first | assumption | (intro q0; cases q0; done) | (intro q0; simp at q0; omega))])) ?_
              refine s_iconst (v := nI 2) dX_anchor_60 (by decide) ?_
              refine s_iload_n dX_anchor_61 rfl rfl ?_
              first | refine s_imulN dX_anchor_62 ?_ | refine s_imul dX_anchor_62 ?_
              refine s_iload_n dX_anchor_63 rfl rfl ?_
              first | refine s_iaddN dX_anchor_64 ?_ | refine s_iadd dX_anchor_64 ?_
              refine s_iload_n dX_anchor_65 rfl rfl ?_
              refine s_iload dX_anchor_66 rfl ?_
              refine s_callV (As := [_, _, _]) dX_anchor_68 cv_X_253 (by repeat (first | exact up_self | assumption | rw [up_ne (by first | assumption | (intro q0; cases q0; done) | (intro q0; simp at q0; omega))])) (c_setAnchor (t := 2 * i + j) (c := nI k) (x := x) I hNS (by omega)) (by first | rfl | exact Nat.ble_eq_true_of_le (by omega)) (by first | rfl | exact Nat.ble_eq_true_of_le (by omega)) (by first | rfl | exact Nat.ble_eq_true_of_le (by omega)) rfl (fun v0 h2 q0 => ?_)
              obtain ⟨rfl, F2, I2⟩ := q0
              refine s_iconst (v := 0) dX_anchor_71 (by decide) ?_
              refine s_iret dX_anchor_72 rfl (by first | exact Nat.le_refl _ | decide | omega) (by first | exact Nat.le_refl _ | decide | omega) ?_
              exact ⟨rfl, F2, I2⟩
      rcases (show j = 0 ∨ j = 1 by omega) with rfl | rfl
      · refine s_aload_n dX_anchor_0 rfl rfl ?_
        refine s_get dX_anchor_1 gf_X_49 (by repeat (first | exact up_self | assumption | rw [up_ne (by first | assumption | (intro q0; cases q0; done) | (intro q0; simp at q0; omega))])) ?_
        refine s_iload_n dX_anchor_4 rfl rfl ?_
        refine s_v1 dX_anchor_5 cv_X_164 (by repeat (first | exact up_self | assumption | rw [up_ne (by first | assumption | (intro q0; cases q0; done) | (intro q0; simp at q0; omega))])) (ch) (by first | rfl | exact Nat.ble_eq_true_of_le (by omega)) (by first | rfl | exact Nat.ble_eq_true_of_le (by omega)) (by first | rfl | exact Nat.ble_eq_true_of_le (by omega)) rfl ?_
        refine s_if_eq dX_anchor_8 (fun q => absurd q (by decide)) (fun _ => ?_)
        refine s_iload_n dX_anchor_11 rfl rfl ?_
        refine s_if_eq dX_anchor_12 (fun _ => ?_) (fun q => absurd rfl q)
        exact K20
      · refine s_aload_n dX_anchor_0 rfl rfl ?_
        refine s_get dX_anchor_1 gf_X_49 (by repeat (first | exact up_self | assumption | rw [up_ne (by first | assumption | (intro q0; cases q0; done) | (intro q0; simp at q0; omega))])) ?_
        refine s_iload_n dX_anchor_4 rfl rfl ?_
        refine s_v1 dX_anchor_5 cv_X_164 (by repeat (first | exact up_self | assumption | rw [up_ne (by first | assumption | (intro q0; cases q0; done) | (intro q0; simp at q0; omega))])) (ch) (by first | rfl | exact Nat.ble_eq_true_of_le (by omega)) (by first | rfl | exact Nat.ble_eq_true_of_le (by omega)) (by first | rfl | exact Nat.ble_eq_true_of_le (by omega)) rfl ?_
        refine s_if_eq dX_anchor_8 (fun q => absurd q (by decide)) (fun _ => ?_)
        refine s_iload_n dX_anchor_11 rfl rfl ?_
        refine s_if_eq dX_anchor_12 (fun q => absurd q (by decide)) (fun _ => ?_)
        refine s_iload_n dX_anchor_15 rfl rfl ?_
        refine s_iconst (v := 1) dX_anchor_16 (by decide) ?_
        refine s_icmp_ne dX_anchor_17 (fun q => absurd rfl q) (fun _ => ?_)
        exact K20
