theorem ix_none {p : Int32} {K : Nat} (hK : K < 2 ^ 30) (h : ix p K = none) : p.toInt < 0 ∨ (K : Int) ≤ p.toInt := by
  unfold ix at h
  split at h
  · cases h
  · rename_i q
    by_cases h0 : 0 ≤ p
    · have h1 : ¬ p < nI K := fun z => q ⟨h0, z⟩
      right
      have := Int32.le_iff_toInt_le.mp (Int32.not_lt.mp h1)
      rwa [nI_toInt (by omega)] at this
    · left
      have := Int32.lt_iff_toInt_lt.mp (Int32.not_le.mp h0)
      simpa using this
def cntF : Nat → Nat := fun k => match k with
  | 0 => 0
  | 1 => 2
  | 2 => 5
  | 3 => 8
  | 4 => 33
  | 5 => 35
  | 6 => 37
  | 7 => 40
  | 8 => 50
  | 9 => 29
  | _ => 47
def fCount (σ : Sg) (w : Int32) : Int32 := match ix w 11 with
  | none => -1
  | some j => σ (cntF j) 0
theorem c_M_count {σ : Sg} {h : Hp} (w : Int32) : ConF mM_count 1 [vR (100, 0, 0), vI w] (hM σ h) (some (vI (fCount σ w))) (hM σ h) := by
  unfold fCount
  refine c_enter (by decide +kernel) rfl rfl ?_
  rcases ix_cases w (K := 11) (by omega) with ⟨e, -⟩ | ⟨j, hj, rfl, e⟩
  · have hx := ix_none (by omega) e
    rw [e]
    refine s_iload_n dM_count_0 rfl rfl ?_
    refine s_tabOut (tgt := 115) dM_count_1 (by omega) (by decide) ?_
    refine s_iconst (v := (-1)) dM_count_115 (by decide) ?_
    refine s_iret dM_count_116 rfl (by first | exact Nat.le_refl _ | decide | omega) (by first | exact Nat.le_refl _ | decide | omega) ?_
    exact ⟨rfl, rfl⟩
  · rw [e]
    match j, hj with
    | 0, _ =>
      refine s_iload_n dM_count_0 rfl rfl ?_
      refine s_tabIn (off := 59) (tgt := 60) dM_count_1 (by decide +kernel) (by decide +kernel) (by decide +kernel) (by decide) ?_
      refine s_aload_n dM_count_60 rfl rfl ?_
      refine s_mgi dM_count_61 gf_M_110 rfl ?_
      refine s_iret dM_count_64 rfl (by first | exact Nat.le_refl _ | decide | omega) (by first | exact Nat.le_refl _ | decide | omega) ?_
      exact ⟨rfl, rfl⟩
    | 1, _ =>
      refine s_iload_n dM_count_0 rfl rfl ?_
      refine s_tabIn (off := 64) (tgt := 65) dM_count_1 (by decide +kernel) (by decide +kernel) (by decide +kernel) (by decide) ?_
      refine s_aload_n dM_count_65 rfl rfl ?_
      refine s_mgi dM_count_66 gf_M_125 rfl ?_
      refine s_iret dM_count_69 rfl (by first | exact Nat.le_refl _ | decide | omega) (by first | exact Nat.le_refl _ | decide | omega) ?_
      exact ⟨rfl, rfl⟩
    | 2, _ =>
      refine s_iload_n dM_count_0 rfl rfl ?_
      refine s_tabIn (off := 69) (tgt := 70) dM_count_1 (by decide +kernel) (by decide +kernel) (by decide +kernel) (by decide) ?_
      refine s_aload_n dM_count_70 rfl rfl ?_
      refine s_mgi dM_count_71 gf_M_132 rfl ?_
      refine s_iret dM_count_74 rfl (by first | exact Nat.le_refl _ | decide | omega) (by first | exact Nat.le_refl _ | decide | omega) ?_
      exact ⟨rfl, rfl⟩
    | 3, _ =>
      refine s_iload_n dM_count_0 rfl rfl ?_
      refine s_tabIn (off := 74) (tgt := 75) dM_count_1 (by decide +kernel) (by decide +kernel) (by decide +kernel) (by decide) ?_
      refine s_aload_n dM_count_75 rfl rfl ?_
      refine s_mgi dM_count_76 gf_M_138 rfl ?_
      refine s_iret dM_count_79 rfl (by first | exact Nat.le_refl _ | decide | omega) (by first | exact Nat.le_refl _ | decide | omega) ?_
      exact ⟨rfl, rfl⟩
    | 4, _ =>
      refine s_iload_n dM_count_0 rfl rfl ?_
      refine s_tabIn (off := 79) (tgt := 80) dM_count_1 (by decide +kernel) (by decide +kernel) (by decide +kernel) (by decide) ?_
      refine s_aload_n dM_count_80 rfl rfl ?_
      refine s_mgi dM_count_81 gf_M_227 rfl ?_
      refine s_iret dM_count_84 rfl (by first | exact Nat.le_refl _ | decide | omega) (by first | exact Nat.le_refl _ | decide | omega) ?_
      exact ⟨rfl, rfl⟩
    | 5, _ =>
      refine s_iload_n dM_count_0 rfl rfl ?_
      refine s_tabIn (off := 84) (tgt := 85) dM_count_1 (by decide +kernel) (by decide +kernel) (by decide +kernel) (by decide) ?_
      refine s_aload_n dM_count_85 rfl rfl ?_
      refine s_mgi dM_count_86 gf_M_230 rfl ?_
      refine s_iret dM_count_89 rfl (by first | exact Nat.le_refl _ | decide | omega) (by first | exact Nat.le_refl _ | decide | omega) ?_
      exact ⟨rfl, rfl⟩
    | 6, _ =>
      refine s_iload_n dM_count_0 rfl rfl ?_
      refine s_tabIn (off := 89) (tgt := 90) dM_count_1 (by decide +kernel) (by decide +kernel) (by decide +kernel) (by decide) ?_
      refine s_aload_n dM_count_90 rfl rfl ?_
      refine s_mgi dM_count_91 gf_M_233 rfl ?_
      refine s_iret dM_count_94 rfl (by first | exact Nat.le_refl _ | decide | omega) (by first | exact Nat.le_refl _ | decide | omega) ?_
      exact ⟨rfl, rfl⟩
    | 7, _ =>
      refine s_iload_n dM_count_0 rfl rfl ?_
      refine s_tabIn (off := 94) (tgt := 95) dM_count_1 (by decide +kernel) (by decide +kernel) (by decide +kernel) (by decide) ?_
      refine s_aload_n dM_count_95 rfl rfl ?_
      refine s_mgi dM_count_96 gf_M_144 rfl ?_
      refine s_iret dM_count_99 rfl (by first | exact Nat.le_refl _ | decide | omega) (by first | exact Nat.le_refl _ | decide | omega) ?_
      exact ⟨rfl, rfl⟩
    | 8, _ =>
      refine s_iload_n dM_count_0 rfl rfl ?_
      refine s_tabIn (off := 99) (tgt := 100) dM_count_1 (by decide +kernel) (by decide +kernel) (by decide +kernel) (by decide) ?_
      refine s_aload_n dM_count_100 rfl rfl ?_
      refine s_mgi dM_count_101 gf_M_251 rfl ?_
      refine s_iret dM_count_104 rfl (by first | exact Nat.le_refl _ | decide | omega) (by first | exact Nat.le_refl _ | decide | omega) ?_
      exact ⟨rfl, rfl⟩
    | 9, _ =>
      refine s_iload_n dM_count_0 rfl rfl ?_
      refine s_tabIn (off := 104) (tgt := 105) dM_count_1 (by decide +kernel) (by decide +kernel) (by decide +kernel) (by decide) ?_
      refine s_aload_n dM_count_105 rfl rfl ?_
      refine s_mgi dM_count_106 gf_M_191 rfl ?_
      refine s_iret dM_count_109 rfl (by first | exact Nat.le_refl _ | decide | omega) (by first | exact Nat.le_refl _ | decide | omega) ?_
      exact ⟨rfl, rfl⟩
    | 10, _ =>
      refine s_iload_n dM_count_0 rfl rfl ?_
      refine s_tabIn (off := 109) (tgt := 110) dM_count_1 (by decide +kernel) (by decide +kernel) (by decide +kernel) (by decide) ?_
      refine s_aload_n dM_count_110 rfl rfl ?_
      refine s_mgi dM_count_111 gf_M_242 rfl ?_
      refine s_iret dM_count_114 rfl (by first | exact Nat.le_refl _ | decide | omega) (by first | exact Nat.le_refl _ | decide | omega) ?_
      exact ⟨rfl, rfl⟩
def fAction (σ : Sg) (a b c d e f : Int32) (B N : Nat) : Int32 × Sg := if bN a B && bN b B && bN c B && bN d B && bN e B && bN f B then (if N = 8 then (-3, σ) else (nI N, us (us (us (us (us (us (us σ 34 (6 * N) a) 34 (6 * N + 1) b) 34 (6 * N + 2) c) 34 (6 * N + 3) d) 34 (6 * N + 4) e) 34 (6 * N + 5) f) 33 0 (nI (N + 1)))) else (-1, σ)
theorem c_M_action {σ : Sg} {h : Hp} {B N : Nat} (a b c d e f : Int32) (hB : σ 5 0 = nI B) (h1 : B < 2 ^ 30) (hN : σ 33 0 = nI N) (h3 : N ≤ 8) : ConF mM_action 3 [vR (100, 0, 0), vI a, vI b, vI c, vI d, vI e, vI f] (hM σ h) (some (vI (fAction σ a b c d e f B N).1)) (hM (fAction σ a b c d e f B N).2 h) := by
  unfold fAction
  refine c_enter (by decide +kernel) rfl rfl ?_
  rcases bz_cases a h1 with ⟨e0, hz0⟩ | ⟨e0, hz0⟩
  rotate_left
  · rw [e0]
    refine s_aload_n dM_action_0 rfl rfl ?_
    refine s_iload_n dM_action_1 rfl rfl ?_
    refine s_v1 dM_action_2 cv_M_224 hM_o (c_M_isBookOrNone hB h1 hz0) rfl rfl rfl rfl ?_
    refine s_if_eq dM_action_5 (fun _ => ?_) (fun q => absurd rfl q)
    refine s_iconst (v := (-1)) dM_action_51 (by decide) ?_
    refine s_iret dM_action_52 rfl (by first | exact Nat.le_refl _ | decide | omega) (by first | exact Nat.le_refl _ | decide | omega) ?_
    simp only [Bool.and_false, Bool.false_and, Bool.false_eq_true, if_false]
    exact ⟨trivial, trivial⟩
  rcases bz_cases b h1 with ⟨e1, hz1⟩ | ⟨e1, hz1⟩
  rotate_left
  · rw [e1]
    refine s_aload_n dM_action_0 rfl rfl ?_
    refine s_iload_n dM_action_1 rfl rfl ?_
    refine s_v1 dM_action_2 cv_M_224 hM_o (c_M_isBookOrNone hB h1 hz0) rfl rfl rfl rfl ?_
    refine s_if_eq dM_action_5 (fun q => absurd q (by decide)) (fun _ => ?_)
    refine s_aload_n dM_action_8 rfl rfl ?_
    refine s_iload_n dM_action_9 rfl rfl ?_
    refine s_v1 dM_action_10 cv_M_224 hM_o (c_M_isBookOrNone hB h1 hz1) rfl rfl rfl rfl ?_
    refine s_if_eq dM_action_13 (fun _ => ?_) (fun q => absurd rfl q)
    refine s_iconst (v := (-1)) dM_action_51 (by decide) ?_
    refine s_iret dM_action_52 rfl (by first | exact Nat.le_refl _ | decide | omega) (by first | exact Nat.le_refl _ | decide | omega) ?_
    simp only [Bool.and_false, Bool.false_and, Bool.false_eq_true, if_false]
    exact ⟨trivial, trivial⟩
  rcases bz_cases c h1 with ⟨e2, hz2⟩ | ⟨e2, hz2⟩
  rotate_left
  · rw [e2]
    refine s_aload_n dM_action_0 rfl rfl ?_
    refine s_iload_n dM_action_1 rfl rfl ?_
    refine s_v1 dM_action_2 cv_M_224 hM_o (c_M_isBookOrNone hB h1 hz0) rfl rfl rfl rfl ?_
    refine s_if_eq dM_action_5 (fun q => absurd q (by decide)) (fun _ => ?_)
    refine s_aload_n dM_action_8 rfl rfl ?_
    refine s_iload_n dM_action_9 rfl rfl ?_
    refine s_v1 dM_action_10 cv_M_224 hM_o (c_M_isBookOrNone hB h1 hz1) rfl rfl rfl rfl ?_
    refine s_if_eq dM_action_13 (fun q => absurd q (by decide)) (fun _ => ?_)
    refine s_aload_n dM_action_16 rfl rfl ?_
    refine s_iload_n dM_action_17 rfl rfl ?_
    refine s_v1 dM_action_18 cv_M_224 hM_o (c_M_isBookOrNone hB h1 hz2) rfl rfl rfl rfl ?_
    refine s_if_eq dM_action_21 (fun _ => ?_) (fun q => absurd rfl q)
    refine s_iconst (v := (-1)) dM_action_51 (by decide) ?_
    refine s_iret dM_action_52 rfl (by first | exact Nat.le_refl _ | decide | omega) (by first | exact Nat.le_refl _ | decide | omega) ?_
    simp only [Bool.and_false, Bool.false_and, Bool.false_eq_true, if_false]
    exact ⟨trivial, trivial⟩
  rcases bz_cases d h1 with ⟨e3, hz3⟩ | ⟨e3, hz3⟩
  rotate_left
  · rw [e3]
    refine s_aload_n dM_action_0 rfl rfl ?_
    refine s_iload_n dM_action_1 rfl rfl ?_
    refine s_v1 dM_action_2 cv_M_224 hM_o (c_M_isBookOrNone hB h1 hz0) rfl rfl rfl rfl ?_
    refine s_if_eq dM_action_5 (fun q => absurd q (by decide)) (fun _ => ?_)
    refine s_aload_n dM_action_8 rfl rfl ?_
    refine s_iload_n dM_action_9 rfl rfl ?_
    refine s_v1 dM_action_10 cv_M_224 hM_o (c_M_isBookOrNone hB h1 hz1) rfl rfl rfl rfl ?_
    refine s_if_eq dM_action_13 (fun q => absurd q (by decide)) (fun _ => ?_)
    refine s_aload_n dM_action_16 rfl rfl ?_
    refine s_iload_n dM_action_17 rfl rfl ?_
    refine s_v1 dM_action_18 cv_M_224 hM_o (c_M_isBookOrNone hB h1 hz2) rfl rfl rfl rfl ?_
    refine s_if_eq dM_action_21 (fun q => absurd q (by decide)) (fun _ => ?_)
    refine s_aload_n dM_action_24 rfl rfl ?_
    refine s_iload dM_action_25 rfl ?_
    refine s_v1 dM_action_27 cv_M_224 hM_o (c_M_isBookOrNone hB h1 hz3) rfl rfl rfl rfl ?_
    refine s_if_eq dM_action_30 (fun _ => ?_) (fun q => absurd rfl q)
    refine s_iconst (v := (-1)) dM_action_51 (by decide) ?_
    refine s_iret dM_action_52 rfl (by first | exact Nat.le_refl _ | decide | omega) (by first | exact Nat.le_refl _ | decide | omega) ?_
    simp only [Bool.and_false, Bool.false_and, Bool.false_eq_true, if_false]
    exact ⟨trivial, trivial⟩
  rcases bz_cases e h1 with ⟨e4, hz4⟩ | ⟨e4, hz4⟩
  rotate_left
  · rw [e4]
    refine s_aload_n dM_action_0 rfl rfl ?_
    refine s_iload_n dM_action_1 rfl rfl ?_
    refine s_v1 dM_action_2 cv_M_224 hM_o (c_M_isBookOrNone hB h1 hz0) rfl rfl rfl rfl ?_
    refine s_if_eq dM_action_5 (fun q => absurd q (by decide)) (fun _ => ?_)
    refine s_aload_n dM_action_8 rfl rfl ?_
    refine s_iload_n dM_action_9 rfl rfl ?_
    refine s_v1 dM_action_10 cv_M_224 hM_o (c_M_isBookOrNone hB h1 hz1) rfl rfl rfl rfl ?_
    refine s_if_eq dM_action_13 (fun q => absurd q (by decide)) (fun _ => ?_)
    refine s_aload_n dM_action_16 rfl rfl ?_
    refine s_iload_n dM_action_17 rfl rfl ?_
    refine s_v1 dM_action_18 cv_M_224 hM_o (c_M_isBookOrNone hB h1 hz2) rfl rfl rfl rfl ?_
    refine s_if_eq dM_action_21 (fun q => absurd q (by decide)) (fun _ => ?_)
    refine s_aload_n dM_action_24 rfl rfl ?_
    refine s_iload dM_action_25 rfl ?_
    refine s_v1 dM_action_27 cv_M_224 hM_o (c_M_isBookOrNone hB h1 hz3) rfl rfl rfl rfl ?_
    refine s_if_eq dM_action_30 (fun q => absurd q (by decide)) (fun _ => ?_)
    refine s_aload_n dM_action_33 rfl rfl ?_
    refine s_iload dM_action_34 rfl ?_
    refine s_v1 dM_action_36 cv_M_224 hM_o (c_M_isBookOrNone hB h1 hz4) rfl rfl rfl rfl ?_
    refine s_if_eq dM_action_39 (fun _ => ?_) (fun q => absurd rfl q)
    refine s_iconst (v := (-1)) dM_action_51 (by decide) ?_
    refine s_iret dM_action_52 rfl (by first | exact Nat.le_refl _ | decide | omega) (by first | exact Nat.le_refl _ | decide | omega) ?_
    simp only [Bool.and_false, Bool.false_and, Bool.false_eq_true, if_false]
    exact ⟨trivial, trivial⟩
  rcases bz_cases f h1 with ⟨e5, hz5⟩ | ⟨e5, hz5⟩
  rotate_left
  · rw [e5]
    refine s_aload_n dM_action_0 rfl rfl ?_
    refine s_iload_n dM_action_1 rfl rfl ?_
    refine s_v1 dM_action_2 cv_M_224 hM_o (c_M_isBookOrNone hB h1 hz0) rfl rfl rfl rfl ?_
    refine s_if_eq dM_action_5 (fun q => absurd q (by decide)) (fun _ => ?_)
    refine s_aload_n dM_action_8 rfl rfl ?_
    refine s_iload_n dM_action_9 rfl rfl ?_
    refine s_v1 dM_action_10 cv_M_224 hM_o (c_M_isBookOrNone hB h1 hz1) rfl rfl rfl rfl ?_
    refine s_if_eq dM_action_13 (fun q => absurd q (by decide)) (fun _ => ?_)
    refine s_aload_n dM_action_16 rfl rfl ?_
    refine s_iload_n dM_action_17 rfl rfl ?_
    refine s_v1 dM_action_18 cv_M_224 hM_o (c_M_isBookOrNone hB h1 hz2) rfl rfl rfl rfl ?_
    refine s_if_eq dM_action_21 (fun q => absurd q (by decide)) (fun _ => ?_)
    refine s_aload_n dM_action_24 rfl rfl ?_
    refine s_iload dM_action_25 rfl ?_
    refine s_v1 dM_action_27 cv_M_224 hM_o (c_M_isBookOrNone hB h1 hz3) rfl rfl rfl rfl ?_
    refine s_if_eq dM_action_30 (fun q => absurd q (by decide)) (fun _ => ?_)
    refine s_aload_n dM_action_33 rfl rfl ?_
    refine s_iload dM_action_34 rfl ?_
    refine s_v1 dM_action_36 cv_M_224 hM_o (c_M_isBookOrNone hB h1 hz4) rfl rfl rfl rfl ?_
    refine s_if_eq dM_action_39 (fun q => absurd q (by decide)) (fun _ => ?_)
    refine s_aload_n dM_action_42 rfl rfl ?_
    refine s_iload dM_action_43 rfl ?_
    refine s_v1 dM_action_45 cv_M_224 hM_o (c_M_isBookOrNone hB h1 hz5) rfl rfl rfl rfl ?_
    refine s_if_ne dM_action_48 (fun q => absurd rfl q) (fun _ => ?_)
    refine s_iconst (v := (-1)) dM_action_51 (by decide) ?_
    refine s_iret dM_action_52 rfl (by first | exact Nat.le_refl _ | decide | omega) (by first | exact Nat.le_refl _ | decide | omega) ?_
    simp only [Bool.and_false, Bool.false_and, Bool.false_eq_true, if_false]
    exact ⟨trivial, trivial⟩
  rw [e0, e1, e2, e3, e4, e5]
  by_cases h20 : N = 8
  · subst h20
    refine s_aload_n dM_action_0 rfl rfl ?_
    refine s_iload_n dM_action_1 rfl rfl ?_
    refine s_v1 dM_action_2 cv_M_224 hM_o (c_M_isBookOrNone hB h1 hz0) rfl rfl rfl rfl ?_
    refine s_if_eq dM_action_5 (fun q => absurd q (by decide)) (fun _ => ?_)
    refine s_aload_n dM_action_8 rfl rfl ?_
    refine s_iload_n dM_action_9 rfl rfl ?_
    refine s_v1 dM_action_10 cv_M_224 hM_o (c_M_isBookOrNone hB h1 hz1) rfl rfl rfl rfl ?_
    refine s_if_eq dM_action_13 (fun q => absurd q (by decide)) (fun _ => ?_)
    refine s_aload_n dM_action_16 rfl rfl ?_
    refine s_iload_n dM_action_17 rfl rfl ?_
    refine s_v1 dM_action_18 cv_M_224 hM_o (c_M_isBookOrNone hB h1 hz2) rfl rfl rfl rfl ?_
    refine s_if_eq dM_action_21 (fun q => absurd q (by decide)) (fun _ => ?_)
    refine s_aload_n dM_action_24 rfl rfl ?_
    refine s_iload dM_action_25 rfl ?_
    refine s_v1 dM_action_27 cv_M_224 hM_o (c_M_isBookOrNone hB h1 hz3) rfl rfl rfl rfl ?_
    refine s_if_eq dM_action_30 (fun q => absurd q (by decide)) (fun _ => ?_)
    refine s_aload_n dM_action_33 rfl rfl ?_
    refine s_iload dM_action_34 rfl ?_
    refine s_v1 dM_action_36 cv_M_224 hM_o (c_M_isBookOrNone hB h1 hz4) rfl rfl rfl rfl ?_
    refine s_if_eq dM_action_39 (fun q => absurd q (by decide)) (fun _ => ?_)
    refine s_aload_n dM_action_42 rfl rfl ?_
    refine s_iload dM_action_43 rfl ?_
    refine s_v1 dM_action_45 cv_M_224 hM_o (c_M_isBookOrNone hB h1 hz5) rfl rfl rfl rfl ?_
    refine s_if_ne dM_action_48 (fun _ => ?_) (fun q => absurd q (by decide))
    refine s_aload_n dM_action_53 rfl rfl ?_
    refine s_mgi dM_action_54 gf_M_227 rfl ?_
    refine s_top hN ?_
    refine s_bipush (v := nI 8) dM_action_57 (by decide) ?_
    refine s_icmp_ne dM_action_59 (fun q => absurd rfl q) (fun _ => ?_)
    refine s_bipush (v := (-3)) dM_action_62 (by decide) ?_
    refine s_iret dM_action_64 rfl (by first | exact Nat.le_refl _ | decide | omega) (by first | exact Nat.le_refl _ | decide | omega) ?_
    exact ⟨rfl, rfl⟩
  · refine s_aload_n dM_action_0 rfl rfl ?_
    refine s_iload_n dM_action_1 rfl rfl ?_
    refine s_v1 dM_action_2 cv_M_224 hM_o (c_M_isBookOrNone hB h1 hz0) rfl rfl rfl rfl ?_
    refine s_if_eq dM_action_5 (fun q => absurd q (by decide)) (fun _ => ?_)
    refine s_aload_n dM_action_8 rfl rfl ?_
    refine s_iload_n dM_action_9 rfl rfl ?_
    refine s_v1 dM_action_10 cv_M_224 hM_o (c_M_isBookOrNone hB h1 hz1) rfl rfl rfl rfl ?_
    refine s_if_eq dM_action_13 (fun q => absurd q (by decide)) (fun _ => ?_)
    refine s_aload_n dM_action_16 rfl rfl ?_
    refine s_iload_n dM_action_17 rfl rfl ?_
    refine s_v1 dM_action_18 cv_M_224 hM_o (c_M_isBookOrNone hB h1 hz2) rfl rfl rfl rfl ?_
    refine s_if_eq dM_action_21 (fun q => absurd q (by decide)) (fun _ => ?_)
    refine s_aload_n dM_action_24 rfl rfl ?_
    refine s_iload dM_action_25 rfl ?_
    refine s_v1 dM_action_27 cv_M_224 hM_o (c_M_isBookOrNone hB h1 hz3) rfl rfl rfl rfl ?_
    refine s_if_eq dM_action_30 (fun q => absurd q (by decide)) (fun _ => ?_)
    refine s_aload_n dM_action_33 rfl rfl ?_
    refine s_iload dM_action_34 rfl ?_
    refine s_v1 dM_action_36 cv_M_224 hM_o (c_M_isBookOrNone hB h1 hz4) rfl rfl rfl rfl ?_
    refine s_if_eq dM_action_39 (fun q => absurd q (by decide)) (fun _ => ?_)
    refine s_aload_n dM_action_42 rfl rfl ?_
    refine s_iload dM_action_43 rfl ?_
    refine s_v1 dM_action_45 cv_M_224 hM_o (c_M_isBookOrNone hB h1 hz5) rfl rfl rfl rfl ?_
    refine s_if_ne dM_action_48 (fun _ => ?_) (fun q => absurd q (by decide))
    refine s_aload_n dM_action_53 rfl rfl ?_
    refine s_mgi dM_action_54 gf_M_227 rfl ?_
    refine s_top hN ?_
    refine s_bipush (v := nI 8) dM_action_57 (by decide) ?_
    refine s_icmp_ne dM_action_59 (fun _ => ?_) (fun q => absurd q (nI_ne h20 (by omega) (by omega)))
    refine s_bipush (v := nI 6) dM_action_65 (by decide) ?_
    refine s_aload_n dM_action_67 rfl rfl ?_
    refine s_mgi dM_action_68 gf_M_227 rfl ?_
    refine s_top hN ?_
    first | refine s_imulN dM_action_71 ?_ | refine s_imul dM_action_71 ?_
    refine s_istore dM_action_72 rfl ?_
    refine s_aload_n dM_action_74 rfl rfl ?_
    refine s_mga dM_action_75 gf_M_77 rfl ?_
    refine s_iload dM_action_78 rfl ?_
    refine s_iload_n dM_action_80 rfl rfl ?_
    refine s_mast dM_action_81 rfl rfl (show _ < 48 by omega) rfl ?_
    refine s_aload_n dM_action_82 rfl rfl ?_
    refine s_mga dM_action_83 gf_M_77 rfl ?_
    refine s_iload dM_action_86 rfl ?_
    refine s_iconst (v := nI 1) dM_action_88 (by decide) ?_
    first | refine s_iaddN dM_action_89 ?_ | refine s_iadd dM_action_89 ?_
    refine s_iload_n dM_action_90 rfl rfl ?_
    refine s_mast dM_action_91 rfl rfl (show _ < 48 by omega) rfl ?_
    refine s_aload_n dM_action_92 rfl rfl ?_
    refine s_mga dM_action_93 gf_M_77 rfl ?_
    refine s_iload dM_action_96 rfl ?_
    refine s_iconst (v := nI 2) dM_action_98 (by decide) ?_
    first | refine s_iaddN dM_action_99 ?_ | refine s_iadd dM_action_99 ?_
    refine s_iload_n dM_action_100 rfl rfl ?_
    refine s_mast dM_action_101 rfl rfl (show _ < 48 by omega) rfl ?_
    refine s_aload_n dM_action_102 rfl rfl ?_
    refine s_mga dM_action_103 gf_M_77 rfl ?_
    refine s_iload dM_action_106 rfl ?_
    refine s_iconst (v := nI 3) dM_action_108 (by decide) ?_
    first | refine s_iaddN dM_action_109 ?_ | refine s_iadd dM_action_109 ?_
    refine s_iload dM_action_110 rfl ?_
    refine s_mast dM_action_112 rfl rfl (show _ < 48 by omega) rfl ?_
    refine s_aload_n dM_action_113 rfl rfl ?_
    refine s_mga dM_action_114 gf_M_77 rfl ?_
    refine s_iload dM_action_117 rfl ?_
    refine s_iconst (v := nI 4) dM_action_119 (by decide) ?_
    first | refine s_iaddN dM_action_120 ?_ | refine s_iadd dM_action_120 ?_
    refine s_iload dM_action_121 rfl ?_
    refine s_mast dM_action_123 rfl rfl (show _ < 48 by omega) rfl ?_
    refine s_aload_n dM_action_124 rfl rfl ?_
    refine s_mga dM_action_125 gf_M_77 rfl ?_
    refine s_iload dM_action_128 rfl ?_
    refine s_iconst (v := nI 5) dM_action_130 (by decide) ?_
    first | refine s_iaddN dM_action_131 ?_ | refine s_iadd dM_action_131 ?_
    refine s_iload dM_action_132 rfl ?_
    refine s_mast dM_action_134 rfl rfl (show _ < 48 by omega) rfl ?_
    refine s_aload_n dM_action_135 rfl rfl ?_
    refine s_dup dM_action_136 rfl ?_
    refine s_mgi dM_action_137 gf_M_227 rfl ?_
    refine s_top hN ?_
    refine s_iconst (v := nI 1) dM_action_140 (by decide) ?_
    first | refine s_iaddN dM_action_141 ?_ | refine s_iadd dM_action_141 ?_
    refine s_mpi dM_action_142 gf_M_227 rfl rfl (by first | exact ⟨_, rfl⟩ | exact Or.inl rfl | exact Or.inr rfl) ?_
    refine s_aload_n dM_action_145 rfl rfl ?_
    refine s_mgi dM_action_146 gf_M_227 rfl ?_
    refine s_top (show _ = nI (N + 1) from rfl) ?_
    refine s_iconst (v := nI 1) dM_action_149 (by decide) ?_
    first | refine s_isubN dM_action_150 (by omega) ?_ | refine s_isub dM_action_150 ?_
    refine s_iret dM_action_151 rfl (by first | exact Nat.le_refl _ | decide | omega) (by first | exact Nat.le_refl _ | decide | omega) ?_
    rw [if_neg h20]
    exact ⟨by first | rfl | rw [nI_pred]; rfl, rfl⟩
def fActivity (σ : Sg) (a b c : Int32) (B N : Nat) : Int32 × Sg := if bN a B && bN b B && bN c B then (if N = 6 then (-3, σ) else (nI N, us (us (us (us σ 36 (3 * N) a) 36 (3 * N + 1) b) 36 (3 * N + 2) c) 35 0 (nI (N + 1)))) else (-1, σ)
theorem c_M_activity {σ : Sg} {h : Hp} {B N : Nat} (a b c : Int32) (hB : σ 5 0 = nI B) (h1 : B < 2 ^ 30) (hN : σ 35 0 = nI N) (h3 : N ≤ 6) : ConF mM_activity 3 [vR (100, 0, 0), vI a, vI b, vI c] (hM σ h) (some (vI (fActivity σ a b c B N).1)) (hM (fActivity σ a b c B N).2 h) := by
  unfold fActivity
  refine c_enter (by decide +kernel) rfl rfl ?_
  rcases bz_cases a h1 with ⟨e0, hz0⟩ | ⟨e0, hz0⟩
  rotate_left
  · rw [e0]
    refine s_aload_n dM_activity_0 rfl rfl ?_
    refine s_iload_n dM_activity_1 rfl rfl ?_
    refine s_v1 dM_activity_2 cv_M_224 hM_o (c_M_isBookOrNone hB h1 hz0) rfl rfl rfl rfl ?_
    refine s_if_eq dM_activity_5 (fun _ => ?_) (fun q => absurd rfl q)
    refine s_iconst (v := (-1)) dM_activity_24 (by decide) ?_
    refine s_iret dM_activity_25 rfl (by first | exact Nat.le_refl _ | decide | omega) (by first | exact Nat.le_refl _ | decide | omega) ?_
    simp only [Bool.and_false, Bool.false_and, Bool.false_eq_true, if_false]
    exact ⟨trivial, trivial⟩
  rcases bz_cases b h1 with ⟨e1, hz1⟩ | ⟨e1, hz1⟩
  rotate_left
  · rw [e1]
    refine s_aload_n dM_activity_0 rfl rfl ?_
    refine s_iload_n dM_activity_1 rfl rfl ?_
    refine s_v1 dM_activity_2 cv_M_224 hM_o (c_M_isBookOrNone hB h1 hz0) rfl rfl rfl rfl ?_
    refine s_if_eq dM_activity_5 (fun q => absurd q (by decide)) (fun _ => ?_)
    refine s_aload_n dM_activity_8 rfl rfl ?_
    refine s_iload_n dM_activity_9 rfl rfl ?_
    refine s_v1 dM_activity_10 cv_M_224 hM_o (c_M_isBookOrNone hB h1 hz1) rfl rfl rfl rfl ?_
    refine s_if_eq dM_activity_13 (fun _ => ?_) (fun q => absurd rfl q)
    refine s_iconst (v := (-1)) dM_activity_24 (by decide) ?_
    refine s_iret dM_activity_25 rfl (by first | exact Nat.le_refl _ | decide | omega) (by first | exact Nat.le_refl _ | decide | omega) ?_
    simp only [Bool.and_false, Bool.false_and, Bool.false_eq_true, if_false]
    exact ⟨trivial, trivial⟩
  rcases bz_cases c h1 with ⟨e2, hz2⟩ | ⟨e2, hz2⟩
  rotate_left
  · rw [e2]
    refine s_aload_n dM_activity_0 rfl rfl ?_
    refine s_iload_n dM_activity_1 rfl rfl ?_
    refine s_v1 dM_activity_2 cv_M_224 hM_o (c_M_isBookOrNone hB h1 hz0) rfl rfl rfl rfl ?_
    refine s_if_eq dM_activity_5 (fun q => absurd q (by decide)) (fun _ => ?_)
    refine s_aload_n dM_activity_8 rfl rfl ?_
    refine s_iload_n dM_activity_9 rfl rfl ?_
    refine s_v1 dM_activity_10 cv_M_224 hM_o (c_M_isBookOrNone hB h1 hz1) rfl rfl rfl rfl ?_
    refine s_if_eq dM_activity_13 (fun q => absurd q (by decide)) (fun _ => ?_)
    refine s_aload_n dM_activity_16 rfl rfl ?_
    refine s_iload_n dM_activity_17 rfl rfl ?_
    refine s_v1 dM_activity_18 cv_M_224 hM_o (c_M_isBookOrNone hB h1 hz2) rfl rfl rfl rfl ?_
    refine s_if_ne dM_activity_21 (fun q => absurd rfl q) (fun _ => ?_)
    refine s_iconst (v := (-1)) dM_activity_24 (by decide) ?_
    refine s_iret dM_activity_25 rfl (by first | exact Nat.le_refl _ | decide | omega) (by first | exact Nat.le_refl _ | decide | omega) ?_
    simp only [Bool.and_false, Bool.false_and, Bool.false_eq_true, if_false]
    exact ⟨trivial, trivial⟩
  rw [e0, e1, e2]
  by_cases h20 : N = 6
  · subst h20
    refine s_aload_n dM_activity_0 rfl rfl ?_
    refine s_iload_n dM_activity_1 rfl rfl ?_
    refine s_v1 dM_activity_2 cv_M_224 hM_o (c_M_isBookOrNone hB h1 hz0) rfl rfl rfl rfl ?_
    refine s_if_eq dM_activity_5 (fun q => absurd q (by decide)) (fun _ => ?_)
    refine s_aload_n dM_activity_8 rfl rfl ?_
    refine s_iload_n dM_activity_9 rfl rfl ?_
    refine s_v1 dM_activity_10 cv_M_224 hM_o (c_M_isBookOrNone hB h1 hz1) rfl rfl rfl rfl ?_
    refine s_if_eq dM_activity_13 (fun q => absurd q (by decide)) (fun _ => ?_)
    refine s_aload_n dM_activity_16 rfl rfl ?_
    refine s_iload_n dM_activity_17 rfl rfl ?_
    refine s_v1 dM_activity_18 cv_M_224 hM_o (c_M_isBookOrNone hB h1 hz2) rfl rfl rfl rfl ?_
    refine s_if_ne dM_activity_21 (fun _ => ?_) (fun q => absurd q (by decide))
    refine s_aload_n dM_activity_26 rfl rfl ?_
    refine s_mgi dM_activity_27 gf_M_230 rfl ?_
    refine s_top hN ?_
    refine s_bipush (v := nI 6) dM_activity_30 (by decide) ?_
    refine s_icmp_ne dM_activity_32 (fun q => absurd rfl q) (fun _ => ?_)
    refine s_bipush (v := (-3)) dM_activity_35 (by decide) ?_
    refine s_iret dM_activity_37 rfl (by first | exact Nat.le_refl _ | decide | omega) (by first | exact Nat.le_refl _ | decide | omega) ?_
    exact ⟨rfl, rfl⟩
  · refine s_aload_n dM_activity_0 rfl rfl ?_
    refine s_iload_n dM_activity_1 rfl rfl ?_
    refine s_v1 dM_activity_2 cv_M_224 hM_o (c_M_isBookOrNone hB h1 hz0) rfl rfl rfl rfl ?_
    refine s_if_eq dM_activity_5 (fun q => absurd q (by decide)) (fun _ => ?_)
    refine s_aload_n dM_activity_8 rfl rfl ?_
    refine s_iload_n dM_activity_9 rfl rfl ?_
    refine s_v1 dM_activity_10 cv_M_224 hM_o (c_M_isBookOrNone hB h1 hz1) rfl rfl rfl rfl ?_
    refine s_if_eq dM_activity_13 (fun q => absurd q (by decide)) (fun _ => ?_)
    refine s_aload_n dM_activity_16 rfl rfl ?_
    refine s_iload_n dM_activity_17 rfl rfl ?_
    refine s_v1 dM_activity_18 cv_M_224 hM_o (c_M_isBookOrNone hB h1 hz2) rfl rfl rfl rfl ?_
    refine s_if_ne dM_activity_21 (fun _ => ?_) (fun q => absurd q (by decide))
    refine s_aload_n dM_activity_26 rfl rfl ?_
    refine s_mgi dM_activity_27 gf_M_230 rfl ?_
    refine s_top hN ?_
    refine s_bipush (v := nI 6) dM_activity_30 (by decide) ?_
    refine s_icmp_ne dM_activity_32 (fun _ => ?_) (fun q => absurd q (nI_ne h20 (by omega) (by omega)))
    refine s_aload_n dM_activity_38 rfl rfl ?_
    refine s_mga dM_activity_39 gf_M_80 rfl ?_
    refine s_iconst (v := nI 3) dM_activity_42 (by decide) ?_
    refine s_aload_n dM_activity_43 rfl rfl ?_
    refine s_mgi dM_activity_44 gf_M_230 rfl ?_
    refine s_top hN ?_
    first | refine s_imulN dM_activity_47 ?_ | refine s_imul dM_activity_47 ?_
    refine s_iload_n dM_activity_48 rfl rfl ?_
    refine s_mast dM_activity_49 rfl rfl (show _ < 18 by omega) rfl ?_
    refine s_aload_n dM_activity_50 rfl rfl ?_
    refine s_mga dM_activity_51 gf_M_80 rfl ?_
    refine s_iconst (v := nI 3) dM_activity_54 (by decide) ?_
    refine s_aload_n dM_activity_55 rfl rfl ?_
    refine s_mgi dM_activity_56 gf_M_230 rfl ?_
    refine s_top hN ?_
    first | refine s_imulN dM_activity_59 ?_ | refine s_imul dM_activity_59 ?_
    refine s_iconst (v := nI 1) dM_activity_60 (by decide) ?_
    first | refine s_iaddN dM_activity_61 ?_ | refine s_iadd dM_activity_61 ?_
    refine s_iload_n dM_activity_62 rfl rfl ?_
    refine s_mast dM_activity_63 rfl rfl (show _ < 18 by omega) rfl ?_
    refine s_aload_n dM_activity_64 rfl rfl ?_
    refine s_mga dM_activity_65 gf_M_80 rfl ?_
    refine s_iconst (v := nI 3) dM_activity_68 (by decide) ?_
    refine s_aload_n dM_activity_69 rfl rfl ?_
    refine s_mgi dM_activity_70 gf_M_230 rfl ?_
    refine s_top hN ?_
    first | refine s_imulN dM_activity_73 ?_ | refine s_imul dM_activity_73 ?_
    refine s_iconst (v := nI 2) dM_activity_74 (by decide) ?_
    first | refine s_iaddN dM_activity_75 ?_ | refine s_iadd dM_activity_75 ?_
    refine s_iload_n dM_activity_76 rfl rfl ?_
    refine s_mast dM_activity_77 rfl rfl (show _ < 18 by omega) rfl ?_
    refine s_aload_n dM_activity_78 rfl rfl ?_
    refine s_dup dM_activity_79 rfl ?_
    refine s_mgi dM_activity_80 gf_M_230 rfl ?_
    refine s_top hN ?_
    refine s_iconst (v := nI 1) dM_activity_83 (by decide) ?_
    first | refine s_iaddN dM_activity_84 ?_ | refine s_iadd dM_activity_84 ?_
    refine s_mpi dM_activity_85 gf_M_230 rfl rfl (by first | exact ⟨_, rfl⟩ | exact Or.inl rfl | exact Or.inr rfl) ?_
    refine s_aload_n dM_activity_88 rfl rfl ?_
    refine s_mgi dM_activity_89 gf_M_230 rfl ?_
    refine s_top (show _ = nI (N + 1) from rfl) ?_
    refine s_iconst (v := nI 1) dM_activity_92 (by decide) ?_
    first | refine s_isubN dM_activity_93 (by omega) ?_ | refine s_isub dM_activity_93 ?_
    refine s_iret dM_activity_94 rfl (by first | exact Nat.le_refl _ | decide | omega) (by first | exact Nat.le_refl _ | decide | omega) ?_
    rw [if_neg h20]
    exact ⟨by first | rfl | rw [nI_pred]; rfl, rfl⟩
def deed (n : Nat) (x y : Int32) (B : Nat) : Bool := if n = 1 then decide (1 ≤ x ∧ x ≤ nI 99) else if n = 2 ∨ n = 3 then (ix x 4).isSome else if n = 4 ∨ n = 8 then (ix x 4).isSome && (ix y 4).isSome else if n = 5 ∨ n = 6 then (ix x B).isSome else true
def fDoes (σ : Sg) (r c x y : Int32) (R B : Nat) : Int32 × Sg := match ix r R, ix c 9 with
  | some j, some n => if deed n x y B then (0, us (us (us σ 14 (3 * j) c) 14 (3 * j + 1) x) 14 (3 * j + 2) y) else (-1, σ)
  | _, _ => (-1, σ)
theorem c_M_does {σ : Sg} {h : Hp} {R B : Nat} (r c x y : Int32) (hR : σ 8 0 = nI R) (h2 : R ≤ 60) (hB : σ 5 0 = nI B) (h3 : B ≤ 12) : ConF mM_does 2 [vR (100, 0, 0), vI r, vI c, vI x, vI y] (hM σ h) (some (vI (fDoes σ r c x y R B).1)) (hM (fDoes σ r c x y R B).2 h) := by
  unfold fDoes
  refine c_enter (by decide +kernel) rfl rfl ?_
  rcases iz_cases r (K := R) (by omega) with ⟨e, hz⟩ | ⟨j, hj, rfl, e⟩
  · rw [e]
    refine s_aload_n dM_does_0 rfl rfl ?_
    refine s_iload_n dM_does_1 rfl rfl ?_
    refine s_v1 dM_does_2 cv_M_141 hM_o (c_M_isRule hR (by omega) hz) rfl rfl rfl rfl ?_
    refine s_if_eq dM_does_5 (fun _ => ?_) (fun q => absurd rfl q)
    refine s_iconst (v := (-1)) dM_does_18 (by decide) ?_
    refine s_iret dM_does_19 rfl (by first | exact Nat.le_refl _ | decide | omega) (by first | exact Nat.le_refl _ | decide | omega) ?_
    exact ⟨rfl, rfl⟩
  · rcases iz_cases c (K := 9) (by omega) with ⟨e1, hz⟩ | ⟨n, hn, rfl, e1⟩
    · rw [e, e1]
      refine s_aload_n dM_does_0 rfl rfl ?_
      refine s_iload_n dM_does_1 rfl rfl ?_
      refine s_v1 dM_does_2 cv_M_141 hM_o (c_M_isRule hR (by omega) (Iz1 hj)) rfl rfl rfl rfl ?_
      refine s_if_eq dM_does_5 (fun q => absurd q (by decide)) (fun _ => ?_)
      refine s_iload_n dM_does_8 rfl rfl ?_
      refine s_iconst (v := 0) dM_does_9 (by decide) ?_
      refine s_bipush (v := nI 8) dM_does_10 (by decide) ?_
      refine s_t3 dM_does_12 cs_M_117 (c_inZ (K := 9) (by omega) hz) rfl rfl rfl rfl ?_
      refine s_if_ne dM_does_15 (fun q => absurd rfl q) (fun _ => ?_)
      refine s_iconst (v := (-1)) dM_does_18 (by decide) ?_
      refine s_iret dM_does_19 rfl (by first | exact Nat.le_refl _ | decide | omega) (by first | exact Nat.le_refl _ | decide | omega) ?_
      exact ⟨rfl, rfl⟩
    · rw [e, e1]
      match n, hn with
      | 0, _ =>
        refine s_aload_n dM_does_0 rfl rfl ?_
        refine s_iload_n dM_does_1 rfl rfl ?_
        refine s_v1 dM_does_2 cv_M_141 hM_o (c_M_isRule hR (by omega) (Iz1 hj)) rfl rfl rfl rfl ?_
        refine s_if_eq dM_does_5 (fun q => absurd q (by decide)) (fun _ => ?_)
        refine s_iload_n dM_does_8 rfl rfl ?_
        refine s_iconst (v := 0) dM_does_9 (by decide) ?_
        refine s_bipush (v := nI 8) dM_does_10 (by decide) ?_
        refine s_t3 dM_does_12 cs_M_117 (c_inZ (K := 9) (by omega) (Iz1 (by omega))) rfl rfl rfl rfl ?_
        refine s_if_ne dM_does_15 (fun _ => ?_) (fun q => absurd q (by decide))
        refine s_iload_n dM_does_20 rfl rfl ?_
        refine s_iconst (v := nI 2) dM_does_21 (by decide) ?_
        refine s_iconst (v := nI 4) dM_does_22 (by decide) ?_
        refine s_t3 dM_does_23 cs_M_117 (c_isIn (r := 0) (by first | exact Or.inl ⟨rfl, by decide, by decide⟩ | exact Or.inr ⟨rfl, by decide⟩)) rfl rfl rfl rfl ?_
        refine s_if_ne dM_does_26 (fun q => absurd rfl q) (fun _ => ?_)
        refine s_iload_n dM_does_29 rfl rfl ?_
        refine s_bipush (v := nI 8) dM_does_30 (by decide) ?_
        refine s_icmp_ne dM_does_32 (fun _ => ?_) (fun q => absurd q (by decide))
        refine s_iconst (v := 0) dM_does_39 (by decide) ?_
        refine s_istore dM_does_40 rfl ?_
        refine s_iload_n dM_does_42 rfl rfl ?_
        refine s_iconst (v := 1) dM_does_43 (by decide) ?_
        refine s_icmp_ne dM_does_44 (fun _ => ?_) (fun q => absurd q (by decide))
        refine s_iload dM_does_57 rfl ?_
        refine s_if_eq dM_does_59 (fun _ => ?_) (fun q => absurd rfl q)
        refine s_iload_n dM_does_71 rfl rfl ?_
        refine s_iconst (v := nI 5) dM_does_72 (by decide) ?_
        refine s_icmp_eq dM_does_73 (fun q => absurd q (by decide)) (fun _ => ?_)
        refine s_iload_n dM_does_76 rfl rfl ?_
        refine s_bipush (v := nI 6) dM_does_77 (by decide) ?_
        refine s_icmp_ne dM_does_79 (fun _ => ?_) (fun q => absurd q (by decide))
        refine s_iload_n dM_does_90 rfl rfl ?_
        refine s_iconst (v := nI 4) dM_does_91 (by decide) ?_
        refine s_icmp_eq dM_does_92 (fun q => absurd q (by decide)) (fun _ => ?_)
        refine s_iload_n dM_does_95 rfl rfl ?_
        refine s_bipush (v := nI 8) dM_does_96 (by decide) ?_
        refine s_icmp_ne dM_does_98 (fun _ => ?_) (fun q => absurd q (by decide))
        refine s_aload_n dM_does_113 rfl rfl ?_
        refine s_mga dM_does_114 gf_M_40 rfl ?_
        refine s_iconst (v := nI 3) dM_does_117 (by decide) ?_
        refine s_iload_n dM_does_118 rfl rfl ?_
        first | refine s_imulN dM_does_119 ?_ | refine s_imul dM_does_119 ?_
        refine s_iload_n dM_does_120 rfl rfl ?_
        refine s_mast dM_does_121 rfl rfl (show _ < 180 by omega) rfl ?_
        refine s_aload_n dM_does_122 rfl rfl ?_
        refine s_mga dM_does_123 gf_M_40 rfl ?_
        refine s_iconst (v := nI 3) dM_does_126 (by decide) ?_
        refine s_iload_n dM_does_127 rfl rfl ?_
        first | refine s_imulN dM_does_128 ?_ | refine s_imul dM_does_128 ?_
        refine s_iconst (v := nI 1) dM_does_129 (by decide) ?_
        first | refine s_iaddN dM_does_130 ?_ | refine s_iadd dM_does_130 ?_
        refine s_iload_n dM_does_131 rfl rfl ?_
        refine s_mast dM_does_132 rfl rfl (show _ < 180 by omega) rfl ?_
        refine s_aload_n dM_does_133 rfl rfl ?_
        refine s_mga dM_does_134 gf_M_40 rfl ?_
        refine s_iconst (v := nI 3) dM_does_137 (by decide) ?_
        refine s_iload_n dM_does_138 rfl rfl ?_
        first | refine s_imulN dM_does_139 ?_ | refine s_imul dM_does_139 ?_
        refine s_iconst (v := nI 2) dM_does_140 (by decide) ?_
        first | refine s_iaddN dM_does_141 ?_ | refine s_iadd dM_does_141 ?_
        refine s_iload dM_does_142 rfl ?_
        refine s_mast dM_does_144 rfl rfl (show _ < 180 by omega) rfl ?_
        refine s_iconst (v := 0) dM_does_145 (by decide) ?_
        refine s_iret dM_does_146 rfl (by first | exact Nat.le_refl _ | decide | omega) (by first | exact Nat.le_refl _ | decide | omega) ?_
        dsimp only
        rw [if_pos (show deed 0 x y B = true by simp [deed])]
        exact ⟨rfl, rfl⟩
      | 1, _ =>
        by_cases hx : 1 ≤ x ∧ x ≤ nI 99
        · refine s_aload_n dM_does_0 rfl rfl ?_
          refine s_iload_n dM_does_1 rfl rfl ?_
          refine s_v1 dM_does_2 cv_M_141 hM_o (c_M_isRule hR (by omega) (Iz1 hj)) rfl rfl rfl rfl ?_
          refine s_if_eq dM_does_5 (fun q => absurd q (by decide)) (fun _ => ?_)
          refine s_iload_n dM_does_8 rfl rfl ?_
          refine s_iconst (v := 0) dM_does_9 (by decide) ?_
          refine s_bipush (v := nI 8) dM_does_10 (by decide) ?_
          refine s_t3 dM_does_12 cs_M_117 (c_inZ (K := 9) (by omega) (Iz1 (by omega))) rfl rfl rfl rfl ?_
          refine s_if_ne dM_does_15 (fun _ => ?_) (fun q => absurd q (by decide))
          refine s_iload_n dM_does_20 rfl rfl ?_
          refine s_iconst (v := nI 2) dM_does_21 (by decide) ?_
          refine s_iconst (v := nI 4) dM_does_22 (by decide) ?_
          refine s_t3 dM_does_23 cs_M_117 (c_isIn (r := 0) (by first | exact Or.inl ⟨rfl, by decide, by decide⟩ | exact Or.inr ⟨rfl, by decide⟩)) rfl rfl rfl rfl ?_
          refine s_if_ne dM_does_26 (fun q => absurd rfl q) (fun _ => ?_)
          refine s_iload_n dM_does_29 rfl rfl ?_
          refine s_bipush (v := nI 8) dM_does_30 (by decide) ?_
          refine s_icmp_ne dM_does_32 (fun _ => ?_) (fun q => absurd q (by decide))
          refine s_iconst (v := 0) dM_does_39 (by decide) ?_
          refine s_istore dM_does_40 rfl ?_
          refine s_iload_n dM_does_42 rfl rfl ?_
          refine s_iconst (v := 1) dM_does_43 (by decide) ?_
          refine s_icmp_ne dM_does_44 (fun q => absurd rfl q) (fun _ => ?_)
          refine s_iload_n dM_does_47 rfl rfl ?_
          refine s_iconst (v := 1) dM_does_48 (by decide) ?_
          refine s_bipush (v := nI 99) dM_does_49 (by decide) ?_
          refine s_t3 dM_does_51 cs_M_117 (c_isIn (r := 1) (Or.inl ⟨rfl, hx.1, hx.2⟩)) rfl rfl rfl rfl ?_
          refine s_if_eq dM_does_54 (fun q => absurd q (by decide)) (fun _ => ?_)
          refine s_iload dM_does_57 rfl ?_
          refine s_if_eq dM_does_59 (fun _ => ?_) (fun q => absurd rfl q)
          refine s_iload_n dM_does_71 rfl rfl ?_
          refine s_iconst (v := nI 5) dM_does_72 (by decide) ?_
          refine s_icmp_eq dM_does_73 (fun q => absurd q (by decide)) (fun _ => ?_)
          refine s_iload_n dM_does_76 rfl rfl ?_
          refine s_bipush (v := nI 6) dM_does_77 (by decide) ?_
          refine s_icmp_ne dM_does_79 (fun _ => ?_) (fun q => absurd q (by decide))
          refine s_iload_n dM_does_90 rfl rfl ?_
          refine s_iconst (v := nI 4) dM_does_91 (by decide) ?_
          refine s_icmp_eq dM_does_92 (fun q => absurd q (by decide)) (fun _ => ?_)
          refine s_iload_n dM_does_95 rfl rfl ?_
          refine s_bipush (v := nI 8) dM_does_96 (by decide) ?_
          refine s_icmp_ne dM_does_98 (fun _ => ?_) (fun q => absurd q (by decide))
          refine s_aload_n dM_does_113 rfl rfl ?_
          refine s_mga dM_does_114 gf_M_40 rfl ?_
          refine s_iconst (v := nI 3) dM_does_117 (by decide) ?_
          refine s_iload_n dM_does_118 rfl rfl ?_
          first | refine s_imulN dM_does_119 ?_ | refine s_imul dM_does_119 ?_
          refine s_iload_n dM_does_120 rfl rfl ?_
          refine s_mast dM_does_121 rfl rfl (show _ < 180 by omega) rfl ?_
          refine s_aload_n dM_does_122 rfl rfl ?_
          refine s_mga dM_does_123 gf_M_40 rfl ?_
          refine s_iconst (v := nI 3) dM_does_126 (by decide) ?_
          refine s_iload_n dM_does_127 rfl rfl ?_
          first | refine s_imulN dM_does_128 ?_ | refine s_imul dM_does_128 ?_
          refine s_iconst (v := nI 1) dM_does_129 (by decide) ?_
          first | refine s_iaddN dM_does_130 ?_ | refine s_iadd dM_does_130 ?_
          refine s_iload_n dM_does_131 rfl rfl ?_
          refine s_mast dM_does_132 rfl rfl (show _ < 180 by omega) rfl ?_
          refine s_aload_n dM_does_133 rfl rfl ?_
          refine s_mga dM_does_134 gf_M_40 rfl ?_
          refine s_iconst (v := nI 3) dM_does_137 (by decide) ?_
          refine s_iload_n dM_does_138 rfl rfl ?_
          first | refine s_imulN dM_does_139 ?_ | refine s_imul dM_does_139 ?_
          refine s_iconst (v := nI 2) dM_does_140 (by decide) ?_
          first | refine s_iaddN dM_does_141 ?_ | refine s_iadd dM_does_141 ?_
          refine s_iload dM_does_142 rfl ?_
          refine s_mast dM_does_144 rfl rfl (show _ < 180 by omega) rfl ?_
          refine s_iconst (v := 0) dM_does_145 (by decide) ?_
          refine s_iret dM_does_146 rfl (by first | exact Nat.le_refl _ | decide | omega) (by first | exact Nat.le_refl _ | decide | omega) ?_
          dsimp only
          rw [if_pos (show deed 1 x y B = true by simp [deed, hx])]
          exact ⟨rfl, rfl⟩
        · refine s_aload_n dM_does_0 rfl rfl ?_
          refine s_iload_n dM_does_1 rfl rfl ?_
          refine s_v1 dM_does_2 cv_M_141 hM_o (c_M_isRule hR (by omega) (Iz1 hj)) rfl rfl rfl rfl ?_
          refine s_if_eq dM_does_5 (fun q => absurd q (by decide)) (fun _ => ?_)
          refine s_iload_n dM_does_8 rfl rfl ?_
          refine s_iconst (v := 0) dM_does_9 (by decide) ?_
          refine s_bipush (v := nI 8) dM_does_10 (by decide) ?_
          refine s_t3 dM_does_12 cs_M_117 (c_inZ (K := 9) (by omega) (Iz1 (by omega))) rfl rfl rfl rfl ?_
          refine s_if_ne dM_does_15 (fun _ => ?_) (fun q => absurd q (by decide))
          refine s_iload_n dM_does_20 rfl rfl ?_
          refine s_iconst (v := nI 2) dM_does_21 (by decide) ?_
          refine s_iconst (v := nI 4) dM_does_22 (by decide) ?_
          refine s_t3 dM_does_23 cs_M_117 (c_isIn (r := 0) (by first | exact Or.inl ⟨rfl, by decide, by decide⟩ | exact Or.inr ⟨rfl, by decide⟩)) rfl rfl rfl rfl ?_
          refine s_if_ne dM_does_26 (fun q => absurd rfl q) (fun _ => ?_)
          refine s_iload_n dM_does_29 rfl rfl ?_
          refine s_bipush (v := nI 8) dM_does_30 (by decide) ?_
          refine s_icmp_ne dM_does_32 (fun _ => ?_) (fun q => absurd q (by decide))
          refine s_iconst (v := 0) dM_does_39 (by decide) ?_
          refine s_istore dM_does_40 rfl ?_
          refine s_iload_n dM_does_42 rfl rfl ?_
          refine s_iconst (v := 1) dM_does_43 (by decide) ?_
          refine s_icmp_ne dM_does_44 (fun q => absurd rfl q) (fun _ => ?_)
          refine s_iload_n dM_does_47 rfl rfl ?_
          refine s_iconst (v := 1) dM_does_48 (by decide) ?_
          refine s_bipush (v := nI 99) dM_does_49 (by decide) ?_
          refine s_t3 dM_does_51 cs_M_117 (c_isIn (r := 0) (Or.inr ⟨rfl, hx⟩)) rfl rfl rfl rfl ?_
          refine s_if_eq dM_does_54 (fun _ => ?_) (fun q => absurd rfl q)
          refine s_iconst (v := (-1)) dM_does_111 (by decide) ?_
          refine s_iret dM_does_112 rfl (by first | exact Nat.le_refl _ | decide | omega) (by first | exact Nat.le_refl _ | decide | omega) ?_
          dsimp only
          rw [if_neg (show ¬ deed 1 x y B = true by simp [deed]; intro q; exact Int32.not_le.mp fun z => hx ⟨q, z⟩)]
          exact ⟨rfl, rfl⟩
      | 2, _ =>
        rcases iz_cases x (K := 4) (by omega) with ⟨e2, hz⟩ | ⟨i, hi, rfl, e2⟩
        · refine s_aload_n dM_does_0 rfl rfl ?_
          refine s_iload_n dM_does_1 rfl rfl ?_
          refine s_v1 dM_does_2 cv_M_141 hM_o (c_M_isRule hR (by omega) (Iz1 hj)) rfl rfl rfl rfl ?_
          refine s_if_eq dM_does_5 (fun q => absurd q (by decide)) (fun _ => ?_)
          refine s_iload_n dM_does_8 rfl rfl ?_
          refine s_iconst (v := 0) dM_does_9 (by decide) ?_
          refine s_bipush (v := nI 8) dM_does_10 (by decide) ?_
          refine s_t3 dM_does_12 cs_M_117 (c_inZ (K := 9) (by omega) (Iz1 (by omega))) rfl rfl rfl rfl ?_
          refine s_if_ne dM_does_15 (fun _ => ?_) (fun q => absurd q (by decide))
          refine s_iload_n dM_does_20 rfl rfl ?_
          refine s_iconst (v := nI 2) dM_does_21 (by decide) ?_
          refine s_iconst (v := nI 4) dM_does_22 (by decide) ?_
          refine s_t3 dM_does_23 cs_M_117 (c_isIn (r := 1) (by first | exact Or.inl ⟨rfl, by decide, by decide⟩ | exact Or.inr ⟨rfl, by decide⟩)) rfl rfl rfl rfl ?_
          refine s_if_ne dM_does_26 (fun _ => ?_) (fun q => absurd q (by decide))
          refine s_iconst (v := 1) dM_does_35 (by decide) ?_
          refine s_goto dM_does_36 ?_
          refine s_istore dM_does_40 rfl ?_
          refine s_iload_n dM_does_42 rfl rfl ?_
          refine s_iconst (v := 1) dM_does_43 (by decide) ?_
          refine s_icmp_ne dM_does_44 (fun _ => ?_) (fun q => absurd q (by decide))
          refine s_iload dM_does_57 rfl ?_
          refine s_if_eq dM_does_59 (fun q => absurd q (by decide)) (fun _ => ?_)
          refine s_iload_n dM_does_62 rfl rfl ?_
          refine s_iconst (v := 0) dM_does_63 (by decide) ?_
          refine s_iconst (v := nI 3) dM_does_64 (by decide) ?_
          refine s_t3 dM_does_65 cs_M_117 (c_inZ (K := 4) (by omega) hz) rfl rfl rfl rfl ?_
          refine s_if_eq dM_does_68 (fun _ => ?_) (fun q => absurd rfl q)
          refine s_iconst (v := (-1)) dM_does_111 (by decide) ?_
          refine s_iret dM_does_112 rfl (by first | exact Nat.le_refl _ | decide | omega) (by first | exact Nat.le_refl _ | decide | omega) ?_
          dsimp only
          rw [if_neg (show ¬ deed 2 x y B = true by simp [deed, e2])]
          exact ⟨rfl, rfl⟩
        · refine s_aload_n dM_does_0 rfl rfl ?_
          refine s_iload_n dM_does_1 rfl rfl ?_
          refine s_v1 dM_does_2 cv_M_141 hM_o (c_M_isRule hR (by omega) (Iz1 hj)) rfl rfl rfl rfl ?_
          refine s_if_eq dM_does_5 (fun q => absurd q (by decide)) (fun _ => ?_)
          refine s_iload_n dM_does_8 rfl rfl ?_
          refine s_iconst (v := 0) dM_does_9 (by decide) ?_
          refine s_bipush (v := nI 8) dM_does_10 (by decide) ?_
          refine s_t3 dM_does_12 cs_M_117 (c_inZ (K := 9) (by omega) (Iz1 (by omega))) rfl rfl rfl rfl ?_
          refine s_if_ne dM_does_15 (fun _ => ?_) (fun q => absurd q (by decide))
          refine s_iload_n dM_does_20 rfl rfl ?_
          refine s_iconst (v := nI 2) dM_does_21 (by decide) ?_
          refine s_iconst (v := nI 4) dM_does_22 (by decide) ?_
          refine s_t3 dM_does_23 cs_M_117 (c_isIn (r := 1) (by first | exact Or.inl ⟨rfl, by decide, by decide⟩ | exact Or.inr ⟨rfl, by decide⟩)) rfl rfl rfl rfl ?_
          refine s_if_ne dM_does_26 (fun _ => ?_) (fun q => absurd q (by decide))
          refine s_iconst (v := 1) dM_does_35 (by decide) ?_
          refine s_goto dM_does_36 ?_
          refine s_istore dM_does_40 rfl ?_
          refine s_iload_n dM_does_42 rfl rfl ?_
          refine s_iconst (v := 1) dM_does_43 (by decide) ?_
          refine s_icmp_ne dM_does_44 (fun _ => ?_) (fun q => absurd q (by decide))
          refine s_iload dM_does_57 rfl ?_
          refine s_if_eq dM_does_59 (fun q => absurd q (by decide)) (fun _ => ?_)
          refine s_iload_n dM_does_62 rfl rfl ?_
          refine s_iconst (v := 0) dM_does_63 (by decide) ?_
          refine s_iconst (v := nI 3) dM_does_64 (by decide) ?_
          refine s_t3 dM_does_65 cs_M_117 (c_inZ (K := 4) (by omega) (Iz1 hi)) rfl rfl rfl rfl ?_
          refine s_if_eq dM_does_68 (fun q => absurd q (by decide)) (fun _ => ?_)
          refine s_iload_n dM_does_71 rfl rfl ?_
          refine s_iconst (v := nI 5) dM_does_72 (by decide) ?_
          refine s_icmp_eq dM_does_73 (fun q => absurd q (by decide)) (fun _ => ?_)
          refine s_iload_n dM_does_76 rfl rfl ?_
          refine s_bipush (v := nI 6) dM_does_77 (by decide) ?_
          refine s_icmp_ne dM_does_79 (fun _ => ?_) (fun q => absurd q (by decide))
          refine s_iload_n dM_does_90 rfl rfl ?_
          refine s_iconst (v := nI 4) dM_does_91 (by decide) ?_
          refine s_icmp_eq dM_does_92 (fun q => absurd q (by decide)) (fun _ => ?_)
          refine s_iload_n dM_does_95 rfl rfl ?_
          refine s_bipush (v := nI 8) dM_does_96 (by decide) ?_
          refine s_icmp_ne dM_does_98 (fun _ => ?_) (fun q => absurd q (by decide))
          refine s_aload_n dM_does_113 rfl rfl ?_
          refine s_mga dM_does_114 gf_M_40 rfl ?_
          refine s_iconst (v := nI 3) dM_does_117 (by decide) ?_
          refine s_iload_n dM_does_118 rfl rfl ?_
          first | refine s_imulN dM_does_119 ?_ | refine s_imul dM_does_119 ?_
          refine s_iload_n dM_does_120 rfl rfl ?_
          refine s_mast dM_does_121 rfl rfl (show _ < 180 by omega) rfl ?_
          refine s_aload_n dM_does_122 rfl rfl ?_
          refine s_mga dM_does_123 gf_M_40 rfl ?_
          refine s_iconst (v := nI 3) dM_does_126 (by decide) ?_
          refine s_iload_n dM_does_127 rfl rfl ?_
          first | refine s_imulN dM_does_128 ?_ | refine s_imul dM_does_128 ?_
          refine s_iconst (v := nI 1) dM_does_129 (by decide) ?_
          first | refine s_iaddN dM_does_130 ?_ | refine s_iadd dM_does_130 ?_
          refine s_iload_n dM_does_131 rfl rfl ?_
          refine s_mast dM_does_132 rfl rfl (show _ < 180 by omega) rfl ?_
          refine s_aload_n dM_does_133 rfl rfl ?_
          refine s_mga dM_does_134 gf_M_40 rfl ?_
          refine s_iconst (v := nI 3) dM_does_137 (by decide) ?_
          refine s_iload_n dM_does_138 rfl rfl ?_
          first | refine s_imulN dM_does_139 ?_ | refine s_imul dM_does_139 ?_
          refine s_iconst (v := nI 2) dM_does_140 (by decide) ?_
          first | refine s_iaddN dM_does_141 ?_ | refine s_iadd dM_does_141 ?_
          refine s_iload dM_does_142 rfl ?_
          refine s_mast dM_does_144 rfl rfl (show _ < 180 by omega) rfl ?_
          refine s_iconst (v := 0) dM_does_145 (by decide) ?_
          refine s_iret dM_does_146 rfl (by first | exact Nat.le_refl _ | decide | omega) (by first | exact Nat.le_refl _ | decide | omega) ?_
          dsimp only
          rw [if_pos (show deed 2 (nI i) y B = true by simp [deed, e2])]
          exact ⟨rfl, rfl⟩
      | 3, _ =>
        rcases iz_cases x (K := 4) (by omega) with ⟨e2, hz⟩ | ⟨i, hi, rfl, e2⟩
        · refine s_aload_n dM_does_0 rfl rfl ?_
          refine s_iload_n dM_does_1 rfl rfl ?_
          refine s_v1 dM_does_2 cv_M_141 hM_o (c_M_isRule hR (by omega) (Iz1 hj)) rfl rfl rfl rfl ?_
          refine s_if_eq dM_does_5 (fun q => absurd q (by decide)) (fun _ => ?_)
          refine s_iload_n dM_does_8 rfl rfl ?_
          refine s_iconst (v := 0) dM_does_9 (by decide) ?_
          refine s_bipush (v := nI 8) dM_does_10 (by decide) ?_
          refine s_t3 dM_does_12 cs_M_117 (c_inZ (K := 9) (by omega) (Iz1 (by omega))) rfl rfl rfl rfl ?_
          refine s_if_ne dM_does_15 (fun _ => ?_) (fun q => absurd q (by decide))
          refine s_iload_n dM_does_20 rfl rfl ?_
          refine s_iconst (v := nI 2) dM_does_21 (by decide) ?_
          refine s_iconst (v := nI 4) dM_does_22 (by decide) ?_
          refine s_t3 dM_does_23 cs_M_117 (c_isIn (r := 1) (by first | exact Or.inl ⟨rfl, by decide, by decide⟩ | exact Or.inr ⟨rfl, by decide⟩)) rfl rfl rfl rfl ?_
          refine s_if_ne dM_does_26 (fun _ => ?_) (fun q => absurd q (by decide))
          refine s_iconst (v := 1) dM_does_35 (by decide) ?_
          refine s_goto dM_does_36 ?_
          refine s_istore dM_does_40 rfl ?_
          refine s_iload_n dM_does_42 rfl rfl ?_
          refine s_iconst (v := 1) dM_does_43 (by decide) ?_
          refine s_icmp_ne dM_does_44 (fun _ => ?_) (fun q => absurd q (by decide))
          refine s_iload dM_does_57 rfl ?_
          refine s_if_eq dM_does_59 (fun q => absurd q (by decide)) (fun _ => ?_)
          refine s_iload_n dM_does_62 rfl rfl ?_
          refine s_iconst (v := 0) dM_does_63 (by decide) ?_
          refine s_iconst (v := nI 3) dM_does_64 (by decide) ?_
          refine s_t3 dM_does_65 cs_M_117 (c_inZ (K := 4) (by omega) hz) rfl rfl rfl rfl ?_
          refine s_if_eq dM_does_68 (fun _ => ?_) (fun q => absurd rfl q)
          refine s_iconst (v := (-1)) dM_does_111 (by decide) ?_
          refine s_iret dM_does_112 rfl (by first | exact Nat.le_refl _ | decide | omega) (by first | exact Nat.le_refl _ | decide | omega) ?_
          dsimp only
          rw [if_neg (show ¬ deed 3 x y B = true by simp [deed, e2])]
          exact ⟨rfl, rfl⟩
        · refine s_aload_n dM_does_0 rfl rfl ?_
          refine s_iload_n dM_does_1 rfl rfl ?_
          refine s_v1 dM_does_2 cv_M_141 hM_o (c_M_isRule hR (by omega) (Iz1 hj)) rfl rfl rfl rfl ?_
          refine s_if_eq dM_does_5 (fun q => absurd q (by decide)) (fun _ => ?_)
          refine s_iload_n dM_does_8 rfl rfl ?_
          refine s_iconst (v := 0) dM_does_9 (by decide) ?_
          refine s_bipush (v := nI 8) dM_does_10 (by decide) ?_
          refine s_t3 dM_does_12 cs_M_117 (c_inZ (K := 9) (by omega) (Iz1 (by omega))) rfl rfl rfl rfl ?_
          refine s_if_ne dM_does_15 (fun _ => ?_) (fun q => absurd q (by decide))
          refine s_iload_n dM_does_20 rfl rfl ?_
          refine s_iconst (v := nI 2) dM_does_21 (by decide) ?_
          refine s_iconst (v := nI 4) dM_does_22 (by decide) ?_
          refine s_t3 dM_does_23 cs_M_117 (c_isIn (r := 1) (by first | exact Or.inl ⟨rfl, by decide, by decide⟩ | exact Or.inr ⟨rfl, by decide⟩)) rfl rfl rfl rfl ?_
          refine s_if_ne dM_does_26 (fun _ => ?_) (fun q => absurd q (by decide))
          refine s_iconst (v := 1) dM_does_35 (by decide) ?_
          refine s_goto dM_does_36 ?_
          refine s_istore dM_does_40 rfl ?_
          refine s_iload_n dM_does_42 rfl rfl ?_
          refine s_iconst (v := 1) dM_does_43 (by decide) ?_
          refine s_icmp_ne dM_does_44 (fun _ => ?_) (fun q => absurd q (by decide))
          refine s_iload dM_does_57 rfl ?_
          refine s_if_eq dM_does_59 (fun q => absurd q (by decide)) (fun _ => ?_)
          refine s_iload_n dM_does_62 rfl rfl ?_
          refine s_iconst (v := 0) dM_does_63 (by decide) ?_
          refine s_iconst (v := nI 3) dM_does_64 (by decide) ?_
          refine s_t3 dM_does_65 cs_M_117 (c_inZ (K := 4) (by omega) (Iz1 hi)) rfl rfl rfl rfl ?_
          refine s_if_eq dM_does_68 (fun q => absurd q (by decide)) (fun _ => ?_)
          refine s_iload_n dM_does_71 rfl rfl ?_
          refine s_iconst (v := nI 5) dM_does_72 (by decide) ?_
          refine s_icmp_eq dM_does_73 (fun q => absurd q (by decide)) (fun _ => ?_)
          refine s_iload_n dM_does_76 rfl rfl ?_
          refine s_bipush (v := nI 6) dM_does_77 (by decide) ?_
          refine s_icmp_ne dM_does_79 (fun _ => ?_) (fun q => absurd q (by decide))
          refine s_iload_n dM_does_90 rfl rfl ?_
          refine s_iconst (v := nI 4) dM_does_91 (by decide) ?_
          refine s_icmp_eq dM_does_92 (fun q => absurd q (by decide)) (fun _ => ?_)
          refine s_iload_n dM_does_95 rfl rfl ?_
          refine s_bipush (v := nI 8) dM_does_96 (by decide) ?_
          refine s_icmp_ne dM_does_98 (fun _ => ?_) (fun q => absurd q (by decide))
          refine s_aload_n dM_does_113 rfl rfl ?_
          refine s_mga dM_does_114 gf_M_40 rfl ?_
          refine s_iconst (v := nI 3) dM_does_117 (by decide) ?_
          refine s_iload_n dM_does_118 rfl rfl ?_
          first | refine s_imulN dM_does_119 ?_ | refine s_imul dM_does_119 ?_
          refine s_iload_n dM_does_120 rfl rfl ?_
          refine s_mast dM_does_121 rfl rfl (show _ < 180 by omega) rfl ?_
          refine s_aload_n dM_does_122 rfl rfl ?_
          refine s_mga dM_does_123 gf_M_40 rfl ?_
          refine s_iconst (v := nI 3) dM_does_126 (by decide) ?_
          refine s_iload_n dM_does_127 rfl rfl ?_
          first | refine s_imulN dM_does_128 ?_ | refine s_imul dM_does_128 ?_
          refine s_iconst (v := nI 1) dM_does_129 (by decide) ?_
          first | refine s_iaddN dM_does_130 ?_ | refine s_iadd dM_does_130 ?_
          refine s_iload_n dM_does_131 rfl rfl ?_
          refine s_mast dM_does_132 rfl rfl (show _ < 180 by omega) rfl ?_
          refine s_aload_n dM_does_133 rfl rfl ?_
          refine s_mga dM_does_134 gf_M_40 rfl ?_
          refine s_iconst (v := nI 3) dM_does_137 (by decide) ?_
          refine s_iload_n dM_does_138 rfl rfl ?_
          first | refine s_imulN dM_does_139 ?_ | refine s_imul dM_does_139 ?_
          refine s_iconst (v := nI 2) dM_does_140 (by decide) ?_
          first | refine s_iaddN dM_does_141 ?_ | refine s_iadd dM_does_141 ?_
          refine s_iload dM_does_142 rfl ?_
          refine s_mast dM_does_144 rfl rfl (show _ < 180 by omega) rfl ?_
          refine s_iconst (v := 0) dM_does_145 (by decide) ?_
          refine s_iret dM_does_146 rfl (by first | exact Nat.le_refl _ | decide | omega) (by first | exact Nat.le_refl _ | decide | omega) ?_
          dsimp only
          rw [if_pos (show deed 3 (nI i) y B = true by simp [deed, e2])]
          exact ⟨rfl, rfl⟩
      | 4, _ =>
        rcases iz_cases x (K := 4) (by omega) with ⟨e2, hz⟩ | ⟨i, hi, rfl, e2⟩
        · refine s_aload_n dM_does_0 rfl rfl ?_
          refine s_iload_n dM_does_1 rfl rfl ?_
          refine s_v1 dM_does_2 cv_M_141 hM_o (c_M_isRule hR (by omega) (Iz1 hj)) rfl rfl rfl rfl ?_
          refine s_if_eq dM_does_5 (fun q => absurd q (by decide)) (fun _ => ?_)
          refine s_iload_n dM_does_8 rfl rfl ?_
          refine s_iconst (v := 0) dM_does_9 (by decide) ?_
          refine s_bipush (v := nI 8) dM_does_10 (by decide) ?_
          refine s_t3 dM_does_12 cs_M_117 (c_inZ (K := 9) (by omega) (Iz1 (by omega))) rfl rfl rfl rfl ?_
          refine s_if_ne dM_does_15 (fun _ => ?_) (fun q => absurd q (by decide))
          refine s_iload_n dM_does_20 rfl rfl ?_
          refine s_iconst (v := nI 2) dM_does_21 (by decide) ?_
          refine s_iconst (v := nI 4) dM_does_22 (by decide) ?_
          refine s_t3 dM_does_23 cs_M_117 (c_isIn (r := 1) (by first | exact Or.inl ⟨rfl, by decide, by decide⟩ | exact Or.inr ⟨rfl, by decide⟩)) rfl rfl rfl rfl ?_
          refine s_if_ne dM_does_26 (fun _ => ?_) (fun q => absurd q (by decide))
          refine s_iconst (v := 1) dM_does_35 (by decide) ?_
          refine s_goto dM_does_36 ?_
          refine s_istore dM_does_40 rfl ?_
          refine s_iload_n dM_does_42 rfl rfl ?_
          refine s_iconst (v := 1) dM_does_43 (by decide) ?_
          refine s_icmp_ne dM_does_44 (fun _ => ?_) (fun q => absurd q (by decide))
          refine s_iload dM_does_57 rfl ?_
          refine s_if_eq dM_does_59 (fun q => absurd q (by decide)) (fun _ => ?_)
          refine s_iload_n dM_does_62 rfl rfl ?_
          refine s_iconst (v := 0) dM_does_63 (by decide) ?_
          refine s_iconst (v := nI 3) dM_does_64 (by decide) ?_
          refine s_t3 dM_does_65 cs_M_117 (c_inZ (K := 4) (by omega) hz) rfl rfl rfl rfl ?_
          refine s_if_eq dM_does_68 (fun _ => ?_) (fun q => absurd rfl q)
          refine s_iconst (v := (-1)) dM_does_111 (by decide) ?_
          refine s_iret dM_does_112 rfl (by first | exact Nat.le_refl _ | decide | omega) (by first | exact Nat.le_refl _ | decide | omega) ?_
          dsimp only
          rw [if_neg (show ¬ deed 4 x y B = true by simp [deed, e2])]
          exact ⟨rfl, rfl⟩
        · rcases iz_cases y (K := 4) (by omega) with ⟨e3, hz⟩ | ⟨i2, hi2, rfl, e3⟩
          · refine s_aload_n dM_does_0 rfl rfl ?_
            refine s_iload_n dM_does_1 rfl rfl ?_
            refine s_v1 dM_does_2 cv_M_141 hM_o (c_M_isRule hR (by omega) (Iz1 hj)) rfl rfl rfl rfl ?_
            refine s_if_eq dM_does_5 (fun q => absurd q (by decide)) (fun _ => ?_)
            refine s_iload_n dM_does_8 rfl rfl ?_
            refine s_iconst (v := 0) dM_does_9 (by decide) ?_
            refine s_bipush (v := nI 8) dM_does_10 (by decide) ?_
            refine s_t3 dM_does_12 cs_M_117 (c_inZ (K := 9) (by omega) (Iz1 (by omega))) rfl rfl rfl rfl ?_
            refine s_if_ne dM_does_15 (fun _ => ?_) (fun q => absurd q (by decide))
            refine s_iload_n dM_does_20 rfl rfl ?_
            refine s_iconst (v := nI 2) dM_does_21 (by decide) ?_
            refine s_iconst (v := nI 4) dM_does_22 (by decide) ?_
            refine s_t3 dM_does_23 cs_M_117 (c_isIn (r := 1) (by first | exact Or.inl ⟨rfl, by decide, by decide⟩ | exact Or.inr ⟨rfl, by decide⟩)) rfl rfl rfl rfl ?_
            refine s_if_ne dM_does_26 (fun _ => ?_) (fun q => absurd q (by decide))
            refine s_iconst (v := 1) dM_does_35 (by decide) ?_
            refine s_goto dM_does_36 ?_
            refine s_istore dM_does_40 rfl ?_
            refine s_iload_n dM_does_42 rfl rfl ?_
            refine s_iconst (v := 1) dM_does_43 (by decide) ?_
            refine s_icmp_ne dM_does_44 (fun _ => ?_) (fun q => absurd q (by decide))
            refine s_iload dM_does_57 rfl ?_
            refine s_if_eq dM_does_59 (fun q => absurd q (by decide)) (fun _ => ?_)
            refine s_iload_n dM_does_62 rfl rfl ?_
            refine s_iconst (v := 0) dM_does_63 (by decide) ?_
            refine s_iconst (v := nI 3) dM_does_64 (by decide) ?_
            refine s_t3 dM_does_65 cs_M_117 (c_inZ (K := 4) (by omega) (Iz1 hi)) rfl rfl rfl rfl ?_
            refine s_if_eq dM_does_68 (fun q => absurd q (by decide)) (fun _ => ?_)
            refine s_iload_n dM_does_71 rfl rfl ?_
            refine s_iconst (v := nI 5) dM_does_72 (by decide) ?_
            refine s_icmp_eq dM_does_73 (fun q => absurd q (by decide)) (fun _ => ?_)
            refine s_iload_n dM_does_76 rfl rfl ?_
            refine s_bipush (v := nI 6) dM_does_77 (by decide) ?_
            refine s_icmp_ne dM_does_79 (fun _ => ?_) (fun q => absurd q (by decide))
            refine s_iload_n dM_does_90 rfl rfl ?_
            refine s_iconst (v := nI 4) dM_does_91 (by decide) ?_
            refine s_icmp_eq dM_does_92 (fun _ => ?_) (fun q => absurd rfl q)
            refine s_iload dM_does_101 rfl ?_
            refine s_iconst (v := 0) dM_does_103 (by decide) ?_
            refine s_iconst (v := nI 3) dM_does_104 (by decide) ?_
            refine s_t3 dM_does_105 cs_M_117 (c_inZ (K := 4) (by omega) hz) rfl rfl rfl rfl ?_
            refine s_if_ne dM_does_108 (fun q => absurd rfl q) (fun _ => ?_)
            refine s_iconst (v := (-1)) dM_does_111 (by decide) ?_
            refine s_iret dM_does_112 rfl (by first | exact Nat.le_refl _ | decide | omega) (by first | exact Nat.le_refl _ | decide | omega) ?_
            dsimp only
            rw [if_neg (show ¬ deed 4 (nI i) y B = true by simp [deed, e2, e3])]
            exact ⟨rfl, rfl⟩
          · refine s_aload_n dM_does_0 rfl rfl ?_
            refine s_iload_n dM_does_1 rfl rfl ?_
            refine s_v1 dM_does_2 cv_M_141 hM_o (c_M_isRule hR (by omega) (Iz1 hj)) rfl rfl rfl rfl ?_
            refine s_if_eq dM_does_5 (fun q => absurd q (by decide)) (fun _ => ?_)
            refine s_iload_n dM_does_8 rfl rfl ?_
            refine s_iconst (v := 0) dM_does_9 (by decide) ?_
            refine s_bipush (v := nI 8) dM_does_10 (by decide) ?_
            refine s_t3 dM_does_12 cs_M_117 (c_inZ (K := 9) (by omega) (Iz1 (by omega))) rfl rfl rfl rfl ?_
            refine s_if_ne dM_does_15 (fun _ => ?_) (fun q => absurd q (by decide))
            refine s_iload_n dM_does_20 rfl rfl ?_
            refine s_iconst (v := nI 2) dM_does_21 (by decide) ?_
            refine s_iconst (v := nI 4) dM_does_22 (by decide) ?_
            refine s_t3 dM_does_23 cs_M_117 (c_isIn (r := 1) (by first | exact Or.inl ⟨rfl, by decide, by decide⟩ | exact Or.inr ⟨rfl, by decide⟩)) rfl rfl rfl rfl ?_
            refine s_if_ne dM_does_26 (fun _ => ?_) (fun q => absurd q (by decide))
            refine s_iconst (v := 1) dM_does_35 (by decide) ?_
            refine s_goto dM_does_36 ?_
            refine s_istore dM_does_40 rfl ?_
            refine s_iload_n dM_does_42 rfl rfl ?_
            refine s_iconst (v := 1) dM_does_43 (by decide) ?_
            refine s_icmp_ne dM_does_44 (fun _ => ?_) (fun q => absurd q (by decide))
            refine s_iload dM_does_57 rfl ?_
            refine s_if_eq dM_does_59 (fun q => absurd q (by decide)) (fun _ => ?_)
            refine s_iload_n dM_does_62 rfl rfl ?_
            refine s_iconst (v := 0) dM_does_63 (by decide) ?_
            refine s_iconst (v := nI 3) dM_does_64 (by decide) ?_
            refine s_t3 dM_does_65 cs_M_117 (c_inZ (K := 4) (by omega) (Iz1 hi)) rfl rfl rfl rfl ?_
            refine s_if_eq dM_does_68 (fun q => absurd q (by decide)) (fun _ => ?_)
            refine s_iload_n dM_does_71 rfl rfl ?_
            refine s_iconst (v := nI 5) dM_does_72 (by decide) ?_
            refine s_icmp_eq dM_does_73 (fun q => absurd q (by decide)) (fun _ => ?_)
            refine s_iload_n dM_does_76 rfl rfl ?_
            refine s_bipush (v := nI 6) dM_does_77 (by decide) ?_
            refine s_icmp_ne dM_does_79 (fun _ => ?_) (fun q => absurd q (by decide))
            refine s_iload_n dM_does_90 rfl rfl ?_
            refine s_iconst (v := nI 4) dM_does_91 (by decide) ?_
            refine s_icmp_eq dM_does_92 (fun _ => ?_) (fun q => absurd rfl q)
            refine s_iload dM_does_101 rfl ?_
            refine s_iconst (v := 0) dM_does_103 (by decide) ?_
            refine s_iconst (v := nI 3) dM_does_104 (by decide) ?_
            refine s_t3 dM_does_105 cs_M_117 (c_inZ (K := 4) (by omega) (Iz1 hi2)) rfl rfl rfl rfl ?_
            refine s_if_ne dM_does_108 (fun _ => ?_) (fun q => absurd q (by decide))
            refine s_aload_n dM_does_113 rfl rfl ?_
            refine s_mga dM_does_114 gf_M_40 rfl ?_
            refine s_iconst (v := nI 3) dM_does_117 (by decide) ?_
            refine s_iload_n dM_does_118 rfl rfl ?_
            first | refine s_imulN dM_does_119 ?_ | refine s_imul dM_does_119 ?_
            refine s_iload_n dM_does_120 rfl rfl ?_
            refine s_mast dM_does_121 rfl rfl (show _ < 180 by omega) rfl ?_
            refine s_aload_n dM_does_122 rfl rfl ?_
            refine s_mga dM_does_123 gf_M_40 rfl ?_
            refine s_iconst (v := nI 3) dM_does_126 (by decide) ?_
            refine s_iload_n dM_does_127 rfl rfl ?_
            first | refine s_imulN dM_does_128 ?_ | refine s_imul dM_does_128 ?_
            refine s_iconst (v := nI 1) dM_does_129 (by decide) ?_
            first | refine s_iaddN dM_does_130 ?_ | refine s_iadd dM_does_130 ?_
            refine s_iload_n dM_does_131 rfl rfl ?_
            refine s_mast dM_does_132 rfl rfl (show _ < 180 by omega) rfl ?_
            refine s_aload_n dM_does_133 rfl rfl ?_
            refine s_mga dM_does_134 gf_M_40 rfl ?_
            refine s_iconst (v := nI 3) dM_does_137 (by decide) ?_
            refine s_iload_n dM_does_138 rfl rfl ?_
            first | refine s_imulN dM_does_139 ?_ | refine s_imul dM_does_139 ?_
            refine s_iconst (v := nI 2) dM_does_140 (by decide) ?_
            first | refine s_iaddN dM_does_141 ?_ | refine s_iadd dM_does_141 ?_
            refine s_iload dM_does_142 rfl ?_
            refine s_mast dM_does_144 rfl rfl (show _ < 180 by omega) rfl ?_
            refine s_iconst (v := 0) dM_does_145 (by decide) ?_
            refine s_iret dM_does_146 rfl (by first | exact Nat.le_refl _ | decide | omega) (by first | exact Nat.le_refl _ | decide | omega) ?_
            dsimp only
            rw [if_pos (show deed 4 (nI i) (nI i2) B = true by simp [deed, e2, e3])]
            exact ⟨rfl, rfl⟩
      | 5, _ =>
        rcases iz_cases x (K := B) (by omega) with ⟨e2, hz⟩ | ⟨i, hi, rfl, e2⟩
        · refine s_aload_n dM_does_0 rfl rfl ?_
          refine s_iload_n dM_does_1 rfl rfl ?_
          refine s_v1 dM_does_2 cv_M_141 hM_o (c_M_isRule hR (by omega) (Iz1 hj)) rfl rfl rfl rfl ?_
          refine s_if_eq dM_does_5 (fun q => absurd q (by decide)) (fun _ => ?_)
          refine s_iload_n dM_does_8 rfl rfl ?_
          refine s_iconst (v := 0) dM_does_9 (by decide) ?_
          refine s_bipush (v := nI 8) dM_does_10 (by decide) ?_
          refine s_t3 dM_does_12 cs_M_117 (c_inZ (K := 9) (by omega) (Iz1 (by omega))) rfl rfl rfl rfl ?_
          refine s_if_ne dM_does_15 (fun _ => ?_) (fun q => absurd q (by decide))
          refine s_iload_n dM_does_20 rfl rfl ?_
          refine s_iconst (v := nI 2) dM_does_21 (by decide) ?_
          refine s_iconst (v := nI 4) dM_does_22 (by decide) ?_
          refine s_t3 dM_does_23 cs_M_117 (c_isIn (r := 0) (by first | exact Or.inl ⟨rfl, by decide, by decide⟩ | exact Or.inr ⟨rfl, by decide⟩)) rfl rfl rfl rfl ?_
          refine s_if_ne dM_does_26 (fun q => absurd rfl q) (fun _ => ?_)
          refine s_iload_n dM_does_29 rfl rfl ?_
          refine s_bipush (v := nI 8) dM_does_30 (by decide) ?_
          refine s_icmp_ne dM_does_32 (fun _ => ?_) (fun q => absurd q (by decide))
          refine s_iconst (v := 0) dM_does_39 (by decide) ?_
          refine s_istore dM_does_40 rfl ?_
          refine s_iload_n dM_does_42 rfl rfl ?_
          refine s_iconst (v := 1) dM_does_43 (by decide) ?_
          refine s_icmp_ne dM_does_44 (fun _ => ?_) (fun q => absurd q (by decide))
          refine s_iload dM_does_57 rfl ?_
          refine s_if_eq dM_does_59 (fun _ => ?_) (fun q => absurd rfl q)
          refine s_iload_n dM_does_71 rfl rfl ?_
          refine s_iconst (v := nI 5) dM_does_72 (by decide) ?_
          refine s_icmp_eq dM_does_73 (fun _ => ?_) (fun q => absurd rfl q)
          refine s_aload_n dM_does_82 rfl rfl ?_
          refine s_iload_n dM_does_83 rfl rfl ?_
          refine s_v1 dM_does_84 cv_M_135 hM_o (c_M_isBook hB (by omega) hz) rfl rfl rfl rfl ?_
          refine s_if_eq dM_does_87 (fun _ => ?_) (fun q => absurd rfl q)
          refine s_iconst (v := (-1)) dM_does_111 (by decide) ?_
          refine s_iret dM_does_112 rfl (by first | exact Nat.le_refl _ | decide | omega) (by first | exact Nat.le_refl _ | decide | omega) ?_
          dsimp only
          rw [if_neg (show ¬ deed 5 x y B = true by simp [deed, e2])]
          exact ⟨rfl, rfl⟩
        · refine s_aload_n dM_does_0 rfl rfl ?_
          refine s_iload_n dM_does_1 rfl rfl ?_
          refine s_v1 dM_does_2 cv_M_141 hM_o (c_M_isRule hR (by omega) (Iz1 hj)) rfl rfl rfl rfl ?_
          refine s_if_eq dM_does_5 (fun q => absurd q (by decide)) (fun _ => ?_)
          refine s_iload_n dM_does_8 rfl rfl ?_
          refine s_iconst (v := 0) dM_does_9 (by decide) ?_
          refine s_bipush (v := nI 8) dM_does_10 (by decide) ?_
          refine s_t3 dM_does_12 cs_M_117 (c_inZ (K := 9) (by omega) (Iz1 (by omega))) rfl rfl rfl rfl ?_
          refine s_if_ne dM_does_15 (fun _ => ?_) (fun q => absurd q (by decide))
          refine s_iload_n dM_does_20 rfl rfl ?_
          refine s_iconst (v := nI 2) dM_does_21 (by decide) ?_
          refine s_iconst (v := nI 4) dM_does_22 (by decide) ?_
          refine s_t3 dM_does_23 cs_M_117 (c_isIn (r := 0) (by first | exact Or.inl ⟨rfl, by decide, by decide⟩ | exact Or.inr ⟨rfl, by decide⟩)) rfl rfl rfl rfl ?_
          refine s_if_ne dM_does_26 (fun q => absurd rfl q) (fun _ => ?_)
          refine s_iload_n dM_does_29 rfl rfl ?_
          refine s_bipush (v := nI 8) dM_does_30 (by decide) ?_
          refine s_icmp_ne dM_does_32 (fun _ => ?_) (fun q => absurd q (by decide))
          refine s_iconst (v := 0) dM_does_39 (by decide) ?_
          refine s_istore dM_does_40 rfl ?_
          refine s_iload_n dM_does_42 rfl rfl ?_
          refine s_iconst (v := 1) dM_does_43 (by decide) ?_
          refine s_icmp_ne dM_does_44 (fun _ => ?_) (fun q => absurd q (by decide))
          refine s_iload dM_does_57 rfl ?_
          refine s_if_eq dM_does_59 (fun _ => ?_) (fun q => absurd rfl q)
          refine s_iload_n dM_does_71 rfl rfl ?_
          refine s_iconst (v := nI 5) dM_does_72 (by decide) ?_
          refine s_icmp_eq dM_does_73 (fun _ => ?_) (fun q => absurd rfl q)
          refine s_aload_n dM_does_82 rfl rfl ?_
          refine s_iload_n dM_does_83 rfl rfl ?_
          refine s_v1 dM_does_84 cv_M_135 hM_o (c_M_isBook hB (by omega) (Iz1 hi)) rfl rfl rfl rfl ?_
          refine s_if_eq dM_does_87 (fun q => absurd q (by decide)) (fun _ => ?_)
          refine s_iload_n dM_does_90 rfl rfl ?_
          refine s_iconst (v := nI 4) dM_does_91 (by decide) ?_
          refine s_icmp_eq dM_does_92 (fun q => absurd q (by decide)) (fun _ => ?_)
          refine s_iload_n dM_does_95 rfl rfl ?_
          refine s_bipush (v := nI 8) dM_does_96 (by decide) ?_
          refine s_icmp_ne dM_does_98 (fun _ => ?_) (fun q => absurd q (by decide))
          refine s_aload_n dM_does_113 rfl rfl ?_
          refine s_mga dM_does_114 gf_M_40 rfl ?_
          refine s_iconst (v := nI 3) dM_does_117 (by decide) ?_
          refine s_iload_n dM_does_118 rfl rfl ?_
          first | refine s_imulN dM_does_119 ?_ | refine s_imul dM_does_119 ?_
          refine s_iload_n dM_does_120 rfl rfl ?_
          refine s_mast dM_does_121 rfl rfl (show _ < 180 by omega) rfl ?_
          refine s_aload_n dM_does_122 rfl rfl ?_
          refine s_mga dM_does_123 gf_M_40 rfl ?_
          refine s_iconst (v := nI 3) dM_does_126 (by decide) ?_
          refine s_iload_n dM_does_127 rfl rfl ?_
          first | refine s_imulN dM_does_128 ?_ | refine s_imul dM_does_128 ?_
          refine s_iconst (v := nI 1) dM_does_129 (by decide) ?_
          first | refine s_iaddN dM_does_130 ?_ | refine s_iadd dM_does_130 ?_
          refine s_iload_n dM_does_131 rfl rfl ?_
          refine s_mast dM_does_132 rfl rfl (show _ < 180 by omega) rfl ?_
          refine s_aload_n dM_does_133 rfl rfl ?_
          refine s_mga dM_does_134 gf_M_40 rfl ?_
          refine s_iconst (v := nI 3) dM_does_137 (by decide) ?_
          refine s_iload_n dM_does_138 rfl rfl ?_
          first | refine s_imulN dM_does_139 ?_ | refine s_imul dM_does_139 ?_
          refine s_iconst (v := nI 2) dM_does_140 (by decide) ?_
          first | refine s_iaddN dM_does_141 ?_ | refine s_iadd dM_does_141 ?_
          refine s_iload dM_does_142 rfl ?_
          refine s_mast dM_does_144 rfl rfl (show _ < 180 by omega) rfl ?_
          refine s_iconst (v := 0) dM_does_145 (by decide) ?_
          refine s_iret dM_does_146 rfl (by first | exact Nat.le_refl _ | decide | omega) (by first | exact Nat.le_refl _ | decide | omega) ?_
          dsimp only
          rw [if_pos (show deed 5 (nI i) y B = true by simp [deed, e2])]
          exact ⟨rfl, rfl⟩
      | 6, _ =>
        rcases iz_cases x (K := B) (by omega) with ⟨e2, hz⟩ | ⟨i, hi, rfl, e2⟩
        · refine s_aload_n dM_does_0 rfl rfl ?_
          refine s_iload_n dM_does_1 rfl rfl ?_
          refine s_v1 dM_does_2 cv_M_141 hM_o (c_M_isRule hR (by omega) (Iz1 hj)) rfl rfl rfl rfl ?_
          refine s_if_eq dM_does_5 (fun q => absurd q (by decide)) (fun _ => ?_)
          refine s_iload_n dM_does_8 rfl rfl ?_
          refine s_iconst (v := 0) dM_does_9 (by decide) ?_
          refine s_bipush (v := nI 8) dM_does_10 (by decide) ?_
          refine s_t3 dM_does_12 cs_M_117 (c_inZ (K := 9) (by omega) (Iz1 (by omega))) rfl rfl rfl rfl ?_
          refine s_if_ne dM_does_15 (fun _ => ?_) (fun q => absurd q (by decide))
          refine s_iload_n dM_does_20 rfl rfl ?_
          refine s_iconst (v := nI 2) dM_does_21 (by decide) ?_
          refine s_iconst (v := nI 4) dM_does_22 (by decide) ?_
          refine s_t3 dM_does_23 cs_M_117 (c_isIn (r := 0) (by first | exact Or.inl ⟨rfl, by decide, by decide⟩ | exact Or.inr ⟨rfl, by decide⟩)) rfl rfl rfl rfl ?_
          refine s_if_ne dM_does_26 (fun q => absurd rfl q) (fun _ => ?_)
          refine s_iload_n dM_does_29 rfl rfl ?_
          refine s_bipush (v := nI 8) dM_does_30 (by decide) ?_
          refine s_icmp_ne dM_does_32 (fun _ => ?_) (fun q => absurd q (by decide))
          refine s_iconst (v := 0) dM_does_39 (by decide) ?_
          refine s_istore dM_does_40 rfl ?_
          refine s_iload_n dM_does_42 rfl rfl ?_
          refine s_iconst (v := 1) dM_does_43 (by decide) ?_
          refine s_icmp_ne dM_does_44 (fun _ => ?_) (fun q => absurd q (by decide))
          refine s_iload dM_does_57 rfl ?_
          refine s_if_eq dM_does_59 (fun _ => ?_) (fun q => absurd rfl q)
          refine s_iload_n dM_does_71 rfl rfl ?_
          refine s_iconst (v := nI 5) dM_does_72 (by decide) ?_
          refine s_icmp_eq dM_does_73 (fun q => absurd q (by decide)) (fun _ => ?_)
          refine s_iload_n dM_does_76 rfl rfl ?_
          refine s_bipush (v := nI 6) dM_does_77 (by decide) ?_
          refine s_icmp_ne dM_does_79 (fun q => absurd rfl q) (fun _ => ?_)
          refine s_aload_n dM_does_82 rfl rfl ?_
          refine s_iload_n dM_does_83 rfl rfl ?_
          refine s_v1 dM_does_84 cv_M_135 hM_o (c_M_isBook hB (by omega) hz) rfl rfl rfl rfl ?_
          refine s_if_eq dM_does_87 (fun _ => ?_) (fun q => absurd rfl q)
          refine s_iconst (v := (-1)) dM_does_111 (by decide) ?_
          refine s_iret dM_does_112 rfl (by first | exact Nat.le_refl _ | decide | omega) (by first | exact Nat.le_refl _ | decide | omega) ?_
          dsimp only
          rw [if_neg (show ¬ deed 6 x y B = true by simp [deed, e2])]
          exact ⟨rfl, rfl⟩
        · refine s_aload_n dM_does_0 rfl rfl ?_
          refine s_iload_n dM_does_1 rfl rfl ?_
          refine s_v1 dM_does_2 cv_M_141 hM_o (c_M_isRule hR (by omega) (Iz1 hj)) rfl rfl rfl rfl ?_
          refine s_if_eq dM_does_5 (fun q => absurd q (by decide)) (fun _ => ?_)
          refine s_iload_n dM_does_8 rfl rfl ?_
          refine s_iconst (v := 0) dM_does_9 (by decide) ?_
          refine s_bipush (v := nI 8) dM_does_10 (by decide) ?_
          refine s_t3 dM_does_12 cs_M_117 (c_inZ (K := 9) (by omega) (Iz1 (by omega))) rfl rfl rfl rfl ?_
          refine s_if_ne dM_does_15 (fun _ => ?_) (fun q => absurd q (by decide))
          refine s_iload_n dM_does_20 rfl rfl ?_
          refine s_iconst (v := nI 2) dM_does_21 (by decide) ?_
          refine s_iconst (v := nI 4) dM_does_22 (by decide) ?_
          refine s_t3 dM_does_23 cs_M_117 (c_isIn (r := 0) (by first | exact Or.inl ⟨rfl, by decide, by decide⟩ | exact Or.inr ⟨rfl, by decide⟩)) rfl rfl rfl rfl ?_
          refine s_if_ne dM_does_26 (fun q => absurd rfl q) (fun _ => ?_)
          refine s_iload_n dM_does_29 rfl rfl ?_
          refine s_bipush (v := nI 8) dM_does_30 (by decide) ?_
          refine s_icmp_ne dM_does_32 (fun _ => ?_) (fun q => absurd q (by decide))
          refine s_iconst (v := 0) dM_does_39 (by decide) ?_
          refine s_istore dM_does_40 rfl ?_
          refine s_iload_n dM_does_42 rfl rfl ?_
          refine s_iconst (v := 1) dM_does_43 (by decide) ?_
          refine s_icmp_ne dM_does_44 (fun _ => ?_) (fun q => absurd q (by decide))
          refine s_iload dM_does_57 rfl ?_
          refine s_if_eq dM_does_59 (fun _ => ?_) (fun q => absurd rfl q)
          refine s_iload_n dM_does_71 rfl rfl ?_
          refine s_iconst (v := nI 5) dM_does_72 (by decide) ?_
          refine s_icmp_eq dM_does_73 (fun q => absurd q (by decide)) (fun _ => ?_)
          refine s_iload_n dM_does_76 rfl rfl ?_
          refine s_bipush (v := nI 6) dM_does_77 (by decide) ?_
          refine s_icmp_ne dM_does_79 (fun q => absurd rfl q) (fun _ => ?_)
          refine s_aload_n dM_does_82 rfl rfl ?_
          refine s_iload_n dM_does_83 rfl rfl ?_
          refine s_v1 dM_does_84 cv_M_135 hM_o (c_M_isBook hB (by omega) (Iz1 hi)) rfl rfl rfl rfl ?_
          refine s_if_eq dM_does_87 (fun q => absurd q (by decide)) (fun _ => ?_)
          refine s_iload_n dM_does_90 rfl rfl ?_
          refine s_iconst (v := nI 4) dM_does_91 (by decide) ?_
          refine s_icmp_eq dM_does_92 (fun q => absurd q (by decide)) (fun _ => ?_)
          refine s_iload_n dM_does_95 rfl rfl ?_
          refine s_bipush (v := nI 8) dM_does_96 (by decide) ?_
          refine s_icmp_ne dM_does_98 (fun _ => ?_) (fun q => absurd q (by decide))
          refine s_aload_n dM_does_113 rfl rfl ?_
          refine s_mga dM_does_114 gf_M_40 rfl ?_
          refine s_iconst (v := nI 3) dM_does_117 (by decide) ?_
          refine s_iload_n dM_does_118 rfl rfl ?_
          first | refine s_imulN dM_does_119 ?_ | refine s_imul dM_does_119 ?_
          refine s_iload_n dM_does_120 rfl rfl ?_
          refine s_mast dM_does_121 rfl rfl (show _ < 180 by omega) rfl ?_
          refine s_aload_n dM_does_122 rfl rfl ?_
          refine s_mga dM_does_123 gf_M_40 rfl ?_
          refine s_iconst (v := nI 3) dM_does_126 (by decide) ?_
          refine s_iload_n dM_does_127 rfl rfl ?_
          first | refine s_imulN dM_does_128 ?_ | refine s_imul dM_does_128 ?_
          refine s_iconst (v := nI 1) dM_does_129 (by decide) ?_
          first | refine s_iaddN dM_does_130 ?_ | refine s_iadd dM_does_130 ?_
          refine s_iload_n dM_does_131 rfl rfl ?_
          refine s_mast dM_does_132 rfl rfl (show _ < 180 by omega) rfl ?_
          refine s_aload_n dM_does_133 rfl rfl ?_
          refine s_mga dM_does_134 gf_M_40 rfl ?_
          refine s_iconst (v := nI 3) dM_does_137 (by decide) ?_
          refine s_iload_n dM_does_138 rfl rfl ?_
          first | refine s_imulN dM_does_139 ?_ | refine s_imul dM_does_139 ?_
          refine s_iconst (v := nI 2) dM_does_140 (by decide) ?_
          first | refine s_iaddN dM_does_141 ?_ | refine s_iadd dM_does_141 ?_
          refine s_iload dM_does_142 rfl ?_
          refine s_mast dM_does_144 rfl rfl (show _ < 180 by omega) rfl ?_
          refine s_iconst (v := 0) dM_does_145 (by decide) ?_
          refine s_iret dM_does_146 rfl (by first | exact Nat.le_refl _ | decide | omega) (by first | exact Nat.le_refl _ | decide | omega) ?_
          dsimp only
          rw [if_pos (show deed 6 (nI i) y B = true by simp [deed, e2])]
          exact ⟨rfl, rfl⟩
      | 7, _ =>
        refine s_aload_n dM_does_0 rfl rfl ?_
        refine s_iload_n dM_does_1 rfl rfl ?_
        refine s_v1 dM_does_2 cv_M_141 hM_o (c_M_isRule hR (by omega) (Iz1 hj)) rfl rfl rfl rfl ?_
        refine s_if_eq dM_does_5 (fun q => absurd q (by decide)) (fun _ => ?_)
        refine s_iload_n dM_does_8 rfl rfl ?_
        refine s_iconst (v := 0) dM_does_9 (by decide) ?_
        refine s_bipush (v := nI 8) dM_does_10 (by decide) ?_
        refine s_t3 dM_does_12 cs_M_117 (c_inZ (K := 9) (by omega) (Iz1 (by omega))) rfl rfl rfl rfl ?_
        refine s_if_ne dM_does_15 (fun _ => ?_) (fun q => absurd q (by decide))
        refine s_iload_n dM_does_20 rfl rfl ?_
        refine s_iconst (v := nI 2) dM_does_21 (by decide) ?_
        refine s_iconst (v := nI 4) dM_does_22 (by decide) ?_
        refine s_t3 dM_does_23 cs_M_117 (c_isIn (r := 0) (by first | exact Or.inl ⟨rfl, by decide, by decide⟩ | exact Or.inr ⟨rfl, by decide⟩)) rfl rfl rfl rfl ?_
        refine s_if_ne dM_does_26 (fun q => absurd rfl q) (fun _ => ?_)
        refine s_iload_n dM_does_29 rfl rfl ?_
        refine s_bipush (v := nI 8) dM_does_30 (by decide) ?_
        refine s_icmp_ne dM_does_32 (fun _ => ?_) (fun q => absurd q (by decide))
        refine s_iconst (v := 0) dM_does_39 (by decide) ?_
        refine s_istore dM_does_40 rfl ?_
        refine s_iload_n dM_does_42 rfl rfl ?_
        refine s_iconst (v := 1) dM_does_43 (by decide) ?_
        refine s_icmp_ne dM_does_44 (fun _ => ?_) (fun q => absurd q (by decide))
        refine s_iload dM_does_57 rfl ?_
        refine s_if_eq dM_does_59 (fun _ => ?_) (fun q => absurd rfl q)
        refine s_iload_n dM_does_71 rfl rfl ?_
        refine s_iconst (v := nI 5) dM_does_72 (by decide) ?_
        refine s_icmp_eq dM_does_73 (fun q => absurd q (by decide)) (fun _ => ?_)
        refine s_iload_n dM_does_76 rfl rfl ?_
        refine s_bipush (v := nI 6) dM_does_77 (by decide) ?_
        refine s_icmp_ne dM_does_79 (fun _ => ?_) (fun q => absurd q (by decide))
        refine s_iload_n dM_does_90 rfl rfl ?_
        refine s_iconst (v := nI 4) dM_does_91 (by decide) ?_
        refine s_icmp_eq dM_does_92 (fun q => absurd q (by decide)) (fun _ => ?_)
        refine s_iload_n dM_does_95 rfl rfl ?_
        refine s_bipush (v := nI 8) dM_does_96 (by decide) ?_
        refine s_icmp_ne dM_does_98 (fun _ => ?_) (fun q => absurd q (by decide))
        refine s_aload_n dM_does_113 rfl rfl ?_
        refine s_mga dM_does_114 gf_M_40 rfl ?_
        refine s_iconst (v := nI 3) dM_does_117 (by decide) ?_
        refine s_iload_n dM_does_118 rfl rfl ?_
        first | refine s_imulN dM_does_119 ?_ | refine s_imul dM_does_119 ?_
        refine s_iload_n dM_does_120 rfl rfl ?_
        refine s_mast dM_does_121 rfl rfl (show _ < 180 by omega) rfl ?_
        refine s_aload_n dM_does_122 rfl rfl ?_
        refine s_mga dM_does_123 gf_M_40 rfl ?_
        refine s_iconst (v := nI 3) dM_does_126 (by decide) ?_
        refine s_iload_n dM_does_127 rfl rfl ?_
        first | refine s_imulN dM_does_128 ?_ | refine s_imul dM_does_128 ?_
        refine s_iconst (v := nI 1) dM_does_129 (by decide) ?_
        first | refine s_iaddN dM_does_130 ?_ | refine s_iadd dM_does_130 ?_
        refine s_iload_n dM_does_131 rfl rfl ?_
        refine s_mast dM_does_132 rfl rfl (show _ < 180 by omega) rfl ?_
        refine s_aload_n dM_does_133 rfl rfl ?_
        refine s_mga dM_does_134 gf_M_40 rfl ?_
        refine s_iconst (v := nI 3) dM_does_137 (by decide) ?_
        refine s_iload_n dM_does_138 rfl rfl ?_
        first | refine s_imulN dM_does_139 ?_ | refine s_imul dM_does_139 ?_
        refine s_iconst (v := nI 2) dM_does_140 (by decide) ?_
        first | refine s_iaddN dM_does_141 ?_ | refine s_iadd dM_does_141 ?_
        refine s_iload dM_does_142 rfl ?_
        refine s_mast dM_does_144 rfl rfl (show _ < 180 by omega) rfl ?_
        refine s_iconst (v := 0) dM_does_145 (by decide) ?_
        refine s_iret dM_does_146 rfl (by first | exact Nat.le_refl _ | decide | omega) (by first | exact Nat.le_refl _ | decide | omega) ?_
        dsimp only
        rw [if_pos (show deed 7 x y B = true by simp [deed])]
        exact ⟨rfl, rfl⟩
      | 8, _ =>
        rcases iz_cases x (K := 4) (by omega) with ⟨e2, hz⟩ | ⟨i, hi, rfl, e2⟩
        · refine s_aload_n dM_does_0 rfl rfl ?_
          refine s_iload_n dM_does_1 rfl rfl ?_
          refine s_v1 dM_does_2 cv_M_141 hM_o (c_M_isRule hR (by omega) (Iz1 hj)) rfl rfl rfl rfl ?_
          refine s_if_eq dM_does_5 (fun q => absurd q (by decide)) (fun _ => ?_)
          refine s_iload_n dM_does_8 rfl rfl ?_
          refine s_iconst (v := 0) dM_does_9 (by decide) ?_
          refine s_bipush (v := nI 8) dM_does_10 (by decide) ?_
          refine s_t3 dM_does_12 cs_M_117 (c_inZ (K := 9) (by omega) (Iz1 (by omega))) rfl rfl rfl rfl ?_
          refine s_if_ne dM_does_15 (fun _ => ?_) (fun q => absurd q (by decide))
          refine s_iload_n dM_does_20 rfl rfl ?_
          refine s_iconst (v := nI 2) dM_does_21 (by decide) ?_
          refine s_iconst (v := nI 4) dM_does_22 (by decide) ?_
          refine s_t3 dM_does_23 cs_M_117 (c_isIn (r := 0) (by first | exact Or.inl ⟨rfl, by decide, by decide⟩ | exact Or.inr ⟨rfl, by decide⟩)) rfl rfl rfl rfl ?_
          refine s_if_ne dM_does_26 (fun q => absurd rfl q) (fun _ => ?_)
          refine s_iload_n dM_does_29 rfl rfl ?_
          refine s_bipush (v := nI 8) dM_does_30 (by decide) ?_
          refine s_icmp_ne dM_does_32 (fun q => absurd rfl q) (fun _ => ?_)
          refine s_iconst (v := 1) dM_does_35 (by decide) ?_
          refine s_goto dM_does_36 ?_
          refine s_istore dM_does_40 rfl ?_
          refine s_iload_n dM_does_42 rfl rfl ?_
          refine s_iconst (v := 1) dM_does_43 (by decide) ?_
          refine s_icmp_ne dM_does_44 (fun _ => ?_) (fun q => absurd q (by decide))
          refine s_iload dM_does_57 rfl ?_
          refine s_if_eq dM_does_59 (fun q => absurd q (by decide)) (fun _ => ?_)
          refine s_iload_n dM_does_62 rfl rfl ?_
          refine s_iconst (v := 0) dM_does_63 (by decide) ?_
          refine s_iconst (v := nI 3) dM_does_64 (by decide) ?_
          refine s_t3 dM_does_65 cs_M_117 (c_inZ (K := 4) (by omega) hz) rfl rfl rfl rfl ?_
          refine s_if_eq dM_does_68 (fun _ => ?_) (fun q => absurd rfl q)
          refine s_iconst (v := (-1)) dM_does_111 (by decide) ?_
          refine s_iret dM_does_112 rfl (by first | exact Nat.le_refl _ | decide | omega) (by first | exact Nat.le_refl _ | decide | omega) ?_
          dsimp only
          rw [if_neg (show ¬ deed 8 x y B = true by simp [deed, e2])]
          exact ⟨rfl, rfl⟩
        · rcases iz_cases y (K := 4) (by omega) with ⟨e3, hz⟩ | ⟨i2, hi2, rfl, e3⟩
          · refine s_aload_n dM_does_0 rfl rfl ?_
            refine s_iload_n dM_does_1 rfl rfl ?_
            refine s_v1 dM_does_2 cv_M_141 hM_o (c_M_isRule hR (by omega) (Iz1 hj)) rfl rfl rfl rfl ?_
            refine s_if_eq dM_does_5 (fun q => absurd q (by decide)) (fun _ => ?_)
            refine s_iload_n dM_does_8 rfl rfl ?_
            refine s_iconst (v := 0) dM_does_9 (by decide) ?_
            refine s_bipush (v := nI 8) dM_does_10 (by decide) ?_
            refine s_t3 dM_does_12 cs_M_117 (c_inZ (K := 9) (by omega) (Iz1 (by omega))) rfl rfl rfl rfl ?_
            refine s_if_ne dM_does_15 (fun _ => ?_) (fun q => absurd q (by decide))
            refine s_iload_n dM_does_20 rfl rfl ?_
            refine s_iconst (v := nI 2) dM_does_21 (by decide) ?_
            refine s_iconst (v := nI 4) dM_does_22 (by decide) ?_
            refine s_t3 dM_does_23 cs_M_117 (c_isIn (r := 0) (by first | exact Or.inl ⟨rfl, by decide, by decide⟩ | exact Or.inr ⟨rfl, by decide⟩)) rfl rfl rfl rfl ?_
            refine s_if_ne dM_does_26 (fun q => absurd rfl q) (fun _ => ?_)
            refine s_iload_n dM_does_29 rfl rfl ?_
            refine s_bipush (v := nI 8) dM_does_30 (by decide) ?_
            refine s_icmp_ne dM_does_32 (fun q => absurd rfl q) (fun _ => ?_)
            refine s_iconst (v := 1) dM_does_35 (by decide) ?_
            refine s_goto dM_does_36 ?_
            refine s_istore dM_does_40 rfl ?_
            refine s_iload_n dM_does_42 rfl rfl ?_
            refine s_iconst (v := 1) dM_does_43 (by decide) ?_
            refine s_icmp_ne dM_does_44 (fun _ => ?_) (fun q => absurd q (by decide))
            refine s_iload dM_does_57 rfl ?_
            refine s_if_eq dM_does_59 (fun q => absurd q (by decide)) (fun _ => ?_)
            refine s_iload_n dM_does_62 rfl rfl ?_
            refine s_iconst (v := 0) dM_does_63 (by decide) ?_
            refine s_iconst (v := nI 3) dM_does_64 (by decide) ?_
            refine s_t3 dM_does_65 cs_M_117 (c_inZ (K := 4) (by omega) (Iz1 hi)) rfl rfl rfl rfl ?_
            refine s_if_eq dM_does_68 (fun q => absurd q (by decide)) (fun _ => ?_)
            refine s_iload_n dM_does_71 rfl rfl ?_
            refine s_iconst (v := nI 5) dM_does_72 (by decide) ?_
            refine s_icmp_eq dM_does_73 (fun q => absurd q (by decide)) (fun _ => ?_)
            refine s_iload_n dM_does_76 rfl rfl ?_
            refine s_bipush (v := nI 6) dM_does_77 (by decide) ?_
            refine s_icmp_ne dM_does_79 (fun _ => ?_) (fun q => absurd q (by decide))
            refine s_iload_n dM_does_90 rfl rfl ?_
            refine s_iconst (v := nI 4) dM_does_91 (by decide) ?_
            refine s_icmp_eq dM_does_92 (fun q => absurd q (by decide)) (fun _ => ?_)
            refine s_iload_n dM_does_95 rfl rfl ?_
            refine s_bipush (v := nI 8) dM_does_96 (by decide) ?_
            refine s_icmp_ne dM_does_98 (fun q => absurd rfl q) (fun _ => ?_)
            refine s_iload dM_does_101 rfl ?_
            refine s_iconst (v := 0) dM_does_103 (by decide) ?_
            refine s_iconst (v := nI 3) dM_does_104 (by decide) ?_
            refine s_t3 dM_does_105 cs_M_117 (c_inZ (K := 4) (by omega) hz) rfl rfl rfl rfl ?_
            refine s_if_ne dM_does_108 (fun q => absurd rfl q) (fun _ => ?_)
            refine s_iconst (v := (-1)) dM_does_111 (by decide) ?_
            refine s_iret dM_does_112 rfl (by first | exact Nat.le_refl _ | decide | omega) (by first | exact Nat.le_refl _ | decide | omega) ?_
            dsimp only
            rw [if_neg (show ¬ deed 8 (nI i) y B = true by simp [deed, e2, e3])]
            exact ⟨rfl, rfl⟩
          · refine s_aload_n dM_does_0 rfl rfl ?_
            refine s_iload_n dM_does_1 rfl rfl ?_
            refine s_v1 dM_does_2 cv_M_141 hM_o (c_M_isRule hR (by omega) (Iz1 hj)) rfl rfl rfl rfl ?_
            refine s_if_eq dM_does_5 (fun q => absurd q (by decide)) (fun _ => ?_)
            refine s_iload_n dM_does_8 rfl rfl ?_
            refine s_iconst (v := 0) dM_does_9 (by decide) ?_
            refine s_bipush (v := nI 8) dM_does_10 (by decide) ?_
            refine s_t3 dM_does_12 cs_M_117 (c_inZ (K := 9) (by omega) (Iz1 (by omega))) rfl rfl rfl rfl ?_
            refine s_if_ne dM_does_15 (fun _ => ?_) (fun q => absurd q (by decide))
            refine s_iload_n dM_does_20 rfl rfl ?_
            refine s_iconst (v := nI 2) dM_does_21 (by decide) ?_
            refine s_iconst (v := nI 4) dM_does_22 (by decide) ?_
            refine s_t3 dM_does_23 cs_M_117 (c_isIn (r := 0) (by first | exact Or.inl ⟨rfl, by decide, by decide⟩ | exact Or.inr ⟨rfl, by decide⟩)) rfl rfl rfl rfl ?_
            refine s_if_ne dM_does_26 (fun q => absurd rfl q) (fun _ => ?_)
            refine s_iload_n dM_does_29 rfl rfl ?_
            refine s_bipush (v := nI 8) dM_does_30 (by decide) ?_
            refine s_icmp_ne dM_does_32 (fun q => absurd rfl q) (fun _ => ?_)
            refine s_iconst (v := 1) dM_does_35 (by decide) ?_
            refine s_goto dM_does_36 ?_
            refine s_istore dM_does_40 rfl ?_
            refine s_iload_n dM_does_42 rfl rfl ?_
            refine s_iconst (v := 1) dM_does_43 (by decide) ?_
            refine s_icmp_ne dM_does_44 (fun _ => ?_) (fun q => absurd q (by decide))
            refine s_iload dM_does_57 rfl ?_
            refine s_if_eq dM_does_59 (fun q => absurd q (by decide)) (fun _ => ?_)
            refine s_iload_n dM_does_62 rfl rfl ?_
            refine s_iconst (v := 0) dM_does_63 (by decide) ?_
            refine s_iconst (v := nI 3) dM_does_64 (by decide) ?_
            refine s_t3 dM_does_65 cs_M_117 (c_inZ (K := 4) (by omega) (Iz1 hi)) rfl rfl rfl rfl ?_
            refine s_if_eq dM_does_68 (fun q => absurd q (by decide)) (fun _ => ?_)
            refine s_iload_n dM_does_71 rfl rfl ?_
            refine s_iconst (v := nI 5) dM_does_72 (by decide) ?_
            refine s_icmp_eq dM_does_73 (fun q => absurd q (by decide)) (fun _ => ?_)
            refine s_iload_n dM_does_76 rfl rfl ?_
            refine s_bipush (v := nI 6) dM_does_77 (by decide) ?_
            refine s_icmp_ne dM_does_79 (fun _ => ?_) (fun q => absurd q (by decide))
            refine s_iload_n dM_does_90 rfl rfl ?_
            refine s_iconst (v := nI 4) dM_does_91 (by decide) ?_
            refine s_icmp_eq dM_does_92 (fun q => absurd q (by decide)) (fun _ => ?_)
            refine s_iload_n dM_does_95 rfl rfl ?_
            refine s_bipush (v := nI 8) dM_does_96 (by decide) ?_
            refine s_icmp_ne dM_does_98 (fun q => absurd rfl q) (fun _ => ?_)
            refine s_iload dM_does_101 rfl ?_
            refine s_iconst (v := 0) dM_does_103 (by decide) ?_
            refine s_iconst (v := nI 3) dM_does_104 (by decide) ?_
            refine s_t3 dM_does_105 cs_M_117 (c_inZ (K := 4) (by omega) (Iz1 hi2)) rfl rfl rfl rfl ?_
            refine s_if_ne dM_does_108 (fun _ => ?_) (fun q => absurd q (by decide))
            refine s_aload_n dM_does_113 rfl rfl ?_
            refine s_mga dM_does_114 gf_M_40 rfl ?_
            refine s_iconst (v := nI 3) dM_does_117 (by decide) ?_
            refine s_iload_n dM_does_118 rfl rfl ?_
            first | refine s_imulN dM_does_119 ?_ | refine s_imul dM_does_119 ?_
            refine s_iload_n dM_does_120 rfl rfl ?_
            refine s_mast dM_does_121 rfl rfl (show _ < 180 by omega) rfl ?_
            refine s_aload_n dM_does_122 rfl rfl ?_
            refine s_mga dM_does_123 gf_M_40 rfl ?_
            refine s_iconst (v := nI 3) dM_does_126 (by decide) ?_
            refine s_iload_n dM_does_127 rfl rfl ?_
            first | refine s_imulN dM_does_128 ?_ | refine s_imul dM_does_128 ?_
            refine s_iconst (v := nI 1) dM_does_129 (by decide) ?_
            first | refine s_iaddN dM_does_130 ?_ | refine s_iadd dM_does_130 ?_
            refine s_iload_n dM_does_131 rfl rfl ?_
            refine s_mast dM_does_132 rfl rfl (show _ < 180 by omega) rfl ?_
            refine s_aload_n dM_does_133 rfl rfl ?_
            refine s_mga dM_does_134 gf_M_40 rfl ?_
            refine s_iconst (v := nI 3) dM_does_137 (by decide) ?_
            refine s_iload_n dM_does_138 rfl rfl ?_
            first | refine s_imulN dM_does_139 ?_ | refine s_imul dM_does_139 ?_
            refine s_iconst (v := nI 2) dM_does_140 (by decide) ?_
            first | refine s_iaddN dM_does_141 ?_ | refine s_iadd dM_does_141 ?_
            refine s_iload dM_does_142 rfl ?_
            refine s_mast dM_does_144 rfl rfl (show _ < 180 by omega) rfl ?_
            refine s_iconst (v := 0) dM_does_145 (by decide) ?_
            refine s_iret dM_does_146 rfl (by first | exact Nat.le_refl _ | decide | omega) (by first | exact Nat.le_refl _ | decide | omega) ?_
            dsimp only
            rw [if_pos (show deed 8 (nI i) (nI i2) B = true by simp [deed, e2, e3])]
            exact ⟨rfl, rfl⟩
