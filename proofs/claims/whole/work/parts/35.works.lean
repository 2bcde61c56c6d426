/-! works -/
def DP (σ : Sg) (R B : Nat) : Prop := ∀ r, r < R → ∃ c, c ≤ 8 ∧ σ 14 (3 * r) = nI c ∧ (c = 1 → ∃ x, 1 ≤ x ∧ x ≤ 99 ∧ σ 14 (3 * r + 1) = nI x) ∧ (c = 2 ∨ c = 3 ∨ c = 4 ∨ c = 8 → ∃ x, x < 4 ∧ σ 14 (3 * r + 1) = nI x) ∧ (c = 4 ∨ c = 8 → ∃ y, y < 4 ∧ σ 14 (3 * r + 2) = nI y) ∧ (c = 5 ∨ c = 6 → ∃ x, x < B ∧ σ 14 (3 * r + 1) = nI x)
theorem DP.sr {σ σ' : Sg} {R B : Nat} (c1 : sr σ σ') (P : DP σ R B) : DP σ' R B := by
  intro r hr1
  simp only [c1 14 _ rfl]
  exact P r hr1
theorem c_M_wk0 {σ : Sg} {h : Hp} {r s d : Nat} (hr : r < 60) (hs : s < 20) (hd : d < 6) (e0 : σ 14 (3 * r) = nI 0) : ConF mM_works 5 [vR (100, 0, 0), vI (nI r), vI (nI s), vI (nI d)] (hM σ h) (some (vI 0)) (hM σ h) := by
  refine c_enter (by decide +kernel) rfl rfl ?_
  refine s_aload_n dM_works_0 rfl rfl ?_
  refine s_mga dM_works_1 gf_M_40 rfl ?_
  refine s_iconst (v := nI 3) dM_works_4 (by decide) ?_
  refine s_iload_n dM_works_5 rfl rfl ?_
  first | refine s_imulN dM_works_6 ?_ | refine s_imul dM_works_6 ?_
  refine s_iconst (v := nI 1) dM_works_7 (by decide) ?_
  first | refine s_iaddN dM_works_8 ?_ | refine s_iadd dM_works_8 ?_
  refine s_mald dM_works_9 rfl rfl (show _ < 180 by omega) rfl ?_
  refine s_istore dM_works_10 rfl ?_
  refine s_aload_n dM_works_12 rfl rfl ?_
  refine s_mga dM_works_13 gf_M_40 rfl ?_
  refine s_iconst (v := nI 3) dM_works_16 (by decide) ?_
  refine s_iload_n dM_works_17 rfl rfl ?_
  first | refine s_imulN dM_works_18 ?_ | refine s_imul dM_works_18 ?_
  refine s_iconst (v := nI 2) dM_works_19 (by decide) ?_
  first | refine s_iaddN dM_works_20 ?_ | refine s_iadd dM_works_20 ?_
  refine s_mald dM_works_21 rfl rfl (show _ < 180 by omega) rfl ?_
  refine s_istore dM_works_22 rfl ?_
  refine s_aload_n dM_works_24 rfl rfl ?_
  refine s_mga dM_works_25 gf_M_40 rfl ?_
  refine s_iconst (v := nI 3) dM_works_28 (by decide) ?_
  refine s_iload_n dM_works_29 rfl rfl ?_
  first | refine s_imulN dM_works_30 ?_ | refine s_imul dM_works_30 ?_
  refine s_mald dM_works_31 rfl rfl (show _ < 180 by omega) rfl ?_
  refine s_top e0 ?_
  refine s_tabOut (tgt := 244) dM_works_32 (by left; decide +kernel) (by decide) ?_
  refine s_iconst (v := 0) dM_works_244 (by decide) ?_
  refine s_iret dM_works_245 rfl (by first | exact Nat.le_refl _ | decide | omega) (by first | exact Nat.le_refl _ | decide | omega) ?_
  exact ⟨rfl, rfl⟩
theorem c_M_wk1 {σ : Sg} {h : Hp} {r s d : Nat} (hr : r < 60) (hs : s < 20) (hd : d < 6) (e0 : σ 14 (3 * r) = nI 1) : ConF mM_works 5 [vR (100, 0, 0), vI (nI r), vI (nI s), vI (nI d)] (hM σ h) (some (vI (σ 14 (3 * r + 1)))) (hM σ h) := by
  refine c_enter (by decide +kernel) rfl rfl ?_
  refine s_aload_n dM_works_0 rfl rfl ?_
  refine s_mga dM_works_1 gf_M_40 rfl ?_
  refine s_iconst (v := nI 3) dM_works_4 (by decide) ?_
  refine s_iload_n dM_works_5 rfl rfl ?_
  first | refine s_imulN dM_works_6 ?_ | refine s_imul dM_works_6 ?_
  refine s_iconst (v := nI 1) dM_works_7 (by decide) ?_
  first | refine s_iaddN dM_works_8 ?_ | refine s_iadd dM_works_8 ?_
  refine s_mald dM_works_9 rfl rfl (show _ < 180 by omega) rfl ?_
  refine s_istore dM_works_10 rfl ?_
  refine s_aload_n dM_works_12 rfl rfl ?_
  refine s_mga dM_works_13 gf_M_40 rfl ?_
  refine s_iconst (v := nI 3) dM_works_16 (by decide) ?_
  refine s_iload_n dM_works_17 rfl rfl ?_
  first | refine s_imulN dM_works_18 ?_ | refine s_imul dM_works_18 ?_
  refine s_iconst (v := nI 2) dM_works_19 (by decide) ?_
  first | refine s_iaddN dM_works_20 ?_ | refine s_iadd dM_works_20 ?_
  refine s_mald dM_works_21 rfl rfl (show _ < 180 by omega) rfl ?_
  refine s_istore dM_works_22 rfl ?_
  refine s_aload_n dM_works_24 rfl rfl ?_
  refine s_mga dM_works_25 gf_M_40 rfl ?_
  refine s_iconst (v := nI 3) dM_works_28 (by decide) ?_
  refine s_iload_n dM_works_29 rfl rfl ?_
  first | refine s_imulN dM_works_30 ?_ | refine s_imul dM_works_30 ?_
  refine s_mald dM_works_31 rfl rfl (show _ < 180 by omega) rfl ?_
  refine s_top e0 ?_
  refine s_tabIn (off := 48) (tgt := 80) dM_works_32 (by decide +kernel) (by decide +kernel) (by decide +kernel) (by decide) ?_
  refine s_iload dM_works_80 rfl ?_
  refine s_iret dM_works_82 rfl (by first | exact Nat.le_refl _ | decide | omega) (by first | exact Nat.le_refl _ | decide | omega) ?_
  exact ⟨rfl, rfl⟩
theorem c_M_wk2 {σ : Sg} {h : Hp} {r s d : Nat} (hr : r < 60) (hs : s < 20) (hd : d < 6) {x : Nat} (e0 : σ 14 (3 * r) = nI 2) (e1 : σ 14 (3 * r + 1) = nI x) (hx : x < 4) : ConF mM_works 5 [vR (100, 0, 0), vI (nI r), vI (nI s), vI (nI d)] (hM σ h) (some (vI 0)) (hM (us σ 25 (4 * d + x) (σ 25 (4 * d + x) + σ 14 (3 * r + 2))) h) := by
  refine c_enter (by decide +kernel) rfl rfl ?_
  refine s_aload_n dM_works_0 rfl rfl ?_
  refine s_mga dM_works_1 gf_M_40 rfl ?_
  refine s_iconst (v := nI 3) dM_works_4 (by decide) ?_
  refine s_iload_n dM_works_5 rfl rfl ?_
  first | refine s_imulN dM_works_6 ?_ | refine s_imul dM_works_6 ?_
  refine s_iconst (v := nI 1) dM_works_7 (by decide) ?_
  first | refine s_iaddN dM_works_8 ?_ | refine s_iadd dM_works_8 ?_
  refine s_mald dM_works_9 rfl rfl (show _ < 180 by omega) rfl ?_
  refine s_top e1 ?_
  refine s_istore dM_works_10 rfl ?_
  refine s_aload_n dM_works_12 rfl rfl ?_
  refine s_mga dM_works_13 gf_M_40 rfl ?_
  refine s_iconst (v := nI 3) dM_works_16 (by decide) ?_
  refine s_iload_n dM_works_17 rfl rfl ?_
  first | refine s_imulN dM_works_18 ?_ | refine s_imul dM_works_18 ?_
  refine s_iconst (v := nI 2) dM_works_19 (by decide) ?_
  first | refine s_iaddN dM_works_20 ?_ | refine s_iadd dM_works_20 ?_
  refine s_mald dM_works_21 rfl rfl (show _ < 180 by omega) rfl ?_
  refine s_istore dM_works_22 rfl ?_
  refine s_aload_n dM_works_24 rfl rfl ?_
  refine s_mga dM_works_25 gf_M_40 rfl ?_
  refine s_iconst (v := nI 3) dM_works_28 (by decide) ?_
  refine s_iload_n dM_works_29 rfl rfl ?_
  first | refine s_imulN dM_works_30 ?_ | refine s_imul dM_works_30 ?_
  refine s_mald dM_works_31 rfl rfl (show _ < 180 by omega) rfl ?_
  refine s_top e0 ?_
  refine s_tabIn (off := 51) (tgt := 83) dM_works_32 (by decide +kernel) (by decide +kernel) (by decide +kernel) (by decide) ?_
  refine s_aload_n dM_works_83 rfl rfl ?_
  refine s_mga dM_works_84 gf_M_64 rfl ?_
  refine s_iconst (v := nI 4) dM_works_87 (by decide) ?_
  refine s_iload_n dM_works_88 rfl rfl ?_
  first | refine s_imulN dM_works_89 ?_ | refine s_imul dM_works_89 ?_
  refine s_iload dM_works_90 rfl ?_
  first | refine s_iaddN dM_works_92 ?_ | refine s_iadd dM_works_92 ?_
  refine s_dup2 dM_works_93 rfl rfl ?_
  refine s_mald dM_works_94 rfl rfl (show _ < 24 by omega) rfl ?_
  refine s_iload dM_works_95 rfl ?_
  first | refine s_iaddN dM_works_97 ?_ | refine s_iadd dM_works_97 ?_
  refine s_mast dM_works_98 rfl rfl (show _ < 24 by omega) rfl ?_
  refine s_iconst (v := 0) dM_works_99 (by decide) ?_
  refine s_iret dM_works_100 rfl (by first | exact Nat.le_refl _ | decide | omega) (by first | exact Nat.le_refl _ | decide | omega) ?_
  exact ⟨rfl, rfl⟩
theorem c_M_wk3 {σ : Sg} {h : Hp} {r s d : Nat} (hr : r < 60) (hs : s < 20) (hd : d < 6) {x : Nat} (e0 : σ 14 (3 * r) = nI 3) (e1 : σ 14 (3 * r + 1) = nI x) (hx : x < 4) : ConF mM_works 5 [vR (100, 0, 0), vI (nI r), vI (nI s), vI (nI d)] (hM σ h) (some (vI 0)) (hM (us σ 4 (4 * s + x) (σ 14 (3 * r + 2))) h) := by
  refine c_enter (by decide +kernel) rfl rfl ?_
  refine s_aload_n dM_works_0 rfl rfl ?_
  refine s_mga dM_works_1 gf_M_40 rfl ?_
  refine s_iconst (v := nI 3) dM_works_4 (by decide) ?_
  refine s_iload_n dM_works_5 rfl rfl ?_
  first | refine s_imulN dM_works_6 ?_ | refine s_imul dM_works_6 ?_
  refine s_iconst (v := nI 1) dM_works_7 (by decide) ?_
  first | refine s_iaddN dM_works_8 ?_ | refine s_iadd dM_works_8 ?_
  refine s_mald dM_works_9 rfl rfl (show _ < 180 by omega) rfl ?_
  refine s_top e1 ?_
  refine s_istore dM_works_10 rfl ?_
  refine s_aload_n dM_works_12 rfl rfl ?_
  refine s_mga dM_works_13 gf_M_40 rfl ?_
  refine s_iconst (v := nI 3) dM_works_16 (by decide) ?_
  refine s_iload_n dM_works_17 rfl rfl ?_
  first | refine s_imulN dM_works_18 ?_ | refine s_imul dM_works_18 ?_
  refine s_iconst (v := nI 2) dM_works_19 (by decide) ?_
  first | refine s_iaddN dM_works_20 ?_ | refine s_iadd dM_works_20 ?_
  refine s_mald dM_works_21 rfl rfl (show _ < 180 by omega) rfl ?_
  refine s_istore dM_works_22 rfl ?_
  refine s_aload_n dM_works_24 rfl rfl ?_
  refine s_mga dM_works_25 gf_M_40 rfl ?_
  refine s_iconst (v := nI 3) dM_works_28 (by decide) ?_
  refine s_iload_n dM_works_29 rfl rfl ?_
  first | refine s_imulN dM_works_30 ?_ | refine s_imul dM_works_30 ?_
  refine s_mald dM_works_31 rfl rfl (show _ < 180 by omega) rfl ?_
  refine s_top e0 ?_
  refine s_tabIn (off := 69) (tgt := 101) dM_works_32 (by decide +kernel) (by decide +kernel) (by decide +kernel) (by decide) ?_
  refine s_aload_n dM_works_101 rfl rfl ?_
  refine s_mga dM_works_102 gf_M_16 rfl ?_
  refine s_iconst (v := nI 4) dM_works_105 (by decide) ?_
  refine s_iload_n dM_works_106 rfl rfl ?_
  first | refine s_imulN dM_works_107 ?_ | refine s_imul dM_works_107 ?_
  refine s_iload dM_works_108 rfl ?_
  first | refine s_iaddN dM_works_110 ?_ | refine s_iadd dM_works_110 ?_
  refine s_iload dM_works_111 rfl ?_
  refine s_mast dM_works_113 rfl rfl (show _ < 80 by omega) rfl ?_
  refine s_iconst (v := 0) dM_works_114 (by decide) ?_
  refine s_iret dM_works_115 rfl (by first | exact Nat.le_refl _ | decide | omega) (by first | exact Nat.le_refl _ | decide | omega) ?_
  exact ⟨rfl, rfl⟩
theorem c_M_wk4a {σ : Sg} {h : Hp} {r s d : Nat} (hr : r < 60) (hs : s < 20) (hd : d < 6) {x y : Nat} (e0 : σ 14 (3 * r) = nI 4) (e1 : σ 14 (3 * r + 1) = nI x) (hx : x < 4) (e2 : σ 14 (3 * r + 2) = nI y) (hy : y < 4) (hz : σ 25 (4 * d + y) = 0) : ConF mM_works 5 [vR (100, 0, 0), vI (nI r), vI (nI s), vI (nI d)] (hM σ h) (some (vI 0)) (hM (us (us σ 30 0 1) 31 0 (nI r)) h) := by
  refine c_enter (by decide +kernel) rfl rfl ?_
  refine s_aload_n dM_works_0 rfl rfl ?_
  refine s_mga dM_works_1 gf_M_40 rfl ?_
  refine s_iconst (v := nI 3) dM_works_4 (by decide) ?_
  refine s_iload_n dM_works_5 rfl rfl ?_
  first | refine s_imulN dM_works_6 ?_ | refine s_imul dM_works_6 ?_
  refine s_iconst (v := nI 1) dM_works_7 (by decide) ?_
  first | refine s_iaddN dM_works_8 ?_ | refine s_iadd dM_works_8 ?_
  refine s_mald dM_works_9 rfl rfl (show _ < 180 by omega) rfl ?_
  refine s_top e1 ?_
  refine s_istore dM_works_10 rfl ?_
  refine s_aload_n dM_works_12 rfl rfl ?_
  refine s_mga dM_works_13 gf_M_40 rfl ?_
  refine s_iconst (v := nI 3) dM_works_16 (by decide) ?_
  refine s_iload_n dM_works_17 rfl rfl ?_
  first | refine s_imulN dM_works_18 ?_ | refine s_imul dM_works_18 ?_
  refine s_iconst (v := nI 2) dM_works_19 (by decide) ?_
  first | refine s_iaddN dM_works_20 ?_ | refine s_iadd dM_works_20 ?_
  refine s_mald dM_works_21 rfl rfl (show _ < 180 by omega) rfl ?_
  refine s_top e2 ?_
  refine s_istore dM_works_22 rfl ?_
  refine s_aload_n dM_works_24 rfl rfl ?_
  refine s_mga dM_works_25 gf_M_40 rfl ?_
  refine s_iconst (v := nI 3) dM_works_28 (by decide) ?_
  refine s_iload_n dM_works_29 rfl rfl ?_
  first | refine s_imulN dM_works_30 ?_ | refine s_imul dM_works_30 ?_
  refine s_mald dM_works_31 rfl rfl (show _ < 180 by omega) rfl ?_
  refine s_top e0 ?_
  refine s_tabIn (off := 84) (tgt := 116) dM_works_32 (by decide +kernel) (by decide +kernel) (by decide +kernel) (by decide) ?_
  refine s_aload_n dM_works_116 rfl rfl ?_
  refine s_mga dM_works_117 gf_M_64 rfl ?_
  refine s_iconst (v := nI 4) dM_works_120 (by decide) ?_
  refine s_iload_n dM_works_121 rfl rfl ?_
  first | refine s_imulN dM_works_122 ?_ | refine s_imul dM_works_122 ?_
  refine s_iload dM_works_123 rfl ?_
  first | refine s_iaddN dM_works_125 ?_ | refine s_iadd dM_works_125 ?_
  refine s_mald dM_works_126 rfl rfl (show _ < 24 by omega) rfl ?_
  refine s_if_ne dM_works_127 (fun q => absurd hz q) (fun _ => ?_)
  refine s_aload_n dM_works_130 rfl rfl ?_
  refine s_iconst (v := 1) dM_works_131 (by decide) ?_
  refine s_iload_n dM_works_132 rfl rfl ?_
  refine s_v2 dM_works_133 cv_M_201 hM_o (c_M_fails) rfl rfl rfl rfl ?_
  refine s_iret dM_works_136 rfl (by first | exact Nat.le_refl _ | decide | omega) (by first | exact Nat.le_refl _ | decide | omega) ?_
  exact ⟨rfl, rfl⟩
theorem c_M_wk4b {σ : Sg} {h : Hp} {r s d : Nat} (hr : r < 60) (hs : s < 20) (hd : d < 6) {x y : Nat} (e0 : σ 14 (3 * r) = nI 4) (e1 : σ 14 (3 * r + 1) = nI x) (hx : x < 4) (e2 : σ 14 (3 * r + 2) = nI y) (hy : y < 4) (hz : ¬ σ 25 (4 * d + y) = 0) : ConF mM_works 5 [vR (100, 0, 0), vI (nI r), vI (nI s), vI (nI d)] (hM σ h) (some (vI 0)) (hM (us σ 4 (4 * s + x) (σ 4 (4 * s + x) / σ 25 (4 * d + y))) h) := by
  refine c_enter (by decide +kernel) rfl rfl ?_
  refine s_aload_n dM_works_0 rfl rfl ?_
  refine s_mga dM_works_1 gf_M_40 rfl ?_
  refine s_iconst (v := nI 3) dM_works_4 (by decide) ?_
  refine s_iload_n dM_works_5 rfl rfl ?_
  first | refine s_imulN dM_works_6 ?_ | refine s_imul dM_works_6 ?_
  refine s_iconst (v := nI 1) dM_works_7 (by decide) ?_
  first | refine s_iaddN dM_works_8 ?_ | refine s_iadd dM_works_8 ?_
  refine s_mald dM_works_9 rfl rfl (show _ < 180 by omega) rfl ?_
  refine s_top e1 ?_
  refine s_istore dM_works_10 rfl ?_
  refine s_aload_n dM_works_12 rfl rfl ?_
  refine s_mga dM_works_13 gf_M_40 rfl ?_
  refine s_iconst (v := nI 3) dM_works_16 (by decide) ?_
  refine s_iload_n dM_works_17 rfl rfl ?_
  first | refine s_imulN dM_works_18 ?_ | refine s_imul dM_works_18 ?_
  refine s_iconst (v := nI 2) dM_works_19 (by decide) ?_
  first | refine s_iaddN dM_works_20 ?_ | refine s_iadd dM_works_20 ?_
  refine s_mald dM_works_21 rfl rfl (show _ < 180 by omega) rfl ?_
  refine s_top e2 ?_
  refine s_istore dM_works_22 rfl ?_
  refine s_aload_n dM_works_24 rfl rfl ?_
  refine s_mga dM_works_25 gf_M_40 rfl ?_
  refine s_iconst (v := nI 3) dM_works_28 (by decide) ?_
  refine s_iload_n dM_works_29 rfl rfl ?_
  first | refine s_imulN dM_works_30 ?_ | refine s_imul dM_works_30 ?_
  refine s_mald dM_works_31 rfl rfl (show _ < 180 by omega) rfl ?_
  refine s_top e0 ?_
  refine s_tabIn (off := 84) (tgt := 116) dM_works_32 (by decide +kernel) (by decide +kernel) (by decide +kernel) (by decide) ?_
  refine s_aload_n dM_works_116 rfl rfl ?_
  refine s_mga dM_works_117 gf_M_64 rfl ?_
  refine s_iconst (v := nI 4) dM_works_120 (by decide) ?_
  refine s_iload_n dM_works_121 rfl rfl ?_
  first | refine s_imulN dM_works_122 ?_ | refine s_imul dM_works_122 ?_
  refine s_iload dM_works_123 rfl ?_
  first | refine s_iaddN dM_works_125 ?_ | refine s_iadd dM_works_125 ?_
  refine s_mald dM_works_126 rfl rfl (show _ < 24 by omega) rfl ?_
  refine s_if_ne dM_works_127 (fun _ => ?_) (fun q => absurd q hz)
  refine s_aload_n dM_works_137 rfl rfl ?_
  refine s_mga dM_works_138 gf_M_16 rfl ?_
  refine s_iconst (v := nI 4) dM_works_141 (by decide) ?_
  refine s_iload_n dM_works_142 rfl rfl ?_
  first | refine s_imulN dM_works_143 ?_ | refine s_imul dM_works_143 ?_
  refine s_iload dM_works_144 rfl ?_
  first | refine s_iaddN dM_works_146 ?_ | refine s_iadd dM_works_146 ?_
  refine s_dup2 dM_works_147 rfl rfl ?_
  refine s_mald dM_works_148 rfl rfl (show _ < 80 by omega) rfl ?_
  refine s_aload_n dM_works_149 rfl rfl ?_
  refine s_mga dM_works_150 gf_M_64 rfl ?_
  refine s_iconst (v := nI 4) dM_works_153 (by decide) ?_
  refine s_iload_n dM_works_154 rfl rfl ?_
  first | refine s_imulN dM_works_155 ?_ | refine s_imul dM_works_155 ?_
  refine s_iload dM_works_156 rfl ?_
  first | refine s_iaddN dM_works_158 ?_ | refine s_iadd dM_works_158 ?_
  refine s_mald dM_works_159 rfl rfl (show _ < 24 by omega) rfl ?_
  refine s_idiv dM_works_160 hz ?_
  refine s_mast dM_works_161 rfl rfl (show _ < 80 by omega) rfl ?_
  refine s_iconst (v := 0) dM_works_162 (by decide) ?_
  refine s_iret dM_works_163 rfl (by first | exact Nat.le_refl _ | decide | omega) (by first | exact Nat.le_refl _ | decide | omega) ?_
  exact ⟨rfl, rfl⟩
theorem c_M_wk5a {σ : Sg} {h : Hp} {r s d : Nat} (hr : r < 60) (hs : s < 20) (hd : d < 6) {c : Nat} (e0 : σ 14 (3 * r) = nI c) (hc : c = 5 ∨ c = 6) (e21 : σ 21 0 = nI 6) : ConF mM_works 5 [vR (100, 0, 0), vI (nI r), vI (nI s), vI (nI d)] (hM σ h) (some (vI 0)) (hM (us (us σ 30 0 (nI 2)) 31 0 (nI r)) h) := by
  rcases hc with rfl | rfl
  · refine c_enter (by decide +kernel) rfl rfl ?_
    refine s_aload_n dM_works_0 rfl rfl ?_
    refine s_mga dM_works_1 gf_M_40 rfl ?_
    refine s_iconst (v := nI 3) dM_works_4 (by decide) ?_
    refine s_iload_n dM_works_5 rfl rfl ?_
    first | refine s_imulN dM_works_6 ?_ | refine s_imul dM_works_6 ?_
    refine s_iconst (v := nI 1) dM_works_7 (by decide) ?_
    first | refine s_iaddN dM_works_8 ?_ | refine s_iadd dM_works_8 ?_
    refine s_mald dM_works_9 rfl rfl (show _ < 180 by omega) rfl ?_
    refine s_istore dM_works_10 rfl ?_
    refine s_aload_n dM_works_12 rfl rfl ?_
    refine s_mga dM_works_13 gf_M_40 rfl ?_
    refine s_iconst (v := nI 3) dM_works_16 (by decide) ?_
    refine s_iload_n dM_works_17 rfl rfl ?_
    first | refine s_imulN dM_works_18 ?_ | refine s_imul dM_works_18 ?_
    refine s_iconst (v := nI 2) dM_works_19 (by decide) ?_
    first | refine s_iaddN dM_works_20 ?_ | refine s_iadd dM_works_20 ?_
    refine s_mald dM_works_21 rfl rfl (show _ < 180 by omega) rfl ?_
    refine s_istore dM_works_22 rfl ?_
    refine s_aload_n dM_works_24 rfl rfl ?_
    refine s_mga dM_works_25 gf_M_40 rfl ?_
    refine s_iconst (v := nI 3) dM_works_28 (by decide) ?_
    refine s_iload_n dM_works_29 rfl rfl ?_
    first | refine s_imulN dM_works_30 ?_ | refine s_imul dM_works_30 ?_
    refine s_mald dM_works_31 rfl rfl (show _ < 180 by omega) rfl ?_
    refine s_top e0 ?_
    refine s_tabIn (off := 132) (tgt := 164) dM_works_32 (by decide +kernel) (by decide +kernel) (by decide +kernel) (by decide) ?_
    refine s_aload_n dM_works_164 rfl rfl ?_
    refine s_mgi dM_works_165 gf_M_184 rfl ?_
    refine s_bipush (v := nI 6) dM_works_168 (by decide) ?_
    refine s_icmp_ne dM_works_170 (fun q => absurd e21 q) (fun _ => ?_)
    refine s_aload_n dM_works_173 rfl rfl ?_
    refine s_iconst (v := nI 2) dM_works_174 (by decide) ?_
    refine s_iload_n dM_works_175 rfl rfl ?_
    refine s_v2 dM_works_176 cv_M_201 hM_o (c_M_fails) rfl rfl rfl rfl ?_
    refine s_iret dM_works_179 rfl (by first | exact Nat.le_refl _ | decide | omega) (by first | exact Nat.le_refl _ | decide | omega) ?_
    exact ⟨rfl, rfl⟩
  · refine c_enter (by decide +kernel) rfl rfl ?_
    refine s_aload_n dM_works_0 rfl rfl ?_
    refine s_mga dM_works_1 gf_M_40 rfl ?_
    refine s_iconst (v := nI 3) dM_works_4 (by decide) ?_
    refine s_iload_n dM_works_5 rfl rfl ?_
    first | refine s_imulN dM_works_6 ?_ | refine s_imul dM_works_6 ?_
    refine s_iconst (v := nI 1) dM_works_7 (by decide) ?_
    first | refine s_iaddN dM_works_8 ?_ | refine s_iadd dM_works_8 ?_
    refine s_mald dM_works_9 rfl rfl (show _ < 180 by omega) rfl ?_
    refine s_istore dM_works_10 rfl ?_
    refine s_aload_n dM_works_12 rfl rfl ?_
    refine s_mga dM_works_13 gf_M_40 rfl ?_
    refine s_iconst (v := nI 3) dM_works_16 (by decide) ?_
    refine s_iload_n dM_works_17 rfl rfl ?_
    first | refine s_imulN dM_works_18 ?_ | refine s_imul dM_works_18 ?_
    refine s_iconst (v := nI 2) dM_works_19 (by decide) ?_
    first | refine s_iaddN dM_works_20 ?_ | refine s_iadd dM_works_20 ?_
    refine s_mald dM_works_21 rfl rfl (show _ < 180 by omega) rfl ?_
    refine s_istore dM_works_22 rfl ?_
    refine s_aload_n dM_works_24 rfl rfl ?_
    refine s_mga dM_works_25 gf_M_40 rfl ?_
    refine s_iconst (v := nI 3) dM_works_28 (by decide) ?_
    refine s_iload_n dM_works_29 rfl rfl ?_
    first | refine s_imulN dM_works_30 ?_ | refine s_imul dM_works_30 ?_
    refine s_mald dM_works_31 rfl rfl (show _ < 180 by omega) rfl ?_
    refine s_top e0 ?_
    refine s_tabIn (off := 132) (tgt := 164) dM_works_32 (by decide +kernel) (by decide +kernel) (by decide +kernel) (by decide) ?_
    refine s_aload_n dM_works_164 rfl rfl ?_
    refine s_mgi dM_works_165 gf_M_184 rfl ?_
    refine s_bipush (v := nI 6) dM_works_168 (by decide) ?_
    refine s_icmp_ne dM_works_170 (fun q => absurd e21 q) (fun _ => ?_)
    refine s_aload_n dM_works_173 rfl rfl ?_
    refine s_iconst (v := nI 2) dM_works_174 (by decide) ?_
    refine s_iload_n dM_works_175 rfl rfl ?_
    refine s_v2 dM_works_176 cv_M_201 hM_o (c_M_fails) rfl rfl rfl rfl ?_
    refine s_iret dM_works_179 rfl (by first | exact Nat.le_refl _ | decide | omega) (by first | exact Nat.le_refl _ | decide | omega) ?_
    exact ⟨rfl, rfl⟩
theorem c_M_wk5b {σ : Sg} {h : Hp} {r s d : Nat} (hr : r < 60) (hs : s < 20) (hd : d < 6) {R K c x d' : Nat} {O : List Nat} (W0 : RW σ R K) (e0 : σ 14 (3 * r) = nI c) (hc : c = 5 ∨ c = 6) (e1 : σ 14 (3 * r + 1) = nI x) (hx : x < 12) (ho : ordL σ x R 0 O) (hd' : d' < 6) (e21 : σ 21 0 = nI d') : Con mM_works 5 0 0 [vR (100, 0, 0), vI (nI r), vI (nI s), vI (nI d)] (hM σ h) (fun v h' => v = some (vI 0) ∧ ∃ σ', h' = hM σ' h ∧ PU σ σ' d' x (zi (decide (c = 6))) (rowS σ x R O)) := by
  rcases hc with rfl | rfl
  · refine c_enter (by decide +kernel) rfl rfl ?_
    refine s_aload_n dM_works_0 rfl rfl ?_
    refine s_mga dM_works_1 gf_M_40 rfl ?_
    refine s_iconst (v := nI 3) dM_works_4 (by decide) ?_
    refine s_iload_n dM_works_5 rfl rfl ?_
    first | refine s_imulN dM_works_6 ?_ | refine s_imul dM_works_6 ?_
    refine s_iconst (v := nI 1) dM_works_7 (by decide) ?_
    first | refine s_iaddN dM_works_8 ?_ | refine s_iadd dM_works_8 ?_
    refine s_mald dM_works_9 rfl rfl (show _ < 180 by omega) rfl ?_
    refine s_top e1 ?_
    refine s_istore dM_works_10 rfl ?_
    refine s_aload_n dM_works_12 rfl rfl ?_
    refine s_mga dM_works_13 gf_M_40 rfl ?_
    refine s_iconst (v := nI 3) dM_works_16 (by decide) ?_
    refine s_iload_n dM_works_17 rfl rfl ?_
    first | refine s_imulN dM_works_18 ?_ | refine s_imul dM_works_18 ?_
    refine s_iconst (v := nI 2) dM_works_19 (by decide) ?_
    first | refine s_iaddN dM_works_20 ?_ | refine s_iadd dM_works_20 ?_
    refine s_mald dM_works_21 rfl rfl (show _ < 180 by omega) rfl ?_
    refine s_istore dM_works_22 rfl ?_
    refine s_aload_n dM_works_24 rfl rfl ?_
    refine s_mga dM_works_25 gf_M_40 rfl ?_
    refine s_iconst (v := nI 3) dM_works_28 (by decide) ?_
    refine s_iload_n dM_works_29 rfl rfl ?_
    first | refine s_imulN dM_works_30 ?_ | refine s_imul dM_works_30 ?_
    refine s_mald dM_works_31 rfl rfl (show _ < 180 by omega) rfl ?_
    refine s_top e0 ?_
    refine s_tabIn (off := 132) (tgt := 164) dM_works_32 (by decide +kernel) (by decide +kernel) (by decide +kernel) (by decide) ?_
    refine s_aload_n dM_works_164 rfl rfl ?_
    refine s_mgi dM_works_165 gf_M_184 rfl ?_
    refine s_bipush (v := nI 6) dM_works_168 (by decide) ?_
    refine s_icmp_ne dM_works_170 (fun _ => ?_) (fun q => absurd q (by rw [e21]; exact nI_ne (by omega) (by omega) (by omega)))
    refine s_aload_n dM_works_180 rfl rfl ?_
    refine s_iload dM_works_181 rfl ?_
    refine s_aload_n dM_works_183 rfl rfl ?_
    refine s_mga dM_works_184 gf_M_40 rfl ?_
    refine s_iconst (v := nI 3) dM_works_187 (by decide) ?_
    refine s_iload_n dM_works_188 rfl rfl ?_
    first | refine s_imulN dM_works_189 ?_ | refine s_imul dM_works_189 ?_
    refine s_mald dM_works_190 rfl rfl (show _ < 180 by omega) rfl ?_
    refine s_bipush (v := nI 6) dM_works_191 (by decide) ?_
    refine s_icmp_ne dM_works_193 (fun _ => ?_) (fun q => absurd q (by rw [e0]; decide))
    refine s_iconst (v := 0) dM_works_200 (by decide) ?_
    refine s_callV (As := [_, _]) dM_works_201 cv_M_197 hM_o (c_M_pushes (a := 0) W0 hx ho hd' e21 (Or.inl rfl)) rfl rfl rfl rfl (fun v h' q => ?_)
    obtain ⟨rfl, q⟩ := q
    refine s_iconst (v := 0) dM_works_204 (by decide) ?_
    refine s_iret dM_works_205 rfl (by first | exact Nat.le_refl _ | decide | omega) (by first | exact Nat.le_refl _ | decide | omega) ?_
    exact ⟨rfl, q⟩
  · refine c_enter (by decide +kernel) rfl rfl ?_
    refine s_aload_n dM_works_0 rfl rfl ?_
    refine s_mga dM_works_1 gf_M_40 rfl ?_
    refine s_iconst (v := nI 3) dM_works_4 (by decide) ?_
    refine s_iload_n dM_works_5 rfl rfl ?_
    first | refine s_imulN dM_works_6 ?_ | refine s_imul dM_works_6 ?_
    refine s_iconst (v := nI 1) dM_works_7 (by decide) ?_
    first | refine s_iaddN dM_works_8 ?_ | refine s_iadd dM_works_8 ?_
    refine s_mald dM_works_9 rfl rfl (show _ < 180 by omega) rfl ?_
    refine s_top e1 ?_
    refine s_istore dM_works_10 rfl ?_
    refine s_aload_n dM_works_12 rfl rfl ?_
    refine s_mga dM_works_13 gf_M_40 rfl ?_
    refine s_iconst (v := nI 3) dM_works_16 (by decide) ?_
    refine s_iload_n dM_works_17 rfl rfl ?_
    first | refine s_imulN dM_works_18 ?_ | refine s_imul dM_works_18 ?_
    refine s_iconst (v := nI 2) dM_works_19 (by decide) ?_
    first | refine s_iaddN dM_works_20 ?_ | refine s_iadd dM_works_20 ?_
    refine s_mald dM_works_21 rfl rfl (show _ < 180 by omega) rfl ?_
    refine s_istore dM_works_22 rfl ?_
    refine s_aload_n dM_works_24 rfl rfl ?_
    refine s_mga dM_works_25 gf_M_40 rfl ?_
    refine s_iconst (v := nI 3) dM_works_28 (by decide) ?_
    refine s_iload_n dM_works_29 rfl rfl ?_
    first | refine s_imulN dM_works_30 ?_ | refine s_imul dM_works_30 ?_
    refine s_mald dM_works_31 rfl rfl (show _ < 180 by omega) rfl ?_
    refine s_top e0 ?_
    refine s_tabIn (off := 132) (tgt := 164) dM_works_32 (by decide +kernel) (by decide +kernel) (by decide +kernel) (by decide) ?_
    refine s_aload_n dM_works_164 rfl rfl ?_
    refine s_mgi dM_works_165 gf_M_184 rfl ?_
    refine s_bipush (v := nI 6) dM_works_168 (by decide) ?_
    refine s_icmp_ne dM_works_170 (fun _ => ?_) (fun q => absurd q (by rw [e21]; exact nI_ne (by omega) (by omega) (by omega)))
    refine s_aload_n dM_works_180 rfl rfl ?_
    refine s_iload dM_works_181 rfl ?_
    refine s_aload_n dM_works_183 rfl rfl ?_
    refine s_mga dM_works_184 gf_M_40 rfl ?_
    refine s_iconst (v := nI 3) dM_works_187 (by decide) ?_
    refine s_iload_n dM_works_188 rfl rfl ?_
    first | refine s_imulN dM_works_189 ?_ | refine s_imul dM_works_189 ?_
    refine s_mald dM_works_190 rfl rfl (show _ < 180 by omega) rfl ?_
    refine s_bipush (v := nI 6) dM_works_191 (by decide) ?_
    refine s_icmp_ne dM_works_193 (fun q => absurd e0 q) (fun _ => ?_)
    refine s_iconst (v := 1) dM_works_196 (by decide) ?_
    refine s_goto dM_works_197 ?_
    refine s_callV (As := [_, _]) dM_works_201 cv_M_197 hM_o (c_M_pushes (a := 1) W0 hx ho hd' e21 (Or.inr rfl)) rfl rfl rfl rfl (fun v h' q => ?_)
    obtain ⟨rfl, q⟩ := q
    refine s_iconst (v := 0) dM_works_204 (by decide) ?_
    refine s_iret dM_works_205 rfl (by first | exact Nat.le_refl _ | decide | omega) (by first | exact Nat.le_refl _ | decide | omega) ?_
    exact ⟨rfl, q⟩
theorem c_M_wk7 {σ : Sg} {h : Hp} {r s d : Nat} (hr : r < 60) (hs : s < 20) (hd : d < 6) (e0 : σ 14 (3 * r) = nI 7) : ConF mM_works 5 [vR (100, 0, 0), vI (nI r), vI (nI s), vI (nI d)] (hM σ h) (some (vI 0)) (hM (us σ 24 d (σ 23 d)) h) := by
  refine c_enter (by decide +kernel) rfl rfl ?_
  refine s_aload_n dM_works_0 rfl rfl ?_
  refine s_mga dM_works_1 gf_M_40 rfl ?_
  refine s_iconst (v := nI 3) dM_works_4 (by decide) ?_
  refine s_iload_n dM_works_5 rfl rfl ?_
  first | refine s_imulN dM_works_6 ?_ | refine s_imul dM_works_6 ?_
  refine s_iconst (v := nI 1) dM_works_7 (by decide) ?_
  first | refine s_iaddN dM_works_8 ?_ | refine s_iadd dM_works_8 ?_
  refine s_mald dM_works_9 rfl rfl (show _ < 180 by omega) rfl ?_
  refine s_istore dM_works_10 rfl ?_
  refine s_aload_n dM_works_12 rfl rfl ?_
  refine s_mga dM_works_13 gf_M_40 rfl ?_
  refine s_iconst (v := nI 3) dM_works_16 (by decide) ?_
  refine s_iload_n dM_works_17 rfl rfl ?_
  first | refine s_imulN dM_works_18 ?_ | refine s_imul dM_works_18 ?_
  refine s_iconst (v := nI 2) dM_works_19 (by decide) ?_
  first | refine s_iaddN dM_works_20 ?_ | refine s_iadd dM_works_20 ?_
  refine s_mald dM_works_21 rfl rfl (show _ < 180 by omega) rfl ?_
  refine s_istore dM_works_22 rfl ?_
  refine s_aload_n dM_works_24 rfl rfl ?_
  refine s_mga dM_works_25 gf_M_40 rfl ?_
  refine s_iconst (v := nI 3) dM_works_28 (by decide) ?_
  refine s_iload_n dM_works_29 rfl rfl ?_
  first | refine s_imulN dM_works_30 ?_ | refine s_imul dM_works_30 ?_
  refine s_mald dM_works_31 rfl rfl (show _ < 180 by omega) rfl ?_
  refine s_top e0 ?_
  refine s_tabIn (off := 174) (tgt := 206) dM_works_32 (by decide +kernel) (by decide +kernel) (by decide +kernel) (by decide) ?_
  refine s_aload_n dM_works_206 rfl rfl ?_
  refine s_mga dM_works_207 gf_M_61 rfl ?_
  refine s_iload_n dM_works_210 rfl rfl ?_
  refine s_aload_n dM_works_211 rfl rfl ?_
  refine s_mga dM_works_212 gf_M_58 rfl ?_
  refine s_iload_n dM_works_215 rfl rfl ?_
  refine s_mald dM_works_216 rfl rfl (show _ < 6 by omega) rfl ?_
  refine s_mast dM_works_217 rfl rfl (show _ < 6 by omega) rfl ?_
  refine s_iconst (v := 0) dM_works_218 (by decide) ?_
  refine s_iret dM_works_219 rfl (by first | exact Nat.le_refl _ | decide | omega) (by first | exact Nat.le_refl _ | decide | omega) ?_
  exact ⟨rfl, rfl⟩
theorem c_M_wk8 {σ : Sg} {h : Hp} {r s d : Nat} (hr : r < 60) (hs : s < 20) (hd : d < 6) {x y : Nat} (e0 : σ 14 (3 * r) = nI 8) (e1 : σ 14 (3 * r + 1) = nI x) (hx : x < 4) (e2 : σ 14 (3 * r + 2) = nI y) (hy : y < 4) : ConF mM_works 5 [vR (100, 0, 0), vI (nI r), vI (nI s), vI (nI d)] (hM σ h) (some (vI 0)) (hM (us σ 25 (4 * d + x) (σ 4 (4 * s + y))) h) := by
  refine c_enter (by decide +kernel) rfl rfl ?_
  refine s_aload_n dM_works_0 rfl rfl ?_
  refine s_mga dM_works_1 gf_M_40 rfl ?_
  refine s_iconst (v := nI 3) dM_works_4 (by decide) ?_
  refine s_iload_n dM_works_5 rfl rfl ?_
  first | refine s_imulN dM_works_6 ?_ | refine s_imul dM_works_6 ?_
  refine s_iconst (v := nI 1) dM_works_7 (by decide) ?_
  first | refine s_iaddN dM_works_8 ?_ | refine s_iadd dM_works_8 ?_
  refine s_mald dM_works_9 rfl rfl (show _ < 180 by omega) rfl ?_
  refine s_top e1 ?_
  refine s_istore dM_works_10 rfl ?_
  refine s_aload_n dM_works_12 rfl rfl ?_
  refine s_mga dM_works_13 gf_M_40 rfl ?_
  refine s_iconst (v := nI 3) dM_works_16 (by decide) ?_
  refine s_iload_n dM_works_17 rfl rfl ?_
  first | refine s_imulN dM_works_18 ?_ | refine s_imul dM_works_18 ?_
  refine s_iconst (v := nI 2) dM_works_19 (by decide) ?_
  first | refine s_iaddN dM_works_20 ?_ | refine s_iadd dM_works_20 ?_
  refine s_mald dM_works_21 rfl rfl (show _ < 180 by omega) rfl ?_
  refine s_top e2 ?_
  refine s_istore dM_works_22 rfl ?_
  refine s_aload_n dM_works_24 rfl rfl ?_
  refine s_mga dM_works_25 gf_M_40 rfl ?_
  refine s_iconst (v := nI 3) dM_works_28 (by decide) ?_
  refine s_iload_n dM_works_29 rfl rfl ?_
  first | refine s_imulN dM_works_30 ?_ | refine s_imul dM_works_30 ?_
  refine s_mald dM_works_31 rfl rfl (show _ < 180 by omega) rfl ?_
  refine s_top e0 ?_
  refine s_tabIn (off := 188) (tgt := 220) dM_works_32 (by decide +kernel) (by decide +kernel) (by decide +kernel) (by decide) ?_
  refine s_aload_n dM_works_220 rfl rfl ?_
  refine s_mga dM_works_221 gf_M_64 rfl ?_
  refine s_iconst (v := nI 4) dM_works_224 (by decide) ?_
  refine s_iload_n dM_works_225 rfl rfl ?_
  first | refine s_imulN dM_works_226 ?_ | refine s_imul dM_works_226 ?_
  refine s_iload dM_works_227 rfl ?_
  first | refine s_iaddN dM_works_229 ?_ | refine s_iadd dM_works_229 ?_
  refine s_aload_n dM_works_230 rfl rfl ?_
  refine s_mga dM_works_231 gf_M_16 rfl ?_
  refine s_iconst (v := nI 4) dM_works_234 (by decide) ?_
  refine s_iload_n dM_works_235 rfl rfl ?_
  first | refine s_imulN dM_works_236 ?_ | refine s_imul dM_works_236 ?_
  refine s_iload dM_works_237 rfl ?_
  first | refine s_iaddN dM_works_239 ?_ | refine s_iadd dM_works_239 ?_
  refine s_mald dM_works_240 rfl rfl (show _ < 80 by omega) rfl ?_
  refine s_mast dM_works_241 rfl rfl (show _ < 24 by omega) rfl ?_
  refine s_iconst (v := 0) dM_works_242 (by decide) ?_
  refine s_iret dM_works_243 rfl (by first | exact Nat.le_refl _ | decide | omega) (by first | exact Nat.le_refl _ | decide | omega) ?_
  exact ⟨rfl, rfl⟩
/-! runs: what they come to -/
def ger (g : Gs) (e : Int32) (r : Nat) : Gs := (gv g, gt g, gn g, e, nI r)
def gtr (g : Gs) (r : Nat) (b : Bool) (d : Nat) : Gs := (gv g, uf (uf (uf (gt g) (3 * gn g) (nI r)) (3 * gn g + 1) (zi b)) (3 * gn g + 2) (nI d), gn g + 1, ge g, gs g)
def gsv (g : Gs) (i : Nat) (x : Int32) : Gs := (uf (gv g) i x, gt g, gn g, ge g, gs g)
abbrev dC (σ : Sg) (r : Nat) : Nat := nt (σ 14 (3 * r))
abbrev dX (σ : Sg) (r : Nat) : Nat := nt (σ 14 (3 * r + 1))
abbrev dY (σ : Sg) (r : Nat) : Int32 := σ 14 (3 * r + 2)
/-- the rest of a row at depth d; sub is a book within -/
def goL (sub : Nat → Nat → Gs → Gs × Int32) (σ : Sg) (s d : Nat) : List Nat → Gs → (Nat → Int32) → (Nat → Bool) → Gs × Int32
  | [], g, _, _ => (g, 0)
  | r :: l, g, vr, ap =>
    if gn g = 300 then (ger g (nI 3) r, 0)
    else if apP σ r s (gv g) vr ap (nt (σ 13 r)) = false then goL sub σ s d l (gtr g r false d) vr ap
    else match dC σ r with
      | 1 => (gtr g r true d, nI (dX σ r))
      | 2 => goL sub σ s d l (gtr g r true d) (uf vr (dX σ r) (vr (dX σ r) + dY σ r)) (ub ap r)
      | 3 => goL sub σ s d l (gsv (gtr g r true d) (4 * s + dX σ r) (dY σ r)) vr (ub ap r)
      | 4 => if vr (nt (dY σ r)) = 0 then (ger (gtr g r true d) 1 r, 0) else goL sub σ s d l (gsv (gtr g r true d) (4 * s + dX σ r) (gv g (4 * s + dX σ r) / vr (nt (dY σ r)))) vr (ub ap r)
      | 5 => if ge (sub r (dX σ r) (gtr g r true d)).1 ≠ 0 then ((sub r (dX σ r) (gtr g r true d)).1, 0) else goL sub σ s d l (sub r (dX σ r) (gtr g r true d)).1 vr (ub ap r)
      | 6 => if ge (sub r (dX σ r) (gtr g r true d)).1 ≠ 0 then ((sub r (dX σ r) (gtr g r true d)).1, 0) else if (sub r (dX σ r) (gtr g r true d)).2 ≠ 0 then sub r (dX σ r) (gtr g r true d) else goL sub σ s d l (sub r (dX σ r) (gtr g r true d)).1 vr (ub ap r)
      | 7 => (gtr g r true d, 0)
      | 8 => goL sub σ s d l (gtr g r true d) (uf vr (dX σ r) (gv g (4 * s + nt (dY σ r)))) (ub ap r)
      | _ => goL sub σ s d l (gtr g r true d) vr (ub ap r)
def runS (σ : Sg) (rw0 : Nat → List Nat) (s : Nat) : Nat → Nat → Nat → Gs → Gs × Int32
  | 0, r, _, g => (ger g (nI 2) r, 0)
  | n + 1, _, b, g => goL (runS σ rw0 s n) σ s (6 - n) (rw0 b) g (fun x => σ 7 (4 * b + x)) (fun _ => false)
