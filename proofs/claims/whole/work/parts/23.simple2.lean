def fTrace (σ : Sg) (i w : Int32) (N : Nat) : Int32 := match ix i N, ix w 3 with
  | some j, some k => σ 28 (3 * j + k)
  | _, _ => -4
theorem c_M_trace {σ : Sg} {h : Hp} {N : Nat} (i w : Int32) (hN : σ 29 0 = nI N) (h3 : N ≤ 300) : ConF mM_trace 1 [vR (100, 0, 0), vI i, vI w] (hM σ h) (some (vI (fTrace σ i w N))) (hM σ h) := by
  unfold fTrace
  refine c_enter (by decide +kernel) rfl rfl ?_
  rcases iz_cases i (K := N) (by omega) with ⟨e, hz⟩ | ⟨j, hj, rfl, e⟩
  · rw [e]
    refine s_iload_n dM_trace_0 rfl rfl ?_
    refine s_iconst (v := 0) dM_trace_1 (by decide) ?_
    refine s_aload_n dM_trace_2 rfl rfl ?_
    refine s_mgi dM_trace_3 gf_M_191 rfl ?_
    refine s_top hN ?_
    refine s_iconst (v := nI 1) dM_trace_6 (by decide) ?_
    first | refine s_isubN dM_trace_7 (by omega) ?_ | refine s_isub dM_trace_7 ?_
    refine s_t3 dM_trace_8 cs_M_117 (c_inZ (by omega) hz) rfl rfl rfl rfl ?_
    refine s_if_eq dM_trace_11 (fun _ => ?_) (fun q => absurd rfl q)
    refine s_bipush (v := (-4)) dM_trace_36 (by decide) ?_
    refine s_iret dM_trace_38 rfl (by first | exact Nat.le_refl _ | decide | omega) (by first | exact Nat.le_refl _ | decide | omega) ?_
    exact ⟨rfl, rfl⟩
  · rcases iz_cases w (K := 3) (by omega) with ⟨e1, hz⟩ | ⟨k, hk, rfl, e1⟩
    · rw [e, e1]
      refine s_iload_n dM_trace_0 rfl rfl ?_
      refine s_iconst (v := 0) dM_trace_1 (by decide) ?_
      refine s_aload_n dM_trace_2 rfl rfl ?_
      refine s_mgi dM_trace_3 gf_M_191 rfl ?_
      refine s_top hN ?_
      refine s_iconst (v := nI 1) dM_trace_6 (by decide) ?_
      first | refine s_isubN dM_trace_7 (by omega) ?_ | refine s_isub dM_trace_7 ?_
      refine s_t3 dM_trace_8 cs_M_117 (c_inZ (by omega) (Iz1 hj)) rfl rfl rfl rfl ?_
      refine s_if_eq dM_trace_11 (fun q => absurd q (by decide)) (fun _ => ?_)
      refine s_iload_n dM_trace_14 rfl rfl ?_
      refine s_iconst (v := 0) dM_trace_15 (by decide) ?_
      refine s_iconst (v := nI 2) dM_trace_16 (by decide) ?_
      refine s_t3 dM_trace_17 cs_M_117 (c_inZ (K := 3) (by omega) hz) rfl rfl rfl rfl ?_
      refine s_if_eq dM_trace_20 (fun _ => ?_) (fun q => absurd rfl q)
      refine s_bipush (v := (-4)) dM_trace_36 (by decide) ?_
      refine s_iret dM_trace_38 rfl (by first | exact Nat.le_refl _ | decide | omega) (by first | exact Nat.le_refl _ | decide | omega) ?_
      exact ⟨rfl, rfl⟩
    · rw [e, e1]
      refine s_iload_n dM_trace_0 rfl rfl ?_
      refine s_iconst (v := 0) dM_trace_1 (by decide) ?_
      refine s_aload_n dM_trace_2 rfl rfl ?_
      refine s_mgi dM_trace_3 gf_M_191 rfl ?_
      refine s_top hN ?_
      refine s_iconst (v := nI 1) dM_trace_6 (by decide) ?_
      first | refine s_isubN dM_trace_7 (by omega) ?_ | refine s_isub dM_trace_7 ?_
      refine s_t3 dM_trace_8 cs_M_117 (c_inZ (by omega) (Iz1 hj)) rfl rfl rfl rfl ?_
      refine s_if_eq dM_trace_11 (fun q => absurd q (by decide)) (fun _ => ?_)
      refine s_iload_n dM_trace_14 rfl rfl ?_
      refine s_iconst (v := 0) dM_trace_15 (by decide) ?_
      refine s_iconst (v := nI 2) dM_trace_16 (by decide) ?_
      refine s_t3 dM_trace_17 cs_M_117 (c_inZ (K := 3) (by omega) (Iz1 hk)) rfl rfl rfl rfl ?_
      refine s_if_eq dM_trace_20 (fun q => absurd q (by decide)) (fun _ => ?_)
      refine s_aload_n dM_trace_23 rfl rfl ?_
      refine s_mga dM_trace_24 gf_M_74 rfl ?_
      refine s_iconst (v := nI 3) dM_trace_27 (by decide) ?_
      refine s_iload_n dM_trace_28 rfl rfl ?_
      first | refine s_imulN dM_trace_29 ?_ | refine s_imul dM_trace_29 ?_
      refine s_iload_n dM_trace_30 rfl rfl ?_
      first | refine s_iaddN dM_trace_31 ?_ | refine s_iadd dM_trace_31 ?_
      refine s_mald dM_trace_32 rfl rfl (show _ < 900 by omega) rfl ?_
      refine s_goto dM_trace_33 ?_
      refine s_iret dM_trace_38 rfl (by first | exact Nat.le_refl _ | decide | omega) (by first | exact Nat.le_refl _ | decide | omega) ?_
      exact ⟨rfl, rfl⟩
theorem c_M_erred {σ : Sg} {h : Hp} : ConF mM_erred 1 [vR (100, 0, 0)] (hM σ h) (some (vI (σ 30 0))) (hM σ h) := by
  refine c_enter (by decide +kernel) rfl rfl ?_
  refine s_aload_n dM_erred_0 rfl rfl ?_
  refine s_mgi dM_erred_1 gf_M_194 rfl ?_
  refine s_iret dM_erred_4 rfl (by first | exact Nat.le_refl _ | decide | omega) (by first | exact Nat.le_refl _ | decide | omega) ?_
  exact ⟨rfl, rfl⟩
def fEvent (σ : Sg) (i : Int32) (N : Nat) : Int32 := match ix i N with
  | some j => σ 48 j
  | none => -4
theorem c_M_event {σ : Sg} {h : Hp} {N : Nat} (i : Int32) (hN : σ 49 0 = nI N) (h3 : N ≤ 16) : ConF mM_event 1 [vR (100, 0, 0), vI i] (hM σ h) (some (vI (fEvent σ i N))) (hM σ h) := by
  unfold fEvent
  refine c_enter (by decide +kernel) rfl rfl ?_
  rcases iz_cases i (K := N) (by omega) with ⟨e, hz⟩ | ⟨j, hj, rfl, e⟩
  · rw [e]
    refine s_iload_n dM_event_0 rfl rfl ?_
    refine s_iconst (v := 0) dM_event_1 (by decide) ?_
    refine s_aload_n dM_event_2 rfl rfl ?_
    refine s_mgi dM_event_3 gf_M_239 rfl ?_
    refine s_top hN ?_
    refine s_iconst (v := nI 1) dM_event_6 (by decide) ?_
    first | refine s_isubN dM_event_7 (by omega) ?_ | refine s_isub dM_event_7 ?_
    refine s_t3 dM_event_8 cs_M_117 (c_inZ (by omega) hz) rfl rfl rfl rfl ?_
    refine s_if_eq dM_event_11 (fun _ => ?_) (fun q => absurd rfl q)
    refine s_bipush (v := (-4)) dM_event_23 (by decide) ?_
    refine s_iret dM_event_25 rfl (by first | exact Nat.le_refl _ | decide | omega) (by first | exact Nat.le_refl _ | decide | omega) ?_
    exact ⟨rfl, rfl⟩
  · rw [e]
    refine s_iload_n dM_event_0 rfl rfl ?_
    refine s_iconst (v := 0) dM_event_1 (by decide) ?_
    refine s_aload_n dM_event_2 rfl rfl ?_
    refine s_mgi dM_event_3 gf_M_239 rfl ?_
    refine s_top hN ?_
    refine s_iconst (v := nI 1) dM_event_6 (by decide) ?_
    first | refine s_isubN dM_event_7 (by omega) ?_ | refine s_isub dM_event_7 ?_
    refine s_t3 dM_event_8 cs_M_117 (c_inZ (by omega) (Iz1 hj)) rfl rfl rfl rfl ?_
    refine s_if_eq dM_event_11 (fun q => absurd q (by decide)) (fun _ => ?_)
    refine s_aload_n dM_event_14 rfl rfl ?_
    refine s_mga dM_event_15 gf_M_104 rfl ?_
    refine s_iload_n dM_event_18 rfl rfl ?_
    refine s_mald dM_event_19 rfl rfl (show _ < 16 by omega) rfl ?_
    refine s_goto dM_event_20 ?_
    refine s_iret dM_event_25 rfl (by first | exact Nat.le_refl _ | decide | omega) (by first | exact Nat.le_refl _ | decide | omega) ?_
    exact ⟨rfl, rfl⟩
def fHappens (σ : Sg) (s w : Int32) (N : Nat) : Int32 := match ix s N, ix w 2 with
  | some j, some k => if k = 1 then σ 43 j else if σ 42 j = 0 then 0 else 1
  | _, _ => -1
theorem c_M_happens {σ : Sg} {h : Hp} {N : Nat} (s w : Int32) (hN : σ 40 0 = nI N) (h3 : N ≤ 8) : ConF mM_happens 1 [vR (100, 0, 0), vI s, vI w] (hM σ h) (some (vI (fHappens σ s w N))) (hM σ h) := by
  unfold fHappens
  refine c_enter (by decide +kernel) rfl rfl ?_
  rcases iz_cases s (K := N) (by omega) with ⟨e, hz⟩ | ⟨j, hj, rfl, e⟩
  · rw [e]
    refine s_iload_n dM_happens_0 rfl rfl ?_
    refine s_iconst (v := 0) dM_happens_1 (by decide) ?_
    refine s_aload_n dM_happens_2 rfl rfl ?_
    refine s_mgi dM_happens_3 gf_M_144 rfl ?_
    refine s_top hN ?_
    refine s_iconst (v := nI 1) dM_happens_6 (by decide) ?_
    first | refine s_isubN dM_happens_7 (by omega) ?_ | refine s_isub dM_happens_7 ?_
    refine s_t3 dM_happens_8 cs_M_117 (c_inZ (by omega) hz) rfl rfl rfl rfl ?_
    refine s_if_eq dM_happens_11 (fun _ => ?_) (fun q => absurd rfl q)
    refine s_iconst (v := (-1)) dM_happens_23 (by decide) ?_
    refine s_iret dM_happens_24 rfl (by first | exact Nat.le_refl _ | decide | omega) (by first | exact Nat.le_refl _ | decide | omega) ?_
    exact ⟨rfl, rfl⟩
  · rcases iz_cases w (K := 2) (by omega) with ⟨e1, hz⟩ | ⟨k, hk, rfl, e1⟩
    · rw [e, e1]
      refine s_iload_n dM_happens_0 rfl rfl ?_
      refine s_iconst (v := 0) dM_happens_1 (by decide) ?_
      refine s_aload_n dM_happens_2 rfl rfl ?_
      refine s_mgi dM_happens_3 gf_M_144 rfl ?_
      refine s_top hN ?_
      refine s_iconst (v := nI 1) dM_happens_6 (by decide) ?_
      first | refine s_isubN dM_happens_7 (by omega) ?_ | refine s_isub dM_happens_7 ?_
      refine s_t3 dM_happens_8 cs_M_117 (c_inZ (by omega) (Iz1 hj)) rfl rfl rfl rfl ?_
      refine s_if_eq dM_happens_11 (fun q => absurd q (by decide)) (fun _ => ?_)
      refine s_iload_n dM_happens_14 rfl rfl ?_
      refine s_iconst (v := 0) dM_happens_15 (by decide) ?_
      refine s_iconst (v := 1) dM_happens_16 (by decide) ?_
      refine s_t3 dM_happens_17 cs_M_117 (c_inZ (K := 2) (by omega) hz) rfl rfl rfl rfl ?_
      refine s_if_ne dM_happens_20 (fun q => absurd (by decide) q) (fun _ => ?_)
      refine s_iconst (v := (-1)) dM_happens_23 (by decide) ?_
      refine s_iret dM_happens_24 rfl (by first | exact Nat.le_refl _ | decide | omega) (by first | exact Nat.le_refl _ | decide | omega) ?_
      exact ⟨rfl, rfl⟩
    · rw [e, e1]
      by_cases h1 : k = 1
      · subst h1
        refine s_iload_n dM_happens_0 rfl rfl ?_
        refine s_iconst (v := 0) dM_happens_1 (by decide) ?_
        refine s_aload_n dM_happens_2 rfl rfl ?_
        refine s_mgi dM_happens_3 gf_M_144 rfl ?_
        refine s_top hN ?_
        refine s_iconst (v := nI 1) dM_happens_6 (by decide) ?_
        first | refine s_isubN dM_happens_7 (by omega) ?_ | refine s_isub dM_happens_7 ?_
        refine s_t3 dM_happens_8 cs_M_117 (c_inZ (by omega) (Iz1 hj)) rfl rfl rfl rfl ?_
        refine s_if_eq dM_happens_11 (fun q => absurd q (by decide)) (fun _ => ?_)
        refine s_iload_n dM_happens_14 rfl rfl ?_
        refine s_iconst (v := 0) dM_happens_15 (by decide) ?_
        refine s_iconst (v := 1) dM_happens_16 (by decide) ?_
        refine s_t3 dM_happens_17 cs_M_117 (c_inZ (K := 2) (by omega) (Iz1 hk)) rfl rfl rfl rfl ?_
        refine s_if_ne dM_happens_20 (fun _ => ?_) (fun q => absurd q (by decide))
        refine s_iload_n dM_happens_25 rfl rfl ?_
        refine s_iconst (v := 1) dM_happens_26 (by decide) ?_
        refine s_icmp_ne dM_happens_27 (fun q => absurd rfl q) (fun _ => ?_)
        refine s_aload_n dM_happens_30 rfl rfl ?_
        refine s_mga dM_happens_31 gf_M_95 rfl ?_
        refine s_iload_n dM_happens_34 rfl rfl ?_
        refine s_mald dM_happens_35 rfl rfl (show _ < 8 by omega) rfl ?_
        refine s_goto dM_happens_36 ?_
        refine s_iret dM_happens_53 rfl (by first | exact Nat.le_refl _ | decide | omega) (by first | exact Nat.le_refl _ | decide | omega) ?_
        exact ⟨rfl, rfl⟩
      · have h0 : k = 0 := by omega
        subst h0
        by_cases hz : σ 42 j = 0
        · refine s_iload_n dM_happens_0 rfl rfl ?_
          refine s_iconst (v := 0) dM_happens_1 (by decide) ?_
          refine s_aload_n dM_happens_2 rfl rfl ?_
          refine s_mgi dM_happens_3 gf_M_144 rfl ?_
          refine s_top hN ?_
          refine s_iconst (v := nI 1) dM_happens_6 (by decide) ?_
          first | refine s_isubN dM_happens_7 (by omega) ?_ | refine s_isub dM_happens_7 ?_
          refine s_t3 dM_happens_8 cs_M_117 (c_inZ (by omega) (Iz1 hj)) rfl rfl rfl rfl ?_
          refine s_if_eq dM_happens_11 (fun q => absurd q (by decide)) (fun _ => ?_)
          refine s_iload_n dM_happens_14 rfl rfl ?_
          refine s_iconst (v := 0) dM_happens_15 (by decide) ?_
          refine s_iconst (v := 1) dM_happens_16 (by decide) ?_
          refine s_t3 dM_happens_17 cs_M_117 (c_inZ (K := 2) (by omega) (Iz1 hk)) rfl rfl rfl rfl ?_
          refine s_if_ne dM_happens_20 (fun _ => ?_) (fun q => absurd q (by decide))
          refine s_iload_n dM_happens_25 rfl rfl ?_
          refine s_iconst (v := 1) dM_happens_26 (by decide) ?_
          refine s_icmp_ne dM_happens_27 (fun _ => ?_) (fun q => absurd q (by decide))
          refine s_aload_n dM_happens_39 rfl rfl ?_
          refine s_mga dM_happens_40 gf_M_92 rfl ?_
          refine s_iload_n dM_happens_43 rfl rfl ?_
          refine s_mzld dM_happens_44 rfl rfl (show _ < 8 by omega) rfl ?_
          refine s_if_eq dM_happens_45 (fun _ => ?_) (fun q => absurd hz q)
          refine s_iconst (v := 0) dM_happens_52 (by decide) ?_
          refine s_iret dM_happens_53 rfl (by first | exact Nat.le_refl _ | decide | omega) (by first | exact Nat.le_refl _ | decide | omega) ?_
          exact ⟨by simp [hz], rfl⟩
        · refine s_iload_n dM_happens_0 rfl rfl ?_
          refine s_iconst (v := 0) dM_happens_1 (by decide) ?_
          refine s_aload_n dM_happens_2 rfl rfl ?_
          refine s_mgi dM_happens_3 gf_M_144 rfl ?_
          refine s_top hN ?_
          refine s_iconst (v := nI 1) dM_happens_6 (by decide) ?_
          first | refine s_isubN dM_happens_7 (by omega) ?_ | refine s_isub dM_happens_7 ?_
          refine s_t3 dM_happens_8 cs_M_117 (c_inZ (by omega) (Iz1 hj)) rfl rfl rfl rfl ?_
          refine s_if_eq dM_happens_11 (fun q => absurd q (by decide)) (fun _ => ?_)
          refine s_iload_n dM_happens_14 rfl rfl ?_
          refine s_iconst (v := 0) dM_happens_15 (by decide) ?_
          refine s_iconst (v := 1) dM_happens_16 (by decide) ?_
          refine s_t3 dM_happens_17 cs_M_117 (c_inZ (K := 2) (by omega) (Iz1 hk)) rfl rfl rfl rfl ?_
          refine s_if_ne dM_happens_20 (fun _ => ?_) (fun q => absurd q (by decide))
          refine s_iload_n dM_happens_25 rfl rfl ?_
          refine s_iconst (v := 1) dM_happens_26 (by decide) ?_
          refine s_icmp_ne dM_happens_27 (fun _ => ?_) (fun q => absurd q (by decide))
          refine s_aload_n dM_happens_39 rfl rfl ?_
          refine s_mga dM_happens_40 gf_M_92 rfl ?_
          refine s_iload_n dM_happens_43 rfl rfl ?_
          refine s_mzld dM_happens_44 rfl rfl (show _ < 8 by omega) rfl ?_
          refine s_if_eq dM_happens_45 (fun q => absurd q hz) (fun _ => ?_)
          refine s_iconst (v := 1) dM_happens_48 (by decide) ?_
          refine s_goto dM_happens_49 ?_
          refine s_iret dM_happens_53 rfl (by first | exact Nat.le_refl _ | decide | omega) (by first | exact Nat.le_refl _ | decide | omega) ?_
          exact ⟨by simp [hz], rfl⟩
def fScene (σ : Sg) (a : Int32) (N : Nat) : Int32 × Sg := match ix a 2 with
  | none => (-1, σ)
  | some _ => if N = 8 then (-3, σ) else (nI N, us (us σ 41 N a) 40 0 (nI (N + 1)))
theorem c_M_scene {σ : Sg} {h : Hp} {N : Nat} (p : Int32) (hN : σ 40 0 = nI N) (h3 : N ≤ 8) : ConF mM_scene 1 [vR (100, 0, 0), vI p] (hM σ h) (some (vI (fScene σ p N).1)) (hM (fScene σ p N).2 h) := by
  unfold fScene
  refine c_enter (by decide +kernel) rfl rfl ?_
  rcases iz_cases p (K := 2) (by omega) with ⟨e, hz⟩ | ⟨j, hj, rfl, e⟩
  · rw [e]
    refine s_iload_n dM_scene_0 rfl rfl ?_
    refine s_iconst (v := 0) dM_scene_1 (by decide) ?_
    refine s_iconst (v := 1) dM_scene_2 (by decide) ?_
    refine s_t3 dM_scene_3 cs_M_117 (c_inZ (K := 2) (by omega) hz) rfl rfl rfl rfl ?_
    refine s_if_ne dM_scene_6 (fun q => absurd (by decide) q) (fun _ => ?_)
    refine s_iconst (v := (-1)) dM_scene_9 (by decide) ?_
    refine s_iret dM_scene_10 rfl (by first | exact Nat.le_refl _ | decide | omega) (by first | exact Nat.le_refl _ | decide | omega) ?_
    exact ⟨rfl, rfl⟩
  · rw [e]
    by_cases h20 : N = 8
    · subst h20
      refine s_iload_n dM_scene_0 rfl rfl ?_
      refine s_iconst (v := 0) dM_scene_1 (by decide) ?_
      refine s_iconst (v := 1) dM_scene_2 (by decide) ?_
      refine s_t3 dM_scene_3 cs_M_117 (c_inZ (K := 2) (by omega) (Iz1 hj)) rfl rfl rfl rfl ?_
      refine s_if_ne dM_scene_6 (fun _ => ?_) (fun q => absurd q (by decide))
      refine s_aload_n dM_scene_11 rfl rfl ?_
      refine s_mgi dM_scene_12 gf_M_144 rfl ?_
      refine s_top hN ?_
      refine s_bipush (v := nI 8) dM_scene_15 (by decide) ?_
      refine s_icmp_ne dM_scene_17 (fun q => absurd rfl q) (fun _ => ?_)
      refine s_bipush (v := (-3)) dM_scene_20 (by decide) ?_
      refine s_iret dM_scene_22 rfl (by first | exact Nat.le_refl _ | decide | omega) (by first | exact Nat.le_refl _ | decide | omega) ?_
      exact ⟨rfl, rfl⟩
    · refine s_iload_n dM_scene_0 rfl rfl ?_
      refine s_iconst (v := 0) dM_scene_1 (by decide) ?_
      refine s_iconst (v := 1) dM_scene_2 (by decide) ?_
      refine s_t3 dM_scene_3 cs_M_117 (c_inZ (K := 2) (by omega) (Iz1 hj)) rfl rfl rfl rfl ?_
      refine s_if_ne dM_scene_6 (fun _ => ?_) (fun q => absurd q (by decide))
      refine s_aload_n dM_scene_11 rfl rfl ?_
      refine s_mgi dM_scene_12 gf_M_144 rfl ?_
      refine s_top hN ?_
      refine s_bipush (v := nI 8) dM_scene_15 (by decide) ?_
      refine s_icmp_ne dM_scene_17 (fun _ => ?_) (fun q => absurd q (nI_ne h20 (by omega) (by omega)))
      refine s_aload_n dM_scene_23 rfl rfl ?_
      refine s_mga dM_scene_24 gf_M_89 rfl ?_
      refine s_aload_n dM_scene_27 rfl rfl ?_
      refine s_mgi dM_scene_28 gf_M_144 rfl ?_
      refine s_top hN ?_
      refine s_iload_n dM_scene_31 rfl rfl ?_
      refine s_mast dM_scene_32 rfl rfl (show _ < 8 by omega) rfl ?_
      refine s_aload_n dM_scene_33 rfl rfl ?_
      refine s_dup dM_scene_34 rfl ?_
      refine s_mgi dM_scene_35 gf_M_144 rfl ?_
      refine s_top hN ?_
      refine s_iconst (v := nI 1) dM_scene_38 (by decide) ?_
      first | refine s_iaddN dM_scene_39 ?_ | refine s_iadd dM_scene_39 ?_
      refine s_mpi dM_scene_40 gf_M_144 rfl rfl (by first | exact ⟨_, rfl⟩ | exact Or.inl rfl | exact Or.inr rfl) ?_
      refine s_aload_n dM_scene_43 rfl rfl ?_
      refine s_mgi dM_scene_44 gf_M_144 rfl ?_
      refine s_top (show _ = nI (N + 1) from rfl) ?_
      refine s_iconst (v := nI 1) dM_scene_47 (by decide) ?_
      first | refine s_isubN dM_scene_48 (by omega) ?_ | refine s_isub dM_scene_48 ?_
      refine s_iret dM_scene_49 rfl (by first | exact Nat.le_refl _ | decide | omega) (by first | exact Nat.le_refl _ | decide | omega) ?_
      rw [if_neg h20]
      exact ⟨by first | rfl | rw [nI_pred], rfl⟩
/-- a book's number, or NONE -/
def bN (b : Int32) (B : Nat) : Bool := decide (b = -4) || (ix b B).isSome
def Bz (r b : Int32) (B : Nat) : Prop := (r = 1 ∧ (b = -4 ∨ ∃ j, j < B ∧ b = nI j)) ∨ (r = 0 ∧ ¬ b = -4 ∧ Iz 0 b B)
theorem bz_cases (b : Int32) {B : Nat} (hB : B < 2 ^ 30) : (bN b B = true ∧ Bz 1 b B) ∨ (bN b B = false ∧ Bz 0 b B) := by
  unfold bN
  by_cases h : b = -4
  · exact Or.inl ⟨by simp [h], Or.inl ⟨rfl, Or.inl h⟩⟩
  · rcases iz_cases b hB with ⟨e, hz⟩ | ⟨j, hj, rfl, e⟩
    · exact Or.inr ⟨by simp [h, e], Or.inr ⟨rfl, h, hz⟩⟩
    · exact Or.inl ⟨by simp [e], Or.inl ⟨rfl, Or.inr ⟨j, hj, rfl⟩⟩⟩
theorem c_M_isBookOrNone {σ : Sg} {h : Hp} {B : Nat} {r b : Int32} (hB : σ 5 0 = nI B) (h1 : B < 2 ^ 30) (hz : Bz r b B) : ConF mM_isBookOrNone 2 [vR (100, 0, 0), vI b] (hM σ h) (some (vI r)) (hM σ h) := by
  refine c_enter (by decide +kernel) rfl rfl ?_
  rcases hz with ⟨rfl, rfl | ⟨j, hj, rfl⟩⟩ | ⟨rfl, hn, hz⟩
  · refine s_iload_n dM_isBookOrNone_0 rfl rfl ?_
    refine s_bipush (v := (-4)) dM_isBookOrNone_1 (by decide) ?_
    refine s_icmp_eq dM_isBookOrNone_3 (fun _ => ?_) (fun q => absurd rfl q)
    refine s_iconst (v := 1) dM_isBookOrNone_14 (by decide) ?_
    refine s_goto dM_isBookOrNone_15 ?_
    refine s_zret dM_isBookOrNone_19 rfl (by first | exact Or.inl rfl | exact Or.inr rfl | assumption) (by first | exact Nat.le_refl _ | decide | omega) (by first | exact Nat.le_refl _ | decide | omega) ?_
    exact ⟨rfl, rfl⟩
  · by_cases h4 : nI j = -4
    · refine s_iload_n dM_isBookOrNone_0 rfl rfl ?_
      refine s_bipush (v := (-4)) dM_isBookOrNone_1 (by decide) ?_
      refine s_icmp_eq dM_isBookOrNone_3 (fun _ => ?_) (fun q => absurd h4 q)
      refine s_iconst (v := 1) dM_isBookOrNone_14 (by decide) ?_
      refine s_goto dM_isBookOrNone_15 ?_
      refine s_zret dM_isBookOrNone_19 rfl (by first | exact Or.inl rfl | exact Or.inr rfl | assumption) (by first | exact Nat.le_refl _ | decide | omega) (by first | exact Nat.le_refl _ | decide | omega) ?_
      exact ⟨rfl, rfl⟩
    · refine s_iload_n dM_isBookOrNone_0 rfl rfl ?_
      refine s_bipush (v := (-4)) dM_isBookOrNone_1 (by decide) ?_
      refine s_icmp_eq dM_isBookOrNone_3 (fun q => absurd q h4) (fun _ => ?_)
      refine s_aload_n dM_isBookOrNone_6 rfl rfl ?_
      refine s_iload_n dM_isBookOrNone_7 rfl rfl ?_
      refine s_v1 dM_isBookOrNone_8 cv_M_135 hM_o (c_M_isBook hB h1 (Iz1 hj)) rfl rfl rfl rfl ?_
      refine s_if_eq dM_isBookOrNone_11 (fun q => absurd q (by decide)) (fun _ => ?_)
      refine s_iconst (v := 1) dM_isBookOrNone_14 (by decide) ?_
      refine s_goto dM_isBookOrNone_15 ?_
      refine s_zret dM_isBookOrNone_19 rfl (by first | exact Or.inl rfl | exact Or.inr rfl | assumption) (by first | exact Nat.le_refl _ | decide | omega) (by first | exact Nat.le_refl _ | decide | omega) ?_
      exact ⟨rfl, rfl⟩
  · refine s_iload_n dM_isBookOrNone_0 rfl rfl ?_
    refine s_bipush (v := (-4)) dM_isBookOrNone_1 (by decide) ?_
    refine s_icmp_eq dM_isBookOrNone_3 (fun q => absurd q hn) (fun _ => ?_)
    refine s_aload_n dM_isBookOrNone_6 rfl rfl ?_
    refine s_iload_n dM_isBookOrNone_7 rfl rfl ?_
    refine s_v1 dM_isBookOrNone_8 cv_M_135 hM_o (c_M_isBook hB h1 hz) rfl rfl rfl rfl ?_
    refine s_if_eq dM_isBookOrNone_11 (fun _ => ?_) (fun q => absurd rfl q)
    refine s_iconst (v := 0) dM_isBookOrNone_18 (by decide) ?_
    refine s_zret dM_isBookOrNone_19 rfl (by first | exact Or.inl rfl | exact Or.inr rfl | assumption) (by first | exact Nat.le_refl _ | decide | omega) (by first | exact Nat.le_refl _ | decide | omega) ?_
    exact ⟨rfl, rfl⟩
def fEvery (σ : Sg) (b : Int32) (B : Nat) : Int32 × Sg := if bN b B = true then (0, us σ 46 0 b) else (-1, σ)
theorem c_M_everyTurn {σ : Sg} {h : Hp} {B : Nat} (b : Int32) (hB : σ 5 0 = nI B) (h1 : B < 2 ^ 30) : ConF mM_everyTurn 3 [vR (100, 0, 0), vI b] (hM σ h) (some (vI (fEvery σ b B).1)) (hM (fEvery σ b B).2 h) := by
  unfold fEvery
  refine c_enter (by decide +kernel) rfl rfl ?_
  rcases bz_cases b h1 with ⟨e, hz⟩ | ⟨e, hz⟩
  · rw [e]
    refine s_aload_n dM_everyTurn_0 rfl rfl ?_
    refine s_iload_n dM_everyTurn_1 rfl rfl ?_
    refine s_v1 dM_everyTurn_2 cv_M_224 hM_o (c_M_isBookOrNone hB h1 hz) rfl rfl rfl rfl ?_
    refine s_if_ne dM_everyTurn_5 (fun _ => ?_) (fun q => absurd q (by decide))
    refine s_aload_n dM_everyTurn_10 rfl rfl ?_
    refine s_iload_n dM_everyTurn_11 rfl rfl ?_
    refine s_mpi dM_everyTurn_12 gf_M_114 rfl rfl (by first | exact ⟨_, rfl⟩ | exact Or.inl rfl | exact Or.inr rfl) ?_
    refine s_iconst (v := 0) dM_everyTurn_15 (by decide) ?_
    refine s_iret dM_everyTurn_16 rfl (by first | exact Nat.le_refl _ | decide | omega) (by first | exact Nat.le_refl _ | decide | omega) ?_
    exact ⟨rfl, rfl⟩
  · rw [e]
    refine s_aload_n dM_everyTurn_0 rfl rfl ?_
    refine s_iload_n dM_everyTurn_1 rfl rfl ?_
    refine s_v1 dM_everyTurn_2 cv_M_224 hM_o (c_M_isBookOrNone hB h1 hz) rfl rfl rfl rfl ?_
    refine s_if_ne dM_everyTurn_5 (fun q => absurd rfl q) (fun _ => ?_)
    refine s_iconst (v := (-1)) dM_everyTurn_8 (by decide) ?_
    refine s_iret dM_everyTurn_9 rfl (by first | exact Nat.le_refl _ | decide | omega) (by first | exact Nat.le_refl _ | decide | omega) ?_
    exact ⟨rfl, rfl⟩
def fAbandon (σ : Sg) (N : Nat) : Int32 × Sg := if N = 0 then (-2, σ) else (σ 38 (N - 1), us σ 37 0 (nI (N - 1)))
theorem c_M_abandon {σ : Sg} {h : Hp} {N : Nat} (hN : σ 37 0 = nI N) (h3 : N ≤ 4) : ConF mM_abandon 1 [vR (100, 0, 0)] (hM σ h) (some (vI (fAbandon σ N).1)) (hM (fAbandon σ N).2 h) := by
  unfold fAbandon
  refine c_enter (by decide +kernel) rfl rfl ?_
  by_cases h0 : N = 0
  · subst h0
    refine s_aload_n dM_abandon_0 rfl rfl ?_
    refine s_mgi dM_abandon_1 gf_M_233 rfl ?_
    refine s_top hN ?_
    refine s_if_ne dM_abandon_4 (fun q => absurd (by decide) q) (fun _ => ?_)
    refine s_bipush (v := (-2)) dM_abandon_7 (by decide) ?_
    refine s_iret dM_abandon_9 rfl (by first | exact Nat.le_refl _ | decide | omega) (by first | exact Nat.le_refl _ | decide | omega) ?_
    exact ⟨rfl, rfl⟩
  · refine s_aload_n dM_abandon_0 rfl rfl ?_
    refine s_mgi dM_abandon_1 gf_M_233 rfl ?_
    refine s_top hN ?_
    refine s_if_ne dM_abandon_4 (fun _ => ?_) (fun q => absurd q (nI_ne0 (by omega) (by omega)))
    refine s_aload_n dM_abandon_10 rfl rfl ?_
    refine s_dup dM_abandon_11 rfl ?_
    refine s_mgi dM_abandon_12 gf_M_233 rfl ?_
    refine s_top hN ?_
    refine s_iconst (v := nI 1) dM_abandon_15 (by decide) ?_
    first | refine s_isubN dM_abandon_16 (by omega) ?_ | refine s_isub dM_abandon_16 ?_
    refine s_mpi dM_abandon_17 gf_M_233 rfl rfl (by first | exact ⟨_, rfl⟩ | exact Or.inl rfl | exact Or.inr rfl) ?_
    refine s_aload_n dM_abandon_20 rfl rfl ?_
    refine s_mga dM_abandon_21 gf_M_83 rfl ?_
    refine s_aload_n dM_abandon_24 rfl rfl ?_
    refine s_mgi dM_abandon_25 gf_M_233 rfl ?_
    refine s_top (show _ = nI (N - 1) from rfl) ?_
    refine s_mald dM_abandon_28 rfl rfl (show _ < 4 by omega) rfl ?_
    refine s_iret dM_abandon_29 rfl (by first | exact Nat.le_refl _ | decide | omega) (by first | exact Nat.le_refl _ | decide | omega) ?_
    rw [if_neg h0]
    exact ⟨rfl, rfl⟩
