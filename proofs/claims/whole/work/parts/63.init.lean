/-! how the class begins -/
theorem fT.a {ts : List Nat} {h h' : Hp} (h1 : fT ts h h') (t i j : Nat) (hn : t ∉ ts := by decide) : h' (t, i, j) = h (t, i, j) := h1 _ hn
theorem c_Kinds_init {h : Hp} (e1 : h (11, 0, 0) = some (2, 0, fl [vN, vN, vI 0])) (e2 : h (11, 1, 0) = none) (e3 : h (11, 2, 0) = none) : Con mKinds_init 1 2 40 [vR (11, 0, 0)] h (fun v h' => v = none ∧ fT [11] h h' ∧ h' (11, 0, 0) = some (2, 0, fl [vR (11, 1, 0), vR (11, 2, 0), vI 1]) ∧ h' (11, 1, 0) = some (20, 20, fun _ => vI 0) ∧ h' (11, 2, 0) = some (20, 20, fun _ => vI 0)) := by
  refine c_enter (by decide +kernel) rfl rfl ?_
  refine s_aload_n dKinds_init_0 rfl rfl ?_
  refine s_objInit dKinds_init_1 ob_Kinds_3 rfl rfl ?_
  refine s_aload_n dKinds_init_4 rfl rfl ?_
  refine s_bipush (v := nI 20) dKinds_init_5 (by decide) ?_
  refine s_newa (11, 1, 0) _ dKinds_init_7 rfl ⟨Or.inl rfl, ac20⟩ rfl rfl e2 rfl rfl ?_
  refine s_putF dKinds_init_9 gf_Kinds_9 (by repeat (first | exact up_self | assumption | rw [up_ne (by first | assumption | (intro q0; cases q0; done) | (intro q0; simp at q0; omega))])) (by first | rfl | assumption) rfl (by first | exact Or.inl rfl | exact Or.inr ⟨rfl, rfl⟩) (by first | exact ⟨_, rfl⟩ | exact Or.inl rfl | exact Or.inr rfl | assumption) ?_
  refine s_aload_n dKinds_init_12 rfl rfl ?_
  refine s_bipush (v := nI 20) dKinds_init_13 (by decide) ?_
  refine s_newa (11, 2, 0) _ dKinds_init_15 rfl ⟨Or.inl rfl, ac20⟩ rfl rfl (by rw [up_ne (fun q0 => by cases q0), up_ne (fun q0 => by cases q0)]; exact e3) rfl rfl ?_
  refine s_putF dKinds_init_17 gf_Kinds_15 (by repeat (first | exact up_self | assumption | rw [up_ne (by first | assumption | (intro q0; cases q0; done) | (intro q0; simp at q0; omega))])) (by first | rfl | assumption) rfl (by first | exact Or.inl rfl | exact Or.inr ⟨rfl, rfl⟩) (by first | exact ⟨_, rfl⟩ | exact Or.inl rfl | exact Or.inr rfl | assumption) ?_
  refine s_aload_n dKinds_init_20 rfl rfl ?_
  refine s_iconst (v := 1) dKinds_init_21 (by decide) ?_
  refine s_putF dKinds_init_22 gf_Kinds_18 (by repeat (first | exact up_self | assumption | rw [up_ne (by first | assumption | (intro q0; cases q0; done) | (intro q0; simp at q0; omega))])) (by first | rfl | assumption) rfl (by first | exact Or.inl rfl | exact Or.inr ⟨rfl, rfl⟩) (by first | exact ⟨_, rfl⟩ | exact Or.inl rfl | exact Or.inr rfl | assumption) ?_
  refine s_vret dKinds_init_25 rfl (by first | exact Nat.le_refl _ | decide | omega) (by first | exact Nat.le_refl _ | decide | omega) ?_
  refine ⟨rfl, ((((fT.rf.v).v).v).v).v, up_self, ?_, ?_⟩
  · rw [up_ne (fun q0 => by cases q0), up_ne (fun q0 => by cases q0), up_ne (fun q0 => by cases q0), up_ne (fun q0 => by cases q0), up_self]
  · rw [up_ne (fun q0 => by cases q0), up_ne (fun q0 => by cases q0), up_self]
theorem c_Scs_init {h : Hp} (e1 : h (38, 0, 0) = some (8, 0, fl [vN, vN, vN, vI 0, vI 0])) (e2 : h (39, 0, 0) = none) (e3 : h (38, 1, 0) = none) (e4 : ∀ c, h (40, 0, c) = none) : Con mScs_init 4 2 19 [vR (38, 0, 0), vR (12, 0, 0)] h (fun v h' => v = none ∧ fT [38, 39] h h' ∧ h' (38, 0, 0) = some (8, 0, fl [vR (12, 0, 0), vR (39, 0, 0), vR (38, 1, 0), vI 0, vI 0]) ∧ h' (38, 1, 0) = some (20, 16, fun _ => vI 0) ∧ LsT h' (39, 0, 0) []) := by
  refine c_enter (by decide +kernel) rfl rfl ?_
  refine s_aload_n dScs_init_0 rfl rfl ?_
  refine s_objInit dScs_init_1 ob_Scs_3 rfl rfl ?_
  refine s_aload_n dScs_init_4 rfl rfl ?_
  refine s_newF ((39, 0, 0)) ([vN, vI 0, vI 0]) dScs_init_5 nw_Scs_9 rfl (by first | rfl | assumption) e2 rfl rfl ?_
  refine s_dup dScs_init_8 rfl ?_
  refine s_callI (As := []) dScs_init_9 ci_Scs_11 (c_ALi up_self rfl) (by first | rfl | exact Nat.ble_eq_true_of_le (by omega)) (by first | rfl | exact Nat.ble_eq_true_of_le (by omega)) (by first | rfl | exact Nat.ble_eq_true_of_le (by omega)) rfl (fun v0 h2 q0 => ?_)
  obtain ⟨rfl, rfl⟩ := q0
  simp only [up_up]
  refine s_putF dScs_init_12 gf_Scs_12 (by repeat (first | exact up_self | assumption | rw [up_ne (by first | assumption | (intro q0; cases q0; done) | (intro q0; simp at q0; omega))])) (by first | rfl | assumption) rfl (by first | exact Or.inl rfl | exact Or.inr ⟨rfl, rfl⟩) (by first | exact ⟨_, rfl⟩ | exact Or.inl rfl | exact Or.inr rfl | assumption) ?_
  refine s_aload_n dScs_init_15 rfl rfl ?_
  refine s_bipush (v := nI 16) dScs_init_16 (by decide) ?_
  refine s_newa (38, 1, 0) _ dScs_init_18 rfl ⟨Or.inl rfl, ac20⟩ rfl rfl (by rw [up_ne (fun q0 => by cases q0), up_ne (fun q0 => by cases q0)]; exact e3) rfl rfl ?_
  refine s_putF dScs_init_20 gf_Scs_18 (by repeat (first | exact up_self | assumption | rw [up_ne (by first | assumption | (intro q0; cases q0; done) | (intro q0; simp at q0; omega))])) (by first | rfl | assumption) rfl (by first | exact Or.inl rfl | exact Or.inr ⟨rfl, rfl⟩) (by first | exact ⟨_, rfl⟩ | exact Or.inl rfl | exact Or.inr rfl | assumption) ?_
  refine s_aload_n dScs_init_23 rfl rfl ?_
  refine s_aload_n dScs_init_24 rfl rfl ?_
  refine s_putF dScs_init_25 gf_Scs_22 (by repeat (first | exact up_self | assumption | rw [up_ne (by first | assumption | (intro q0; cases q0; done) | (intro q0; simp at q0; omega))])) (by first | rfl | assumption) rfl (by first | exact Or.inl rfl | exact Or.inr ⟨rfl, rfl⟩) (by first | exact ⟨_, rfl⟩ | exact Or.inl rfl | exact Or.inr rfl | assumption) ?_
  refine s_vret dScs_init_28 rfl (by first | exact Nat.le_refl _ | decide | omega) (by first | exact Nat.le_refl _ | decide | omega) ?_
  refine ⟨rfl, ((((fT.rf.v).v).v).v).v, up_self, ?_, ?_⟩
  · rw [up_ne (fun q0 => by cases q0), up_ne (fun q0 => by cases q0), up_self]
  · refine LsT.nil ?_ (fun c => ?_)
    · rw [up_ne (fun q0 => by cases q0), up_ne (fun q0 => by cases q0), up_ne (fun q0 => by cases q0), up_ne (fun q0 => by cases q0), up_self]
    · show _ = none
      rw [up_ne (fun q0 => by cases q0), up_ne (fun q0 => by cases q0), up_ne (fun q0 => by cases q0), up_ne (fun q0 => by cases q0), up_ne (fun q0 => by cases q0)]
      exact e4 c
theorem c_Phr_init {h : Hp} (e1 : h (43, 0, 0) = some (4, 0, fl [vN, vN, vN, vN, vI 0])) (e2 : h (43, 1, 0) = none) (e3 : h (43, 2, 0) = none) (e4 : h (43, 3, 0) = none) : Con mPhr_init 1 3 120 [vR (43, 0, 0), vR (11, 0, 0)] h (fun v h' => v = none ∧ fT [43] h h' ∧ h' (43, 0, 0) = some (4, 0, fl [vR (11, 0, 0), vR (43, 1, 0), vR (43, 2, 0), vR (43, 3, 0), vI 0]) ∧ h' (43, 1, 0) = some (20, 40, fun _ => vI 0) ∧ h' (43, 2, 0) = some (20, 40, fun _ => vI 0) ∧ h' (43, 3, 0) = some (20, 40, fun _ => vI 0)) := by
  refine c_enter (by decide +kernel) rfl rfl ?_
  refine s_aload_n dPhr_init_0 rfl rfl ?_
  refine s_objInit dPhr_init_1 ob_Phr_3 rfl rfl ?_
  refine s_aload_n dPhr_init_4 rfl rfl ?_
  refine s_bipush (v := nI 40) dPhr_init_5 (by decide) ?_
  refine s_newa (43, 1, 0) _ dPhr_init_7 rfl ⟨Or.inl rfl, ac20⟩ rfl rfl e2 rfl rfl ?_
  refine s_putF dPhr_init_9 gf_Phr_9 (by repeat (first | exact up_self | assumption | rw [up_ne (by first | assumption | (intro q0; cases q0; done) | (intro q0; simp at q0; omega))])) (by first | rfl | assumption) rfl (by first | exact Or.inl rfl | exact Or.inr ⟨rfl, rfl⟩) (by first | exact ⟨_, rfl⟩ | exact Or.inl rfl | exact Or.inr rfl | assumption) ?_
  refine s_aload_n dPhr_init_12 rfl rfl ?_
  refine s_bipush (v := nI 40) dPhr_init_13 (by decide) ?_
  refine s_newa (43, 2, 0) _ dPhr_init_15 rfl ⟨Or.inl rfl, ac20⟩ rfl rfl (by rw [up_ne (fun q0 => by cases q0), up_ne (fun q0 => by cases q0)]; exact e3) rfl rfl ?_
  refine s_putF dPhr_init_17 gf_Phr_15 (by repeat (first | exact up_self | assumption | rw [up_ne (by first | assumption | (intro q0; cases q0; done) | (intro q0; simp at q0; omega))])) (by first | rfl | assumption) rfl (by first | exact Or.inl rfl | exact Or.inr ⟨rfl, rfl⟩) (by first | exact ⟨_, rfl⟩ | exact Or.inl rfl | exact Or.inr rfl | assumption) ?_
  refine s_aload_n dPhr_init_20 rfl rfl ?_
  refine s_bipush (v := nI 40) dPhr_init_21 (by decide) ?_
  refine s_newa (43, 3, 0) _ dPhr_init_23 rfl ⟨Or.inl rfl, ac20⟩ rfl rfl (by rw [up_ne (fun q0 => by cases q0), up_ne (fun q0 => by cases q0), up_ne (fun q0 => by cases q0), up_ne (fun q0 => by cases q0)]; exact e4) rfl rfl ?_
  refine s_putF dPhr_init_25 gf_Phr_18 (by repeat (first | exact up_self | assumption | rw [up_ne (by first | assumption | (intro q0; cases q0; done) | (intro q0; simp at q0; omega))])) (by first | rfl | assumption) rfl (by first | exact Or.inl rfl | exact Or.inr ⟨rfl, rfl⟩) (by first | exact ⟨_, rfl⟩ | exact Or.inl rfl | exact Or.inr rfl | assumption) ?_
  refine s_aload_n dPhr_init_28 rfl rfl ?_
  refine s_aload_n dPhr_init_29 rfl rfl ?_
  refine s_putF dPhr_init_30 gf_Phr_21 (by repeat (first | exact up_self | assumption | rw [up_ne (by first | assumption | (intro q0; cases q0; done) | (intro q0; simp at q0; omega))])) (by first | rfl | assumption) rfl (by first | exact Or.inl rfl | exact Or.inr ⟨rfl, rfl⟩) (by first | exact ⟨_, rfl⟩ | exact Or.inl rfl | exact Or.inr rfl | assumption) ?_
  refine s_vret dPhr_init_33 rfl (by first | exact Nat.le_refl _ | decide | omega) (by first | exact Nat.le_refl _ | decide | omega) ?_
  refine ⟨rfl, ((((((fT.rf.v).v).v).v).v).v).v, up_self, ?_, ?_, ?_⟩
  · rw [up_ne (fun q0 => by cases q0), up_ne (fun q0 => by cases q0), up_ne (fun q0 => by cases q0), up_ne (fun q0 => by cases q0), up_ne (fun q0 => by cases q0), up_ne (fun q0 => by cases q0), up_self]
  · rw [up_ne (fun q0 => by cases q0), up_ne (fun q0 => by cases q0), up_ne (fun q0 => by cases q0), up_ne (fun q0 => by cases q0), up_self]
  · rw [up_ne (fun q0 => by cases q0), up_ne (fun q0 => by cases q0), up_self]
theorem c_Trc_init {h : Hp} (e1 : h (47, 0, 0) = some (10, 0, fl [vN, vN, vN, vI 0])) (e2 : h (47, 1, 0) = none) (e3 : h (47, 2, 0) = none) (e4 : h (47, 3, 0) = none) : Con mTrc_init 1 3 900 [vR (47, 0, 0)] h (fun v h' => v = none ∧ fT [47] h h' ∧ h' (47, 0, 0) = some (10, 0, fl [vR (47, 1, 0), vR (47, 2, 0), vR (47, 3, 0), vI 0]) ∧ h' (47, 1, 0) = some (20, 300, fun _ => vI 0) ∧ h' (47, 2, 0) = some (20, 300, fun _ => vI 0) ∧ h' (47, 3, 0) = some (20, 300, fun _ => vI 0)) := by
  refine c_enter (by decide +kernel) rfl rfl ?_
  refine s_aload_n dTrc_init_0 rfl rfl ?_
  refine s_objInit dTrc_init_1 ob_Trc_3 rfl rfl ?_
  refine s_aload_n dTrc_init_4 rfl rfl ?_
  refine s_sipush (v := nI 300) dTrc_init_5 (by decide) ?_
  refine s_newa (47, 1, 0) _ dTrc_init_8 rfl ⟨Or.inl rfl, ac20⟩ rfl rfl e2 rfl rfl ?_
  refine s_putF dTrc_init_10 gf_Trc_9 (by repeat (first | exact up_self | assumption | rw [up_ne (by first | assumption | (intro q0; cases q0; done) | (intro q0; simp at q0; omega))])) (by first | rfl | assumption) rfl (by first | exact Or.inl rfl | exact Or.inr ⟨rfl, rfl⟩) (by first | exact ⟨_, rfl⟩ | exact Or.inl rfl | exact Or.inr rfl | assumption) ?_
  refine s_aload_n dTrc_init_13 rfl rfl ?_
  refine s_sipush (v := nI 300) dTrc_init_14 (by decide) ?_
  refine s_newa (47, 2, 0) _ dTrc_init_17 rfl ⟨Or.inl rfl, ac20⟩ rfl rfl (by rw [up_ne (fun q0 => by cases q0), up_ne (fun q0 => by cases q0)]; exact e3) rfl rfl ?_
  refine s_putF dTrc_init_19 gf_Trc_15 (by repeat (first | exact up_self | assumption | rw [up_ne (by first | assumption | (intro q0; cases q0; done) | (intro q0; simp at q0; omega))])) (by first | rfl | assumption) rfl (by first | exact Or.inl rfl | exact Or.inr ⟨rfl, rfl⟩) (by first | exact ⟨_, rfl⟩ | exact Or.inl rfl | exact Or.inr rfl | assumption) ?_
  refine s_aload_n dTrc_init_22 rfl rfl ?_
  refine s_sipush (v := nI 300) dTrc_init_23 (by decide) ?_
  refine s_newa (47, 3, 0) _ dTrc_init_26 rfl ⟨Or.inl rfl, ac20⟩ rfl rfl (by rw [up_ne (fun q0 => by cases q0), up_ne (fun q0 => by cases q0), up_ne (fun q0 => by cases q0), up_ne (fun q0 => by cases q0)]; exact e4) rfl rfl ?_
  refine s_putF dTrc_init_28 gf_Trc_18 (by repeat (first | exact up_self | assumption | rw [up_ne (by first | assumption | (intro q0; cases q0; done) | (intro q0; simp at q0; omega))])) (by first | rfl | assumption) rfl (by first | exact Or.inl rfl | exact Or.inr ⟨rfl, rfl⟩) (by first | exact ⟨_, rfl⟩ | exact Or.inl rfl | exact Or.inr rfl | assumption) ?_
  refine s_vret dTrc_init_31 rfl (by first | exact Nat.le_refl _ | decide | omega) (by first | exact Nat.le_refl _ | decide | omega) ?_
  refine ⟨rfl, (((((fT.rf.v).v).v).v).v).v, up_self, ?_, ?_, ?_⟩
  · rw [up_ne (fun q0 => by cases q0), up_ne (fun q0 => by cases q0), up_ne (fun q0 => by cases q0), up_ne (fun q0 => by cases q0), up_ne (fun q0 => by cases q0), up_self]
  · rw [up_ne (fun q0 => by cases q0), up_ne (fun q0 => by cases q0), up_ne (fun q0 => by cases q0), up_self]
  · rw [up_ne (fun q0 => by cases q0), up_self]
theorem c_Own_init {h : Hp} {d : Nat} (e1 : h (45, d, 0) = some (3, 0, fl [vN, vL 0])) (e2 : h (46, d, 0) = none) : Con mOwn_init 1 1 4 [vR (45, d, 0)] h (fun v h' => v = none ∧ h' (45, d, 0) = some (3, 0, fl [vR (46, d, 0), vL 0]) ∧ h' (46, d, 0) = some (20, 4, fun _ => vI 0) ∧ ∀ n, n ≠ (45, d, 0) → n ≠ (46, d, 0) → h' n = h n) := by
  refine c_enter (by decide +kernel) rfl rfl ?_
  refine s_aload_n dOwn_init_0 rfl rfl ?_
  refine s_objInit dOwn_init_1 ob_Own_3 rfl rfl ?_
  refine s_aload_n dOwn_init_4 rfl rfl ?_
  refine s_iconst (v := nI 4) dOwn_init_5 (by decide) ?_
  refine s_newa (46, d, 0) _ dOwn_init_6 rfl ⟨Or.inl rfl, ac20⟩ rfl rfl e2 rfl rfl ?_
  refine s_putF dOwn_init_8 gf_Own_9 (by repeat (first | exact up_self | assumption | rw [up_ne (by first | assumption | (intro q0; cases q0; done) | (intro q0; simp at q0; omega))])) (by first | rfl | assumption) rfl (by first | exact Or.inl rfl | exact Or.inr ⟨rfl, rfl⟩) (by first | exact ⟨_, rfl⟩ | exact Or.inl rfl | exact Or.inr rfl | assumption) ?_
  refine s_vret dOwn_init_11 rfl (by first | exact Nat.le_refl _ | decide | omega) (by first | exact Nat.le_refl _ | decide | omega) ?_
  refine ⟨rfl, up_self, ?_, fun n a1 a2 => by rw [up_ne a1, up_ne a2]⟩
  rw [up_ne (fun q0 => by simp at q0), up_self]
theorem l_Run_init {h0 : Hp} {Q : Option PV → Hp → Prop} (hf : ∀ i, h0 (45, i, 0) = none ∧ h0 (46, i, 0) = none) (u0 : h0 (44, 0, 0) = some (6, 0, fl [vR (11, 0, 0), vR (16, 0, 0), vR (38, 0, 0), vR (44, 1, 0), vR (47, 0, 0), vI 0, vI 0])) (hq : ∀ h, fT [44, 45, 46] h0 h → uC h 0 0 → (∀ d, d < 6 → oC h d (fun _ => 0) (fun _ => false)) → Q none h) :
    ∀ (n i : Nat) (h : Hp) (f : Nat → PV) (k s : Nat), i + n = 6 → k = 5 + 2 * i → s = 910 + 6 * i → fT [44, 45, 46] h0 h → h (44, 0, 0) = h0 (44, 0, 0) → h (44, 1, 0) = some (24, 6, f) → (∀ d, d < i → f d = vR (45, d, 0) ∧ oC h d (fun _ => 0) (fun _ => false)) → (∀ d, i ≤ d → h (45, d, 0) = none ∧ h (46, d, 0) = none) →
      S mRun_init 3 20 1000 Q 42 [some (vR (44, 0, 0)), some (vR (11, 0, 0)), some (vR (16, 0, 0)), some (vR (38, 0, 0)), some (vI (nI i))] [] h k s := by
  intro n
  induction n with
  | zero =>
    intro i h f k s hi hk hs F e0 e1 e2 e3
    have ei : i = 6 := by omega
    subst ei
    subst hk hs
    refine s_iload dRun_init_42 rfl ?_
    refine s_bipush (v := nI 6) dRun_init_44 (by decide) ?_
    refine s_icmp_ge dRun_init_46 (fun _ => ?_) (fun q => absurd (by decide) q)
    refine s_vret dRun_init_69 rfl (by first | exact Nat.le_refl _ | decide | omega) (by first | exact Nat.le_refl _ | decide | omega) ?_
    exact hq h F ⟨e0.trans u0, f, e1, fun d q1 => (e2 d q1).1⟩ (fun d q1 => (e2 d q1).2)
  | succ n ih1 =>
    intro i h f k s hi hk hs F e0 e1 e2 e3
    have u1 := e0.trans u0
    obtain ⟨n1, n2⟩ := e3 i (Nat.le_refl _)
    subst hk hs
    refine s_iload dRun_init_42 rfl ?_
    refine s_bipush (v := nI 6) dRun_init_44 (by decide) ?_
    refine s_icmp_ge dRun_init_46 (fun q => absurd q (nI_ge (show i < 6 by omega) (by omega))) (fun _ => ?_)
    refine s_aload_n dRun_init_49 rfl rfl ?_
    refine s_get dRun_init_50 gf_Run_11 u1 ?_
    refine s_iload dRun_init_53 rfl ?_
    refine s_newF (45, i, 0) [vN, vL 0] dRun_init_55 nw_Run_9 rfl rfl n1 (Nat.ble_eq_true_of_le (by omega)) (Nat.ble_eq_true_of_le (by show _ + 2 ≤ _; omega)) ?_
    refine s_dup dRun_init_58 rfl ?_
    refine s_callI (As := []) dRun_init_59 ci_Run_36 (c_Own_init up_self (by rw [up_ne (fun q0 => by simp at q0)]; exact n2)) rfl (Nat.ble_eq_true_of_le (by omega)) (Nat.ble_eq_true_of_le (by show _ + 2 + 4 ≤ _; omega)) rfl (fun v0 h2 q0 => ?_)
    obtain ⟨rfl, g1, g2, g3⟩ := q0
    have G : ∀ t r c, (t ≠ 45 ∧ t ≠ 46) ∨ r ≠ i → h2 (t, r, c) = h (t, r, c) := fun t r c a1 => by
      rw [g3 _ (fun q0 => by simp at q0; omega) (fun q0 => by simp at q0; omega), up_ne (fun q0 => by simp at q0; omega)]
    have e12 : h2 (44, 1, 0) = some (24, 6, f) := (G _ _ _ (by omega)).trans e1
    refine s_aast dRun_init_62 e12 rfl g1 (by decide) (Or.inr ⟨rfl, rfl⟩) (vp_in_nI (show i < 6 by omega) (by omega)) ?_
    rw [nI_clamp (by omega)]
    refine s_iincN dRun_init_63 rfl rfl ?_
    refine s_goto dRun_init_66 ?_
    have H : ∀ t r c, (t ≠ 44 ∨ r ≠ 1) → up h2 (44, 1, 0) (24, 6, upf f i (vR (45, i, 0))) (t, r, c) = h2 (t, r, c) := fun t r c a1 => up_ne (fun q0 => by simp at q0; omega)
    refine ih1 (i + 1) _ (upf f i (vR (45, i, 0))) _ _ (by omega) (by show 5 + 2 * i + 1 + 1 = _; omega) (by show 910 + 6 * i + 2 + 4 = _; omega) (fun m q1 => ?_) ?_ up_self (fun d q1 => ?_) (fun d q1 => ?_)
    · obtain ⟨t, r, c⟩ := m
      simp at q1
      rw [H _ _ _ (by omega), G _ _ _ (by omega)]
      exact F _ (by simp; omega)
    · rw [H _ _ _ (by omega), G _ _ _ (by omega)]; exact e0
    · have eu : upf f i (vR (45, i, 0)) d = if d = i then vR (45, i, 0) else f d := rfl
      rw [eu]
      by_cases c1 : d = i
      · subst c1
        rw [if_pos rfl]
        refine ⟨rfl, 0, fun _ => vI 0, ?_, ?_, fun _ _ => rfl, fun _ _ => bit_0⟩
        · rw [H _ _ _ (by omega)]; exact g1
        · rw [H _ _ _ (by omega)]; exact g2
      · rw [if_neg c1]
        obtain ⟨y1, y2⟩ := e2 d (by omega)
        refine ⟨y1, y2.fr ?_ ?_⟩
        · rw [H _ _ _ (by omega), G _ _ _ (by omega)]
        · rw [H _ _ _ (by omega), G _ _ _ (by omega)]
    · rw [H _ _ _ (by omega), H _ _ _ (by omega), G _ _ _ (by omega), G _ _ _ (by omega)]
      exact e3 d (by omega)
theorem c_Run_init {h : Hp} (e1 : h (44, 0, 0) = some (6, 0, fl [vN, vN, vN, vN, vN, vI 0, vI 0])) (e2 : h (44, 1, 0) = none) (e3 : ∀ j, h (47, j, 0) = none) (e4 : ∀ i, h (45, i, 0) = none ∧ h (46, i, 0) = none) : Con mRun_init 3 20 1000 [vR (44, 0, 0), vR (11, 0, 0), vR (16, 0, 0), vR (38, 0, 0)] h (fun v h' => v = none ∧ fT [44, 45, 46, 47] h h' ∧ uC h' 0 0 ∧ (∀ d, d < 6 → oC h' d (fun _ => 0) (fun _ => false)) ∧ tC h' (fun _ => 0) 0) := by
  refine c_enter (by decide +kernel) rfl rfl ?_
  refine s_aload_n dRun_init_0 rfl rfl ?_
  refine s_objInit dRun_init_1 ob_Run_3 rfl rfl ?_
  refine s_aload_n dRun_init_4 rfl rfl ?_
  refine s_bipush (v := nI 6) dRun_init_5 (by decide) ?_
  refine s_anew (a := 24) (C0 := "RuleBooks$OwnState") (44, 1, 0) 6 dRun_init_7 ⟨Or.inr rfl, rfl, nw_Run_9.2.1⟩ rfl (by omega) e2 (by omega) (by omega) ?_
  refine s_putF dRun_init_10 gf_Run_11 (by repeat (first | exact up_self | assumption | rw [up_ne (by first | assumption | (intro q0; cases q0; done) | (intro q0; simp at q0; omega))])) (by first | rfl | assumption) rfl (by first | exact Or.inl rfl | exact Or.inr ⟨rfl, rfl⟩) (by first | exact ⟨_, rfl⟩ | exact Or.inl rfl | exact Or.inr rfl | assumption) ?_
  refine s_aload_n dRun_init_13 rfl rfl ?_
  refine s_newF ((47, 0, 0)) ([vN, vN, vN, vI 0]) dRun_init_14 nw_Run_17 rfl (by first | rfl | assumption) (by rw [up_ne (fun q0 => by simp at q0), up_ne (fun q0 => by simp at q0)]; exact e3 0) rfl rfl ?_
  refine s_dup dRun_init_17 rfl ?_
  refine s_callI (As := []) dRun_init_18 ci_Run_19 (c_Trc_init up_self (by rw [up_ne (fun q0 => by simp at q0), up_ne (fun q0 => by simp at q0), up_ne (fun q0 => by simp at q0)]; exact e3 1) (by rw [up_ne (fun q0 => by simp at q0), up_ne (fun q0 => by simp at q0), up_ne (fun q0 => by simp at q0)]; exact e3 2) (by rw [up_ne (fun q0 => by simp at q0), up_ne (fun q0 => by simp at q0), up_ne (fun q0 => by simp at q0)]; exact e3 3)) (by first | rfl | exact Nat.ble_eq_true_of_le (by omega)) (by first | rfl | exact Nat.ble_eq_true_of_le (by omega)) (by first | rfl | exact Nat.ble_eq_true_of_le (by omega)) rfl (fun v0 h2 q0 => ?_)
  obtain ⟨rfl, F2, t0, t1, t2, t3⟩ := q0
  have G : ∀ t r c, t ≠ 44 ∧ t ≠ 47 → h2 (t, r, c) = h (t, r, c) := fun t r c a1 => by
    rw [F2 _ (by simp; omega), up_ne (fun q0 => by simp at q0; omega), up_ne (fun q0 => by simp at q0; omega), up_ne (fun q0 => by simp at q0; omega)]
  have u2 : h2 (44, 0, 0) = some (6, 0, fl [vN, vN, vN, vR (44, 1, 0), vN, vI 0, vI 0]) := by
    rw [F2.a 44 0 0, up_ne (fun q0 => by simp at q0), up_self]
    rfl
  have u3 : h2 (44, 1, 0) = some (24, 6, fun _ => vN) := by
    rw [F2.a 44 1 0, up_ne (fun q0 => by simp at q0), up_ne (fun q0 => by simp at q0), up_self]
  refine s_putF dRun_init_21 gf_Run_20 (by repeat (first | exact up_self | assumption | rw [up_ne (by first | assumption | (intro q0; cases q0; done) | (intro q0; simp at q0; omega))])) (by first | rfl | assumption) rfl (by first | exact Or.inl rfl | exact Or.inr ⟨rfl, rfl⟩) (by first | exact ⟨_, rfl⟩ | exact Or.inl rfl | exact Or.inr rfl | assumption) ?_
  refine s_aload_n dRun_init_24 rfl rfl ?_
  refine s_aload_n dRun_init_25 rfl rfl ?_
  refine s_putF dRun_init_26 gf_Run_24 (by repeat (first | exact up_self | assumption | rw [up_ne (by first | assumption | (intro q0; cases q0; done) | (intro q0; simp at q0; omega))])) (by first | rfl | assumption) rfl (by first | exact Or.inl rfl | exact Or.inr ⟨rfl, rfl⟩) (by first | exact ⟨_, rfl⟩ | exact Or.inl rfl | exact Or.inr rfl | assumption) ?_
  refine s_aload_n dRun_init_29 rfl rfl ?_
  refine s_aload_n dRun_init_30 rfl rfl ?_
  refine s_putF dRun_init_31 gf_Run_28 (by repeat (first | exact up_self | assumption | rw [up_ne (by first | assumption | (intro q0; cases q0; done) | (intro q0; simp at q0; omega))])) (by first | rfl | assumption) rfl (by first | exact Or.inl rfl | exact Or.inr ⟨rfl, rfl⟩) (by first | exact ⟨_, rfl⟩ | exact Or.inl rfl | exact Or.inr rfl | assumption) ?_
  refine s_aload_n dRun_init_34 rfl rfl ?_
  refine s_aload_n dRun_init_35 rfl rfl ?_
  refine s_putF dRun_init_36 gf_Run_32 (by repeat (first | exact up_self | assumption | rw [up_ne (by first | assumption | (intro q0; cases q0; done) | (intro q0; simp at q0; omega))])) (by first | rfl | assumption) rfl (by first | exact Or.inl rfl | exact Or.inr ⟨rfl, rfl⟩) (by first | exact ⟨_, rfl⟩ | exact Or.inl rfl | exact Or.inr rfl | assumption) ?_
  refine s_iconst (v := 0) dRun_init_39 (by decide) ?_
  refine s_istore dRun_init_40 rfl ?_
  refine s_hp (h' := up h2 (44, 0, 0) (6, 0, fl [vR (11, 0, 0), vR (16, 0, 0), vR (38, 0, 0), vR (44, 1, 0), vR (47, 0, 0), vI 0, vI 0])) (by simp only [up_up]; rfl) ?_
  have H : ∀ t r c, t ≠ 44 ∨ r ≠ 0 → up h2 (44, 0, 0) (6, 0, fl [vR (11, 0, 0), vR (16, 0, 0), vR (38, 0, 0), vR (44, 1, 0), vR (47, 0, 0), vI 0, vI 0]) (t, r, c) = h2 (t, r, c) := fun t r c a1 => up_ne (fun q0 => by simp at q0; omega)
  refine l_Run_init (h0 := up h2 (44, 0, 0) (6, 0, fl [vR (11, 0, 0), vR (16, 0, 0), vR (38, 0, 0), vR (44, 1, 0), vR (47, 0, 0), vI 0, vI 0])) (fun i => ?_) up_self (fun hh F U O => ⟨rfl, fun m q1 => ?_, U, O, ?_⟩) 6 0 _ (fun _ => vN) _ _ (by omega) rfl rfl fT.rf rfl ?_ (fun d q1 => by omega) (fun d _ => ?_)
  · rw [H _ _ _ (by omega), H _ _ _ (by omega), G _ _ _ (by omega), G _ _ _ (by omega)]
    exact e4 i
  · rw [H _ _ _ (by omega)]; exact u3
  · rw [H _ _ _ (by omega), H _ _ _ (by omega), G _ _ _ (by omega), G _ _ _ (by omega)]
    exact e4 d
  · obtain ⟨t, r, c⟩ := m
    simp at q1
    rw [F _ (by simp; omega), H _ _ _ (by omega), G _ _ _ (by omega)]
  · refine ⟨?_, fun _ => vI 0, fun _ => vI 0, fun _ => vI 0, ?_, ?_, ?_, fun i q1 => by omega⟩
    · rw [F.a 47 0 0, H _ _ _ (by omega)]; exact t0
    · rw [F.a 47 1 0, H _ _ _ (by omega)]; exact t1
    · rw [F.a 47 2 0, H _ _ _ (by omega)]; exact t2
    · rw [F.a 47 3 0, H _ _ _ (by omega)]; exact t3
