/-! answers of the runner -/
theorem c_startCall {h : Hp} {σ : Sg} {N : Nat} {g : Gs} (D : DY h σ N g) : Con mRun_startCall 0 0 0 [vR (44, 0, 0)] h (fun v h' => v = none ∧ FD h h' ∧ DY h' σ N (gf g)) := by
  obtain ⟨d1, ⟨t0, f1, f2, f3, t1, t2, t3, t4⟩, ⟨u0, fu, u1, u2⟩, d4, d5⟩ := D
  refine c_enter (by decide +kernel) rfl rfl ?_
  refine s_aload_n dRun_startCall_0 rfl rfl ?_
  refine s_get dRun_startCall_1 gf_Run_20 (by repeat (first | exact up_self | assumption | rw [up_ne (by first | assumption | (intro q0; cases q0; done) | (intro q0; simp at q0; omega))])) ?_
  refine s_iconst (v := 0) dRun_startCall_4 (by decide) ?_
  refine s_putF dRun_startCall_5 gf_Run_67 (by repeat (first | exact up_self | assumption | rw [up_ne (by first | assumption | (intro q0; cases q0; done) | (intro q0; simp at q0; omega))])) (by first | rfl | assumption) rfl (by first | exact Or.inl rfl | exact Or.inr ⟨rfl, rfl⟩) (by first | exact ⟨_, rfl⟩ | exact Or.inl rfl | exact Or.inr rfl | assumption) ?_
  refine s_aload_n dRun_startCall_8 rfl rfl ?_
  refine s_iconst (v := 0) dRun_startCall_9 (by decide) ?_
  refine s_putF dRun_startCall_10 gf_Run_70 (by repeat (first | exact up_self | assumption | rw [up_ne (by first | assumption | (intro q0; cases q0; done) | (intro q0; simp at q0; omega))])) (by first | rfl | assumption) rfl (by first | exact Or.inl rfl | exact Or.inr ⟨rfl, rfl⟩) (by first | exact ⟨_, rfl⟩ | exact Or.inl rfl | exact Or.inr rfl | assumption) ?_
  refine s_vret dRun_startCall_13 rfl (by first | exact Nat.le_refl _ | decide | omega) (by first | exact Nat.le_refl _ | decide | omega) ?_
  have F : fT [44, 47] h (up (up h (47, 0, 0) (10, 0, fl [vR (47, 1, 0), vR (47, 2, 0), vR (47, 3, 0), vI 0])) (44, 0, 0) (6, 0, fl [vR (11, 0, 0), vR (16, 0, 0), vR (38, 0, 0), vR (44, 1, 0), vR (47, 0, 0), vI 0, vI (gs g)])) := (fT.rf.v).v
  have H : ∀ t r c, (t ≠ 47 ∧ t ≠ 44) ∨ r ≠ 0 → up (up h (47, 0, 0) (10, 0, fl [vR (47, 1, 0), vR (47, 2, 0), vR (47, 3, 0), vI 0])) (44, 0, 0) (6, 0, fl [vR (11, 0, 0), vR (16, 0, 0), vR (38, 0, 0), vR (44, 1, 0), vR (47, 0, 0), vI 0, vI (gs g)]) (t, r, c) = h (t, r, c) := fun t r c a1 => by rw [up_ne (fun q0 => by simp at q0; omega), up_ne (fun q0 => by simp at q0; omega)]
  refine ⟨rfl, F.mo (by decide), d1.fr (F.ag (by decide)) (fun _ => rfl), ⟨(up_ne (fun q0 => by simp at q0)).trans up_self, f1, f2, f3, (H _ _ _ (by omega)).trans t1, (H _ _ _ (by omega)).trans t2, (H _ _ _ (by omega)).trans t3, fun i q1 => absurd q1 (by show ¬ i < 0; omega)⟩, ⟨up_self, fu, (H _ _ _ (by omega)).trans u1, u2⟩, fun d q1 => ?_, by show (0 : Nat) ≤ 300; omega⟩
  obtain ⟨vr1, ap1, o1⟩ := d4 d q1
  exact ⟨vr1, ap1, o1.fr (H _ _ _ (by omega)) (H _ _ _ (by omega))⟩
theorem c_answerN1 {h : Hp} {o : Option Nm} : ConF mRun_answerOf 28 [vR (44, 0, 0), vN, vO o] h (some (vI 0)) h := by
  refine c_enter (by decide +kernel) rfl rfl ?_
  refine s_aload_n dRun_answerOf_0 rfl rfl ?_
  refine s_ifnull dRun_answerOf_1 (fun _ => ?_) (fun q => by obtain ⟨_, q⟩ := q; cases q)
  refine s_iconst (v := 0) dRun_answerOf_8 (by decide) ?_
  refine s_iret dRun_answerOf_9 rfl (by first | exact Nat.le_refl _ | decide | omega) (by first | exact Nat.le_refl _ | decide | omega) ?_
  exact ⟨rfl, rfl⟩
theorem c_answerN2 {h : Hp} {b : Nat} : ConF mRun_answerOf 28 [vR (44, 0, 0), vR (18, b, 0), vN] h (some (vI 0)) h := by
  refine c_enter (by decide +kernel) rfl rfl ?_
  refine s_aload_n dRun_answerOf_0 rfl rfl ?_
  refine s_ifnull dRun_answerOf_1 (fun q => by cases q) (fun _ => ?_)
  refine s_aload_n dRun_answerOf_4 rfl rfl ?_
  refine s_ifnonnull dRun_answerOf_5 (fun q => by obtain ⟨_, q⟩ := q; cases q) (fun _ => ?_)
  refine s_iconst (v := 0) dRun_answerOf_8 (by decide) ?_
  refine s_iret dRun_answerOf_9 rfl (by first | exact Nat.le_refl _ | decide | omega) (by first | exact Nat.le_refl _ | decide | omega) ?_
  exact ⟨rfl, rfl⟩
theorem c_answerOf {h : Hp} {σ : Sg} {own od rw0 : Nat → List Nat} {K N NS B R s b : Nat} {g : Gs} (X : ST h σ own od rw0 K N NS B R) (D : DY h σ N g) (hs : s < N) (hb : b < B) :
    Con mRun_answerOf 28 0 0 [vR (44, 0, 0), vR (18, b, 0), vR (14, s, 0)] h (fun v h' => FD h h' ∧ DY h' σ N (runS σ rw0 s 6 0 b (gf g)).1 ∧ v = some (vI (aN σ b (runS σ rw0 s 6 0 b (gf g))))) := by
  obtain ⟨d1, -⟩ := X.2.1.2.1 b hb
  have u1 := D.2.2.1.1
  refine c_enter (by decide +kernel) rfl rfl ?_
  refine s_aload_n dRun_answerOf_0 rfl rfl ?_
  refine s_ifnull dRun_answerOf_1 (fun q => by cases q) (fun _ => ?_)
  refine s_aload_n dRun_answerOf_4 rfl rfl ?_
  refine s_ifnonnull dRun_answerOf_5 (fun _ => ?_) (fun q => by cases q)
  refine s_aload_n dRun_answerOf_10 rfl rfl ?_
  refine s_callV (As := []) dRun_answerOf_11 cv_Run_37 (by repeat (first | exact up_self | assumption | rw [up_ne (by first | assumption | (intro q0; cases q0; done) | (intro q0; simp at q0; omega))])) (c_startCall D) (by first | rfl | exact Nat.ble_eq_true_of_le (by omega)) (by first | rfl | exact Nat.ble_eq_true_of_le (by omega)) (by first | rfl | exact Nat.ble_eq_true_of_le (by omega)) rfl (fun v0 h2 q0 => ?_)
  obtain ⟨rfl, F2, D2⟩ := q0
  have u2 := D2.2.2.1.1
  have X2 := X.mv F2
  refine s_aload_n dRun_answerOf_14 rfl rfl ?_
  refine s_aload_n dRun_answerOf_15 rfl rfl ?_
  refine s_aload_n dRun_answerOf_16 rfl rfl ?_
  refine s_iconst (v := 1) dRun_answerOf_17 (by decide) ?_
  refine s_callV (As := [_, _, _]) dRun_answerOf_18 cv_Run_40 (by repeat (first | exact up_self | assumption | rw [up_ne (by first | assumption | (intro q0; cases q0; done) | (intro q0; simp at q0; omega))])) (c_out hs 5 h2 (gf g) b 1 0 (by omega) (by omega) X2 D2 rfl hb) (by first | rfl | exact Nat.ble_eq_true_of_le (by omega)) (by first | rfl | exact Nat.ble_eq_true_of_le (by omega)) (by first | rfl | exact Nat.ble_eq_true_of_le (by omega)) rfl (fun v0 h3 q0 => ?_)
  obtain ⟨F3, -, D3, k, hk, ek, rfl⟩ := q0
  have ce := c_hasErred D3.2.2.1
  have ca := c_errAnswer D3.2.2.1
  have u3 := D3.2.2.1.1
  have d13 : h3 (18, b, 0) = _ := (F3 _ (show (18 : Nat) ∉ _ by decide)).trans ((F2 _ (show (18 : Nat) ∉ _ by decide)).trans d1)
  unfold aN
  generalize runS σ rw0 s (5 + 1) 0 b (gf g) = F at D3 ek ce ca u3 ⊢
  by_cases z1 : ge F.1 = 0
  · rw [zi_dec.2 (fun q0 => q0 z1)] at ce
    by_cases z2 : k = 0
    · refine s_istore_n dRun_answerOf_21 rfl rfl ?_
      refine s_aload_n dRun_answerOf_22 rfl rfl ?_
      refine s_v0 dRun_answerOf_23 cv_Run_44 (by repeat (first | exact up_self | assumption | rw [up_ne (by first | assumption | (intro q0; cases q0; done) | (intro q0; simp at q0; omega))])) (ce) (by first | rfl | exact Nat.ble_eq_true_of_le (by omega)) (by first | rfl | exact Nat.ble_eq_true_of_le (by omega)) (by first | rfl | exact Nat.ble_eq_true_of_le (by omega)) rfl ?_
      refine s_if_eq dRun_answerOf_26 (fun _ => ?_) (fun q => absurd rfl q)
      refine s_iload_n dRun_answerOf_34 rfl rfl ?_
      refine s_if_le dRun_answerOf_35 (fun _ => ?_) (fun q => absurd (by rw [z2]; decide) q)
      refine s_aload_n dRun_answerOf_42 rfl rfl ?_
      refine s_get dRun_answerOf_43 gf_Run_52 (by repeat (first | exact up_self | assumption | rw [up_ne (by first | assumption | (intro q0; cases q0; done) | (intro q0; simp at q0; omega))])) ?_
      refine s_iret dRun_answerOf_46 rfl (by first | exact Nat.le_refl _ | decide | omega) (by first | exact Nat.le_refl _ | decide | omega) ?_
      refine ⟨F2.tr F3, D3, ?_⟩
      rw [if_pos z1, if_pos (by rw [ek, z2]; rfl)]
    · refine s_istore_n dRun_answerOf_21 rfl rfl ?_
      refine s_aload_n dRun_answerOf_22 rfl rfl ?_
      refine s_v0 dRun_answerOf_23 cv_Run_44 (by repeat (first | exact up_self | assumption | rw [up_ne (by first | assumption | (intro q0; cases q0; done) | (intro q0; simp at q0; omega))])) (ce) (by first | rfl | exact Nat.ble_eq_true_of_le (by omega)) (by first | rfl | exact Nat.ble_eq_true_of_le (by omega)) (by first | rfl | exact Nat.ble_eq_true_of_le (by omega)) rfl ?_
      refine s_if_eq dRun_answerOf_26 (fun _ => ?_) (fun q => absurd rfl q)
      refine s_iload_n dRun_answerOf_34 rfl rfl ?_
      refine s_if_le dRun_answerOf_35 (fun q => absurd q (Int32.not_le.mpr (nI_lt (a := 0) (by omega) (by omega)))) (fun _ => ?_)
      refine s_iload_n dRun_answerOf_38 rfl rfl ?_
      refine s_goto dRun_answerOf_39 ?_
      refine s_iret dRun_answerOf_46 rfl (by first | exact Nat.le_refl _ | decide | omega) (by first | exact Nat.le_refl _ | decide | omega) ?_
      refine ⟨F2.tr F3, D3, ?_⟩
      rw [if_pos z1, if_neg (by rw [ek]; exact nI_ne (b := 0) z2 (by omega) (by omega)), ek]
  · rw [zi_dec.1 z1] at ce
    refine s_istore_n dRun_answerOf_21 rfl rfl ?_
    refine s_aload_n dRun_answerOf_22 rfl rfl ?_
    refine s_v0 dRun_answerOf_23 cv_Run_44 (by repeat (first | exact up_self | assumption | rw [up_ne (by first | assumption | (intro q0; cases q0; done) | (intro q0; simp at q0; omega))])) (ce) (by first | rfl | exact Nat.ble_eq_true_of_le (by omega)) (by first | rfl | exact Nat.ble_eq_true_of_le (by omega)) (by first | rfl | exact Nat.ble_eq_true_of_le (by omega)) rfl ?_
    refine s_if_eq dRun_answerOf_26 (fun q => absurd q (by decide)) (fun _ => ?_)
    refine s_aload_n dRun_answerOf_29 rfl rfl ?_
    refine s_v0 dRun_answerOf_30 cv_Run_48 (by repeat (first | exact up_self | assumption | rw [up_ne (by first | assumption | (intro q0; cases q0; done) | (intro q0; simp at q0; omega))])) (ca) (by first | rfl | exact Nat.ble_eq_true_of_le (by omega)) (by first | rfl | exact Nat.ble_eq_true_of_le (by omega)) (by first | rfl | exact Nat.ble_eq_true_of_le (by omega)) rfl ?_
    refine s_iret dRun_answerOf_33 rfl (by first | exact Nat.le_refl _ | decide | omega) (by first | exact Nat.le_refl _ | decide | omega) ?_
    refine ⟨F2.tr F3, D3, ?_⟩
    rw [if_neg z1]
theorem c_X_run {h : Hp} {σ : Sg} {own od rw0 : Nat → List Nat} {K N NS B R : Nat} {g : Gs} {a v o tb : Int32} (b s : Int32) (M1 : mnC h a v o tb) (X : ST h σ own od rw0 K N NS B R) (D : DY h σ N g) :
    Con mX_run 29 0 0 [vR (10, 0, 0), vI b, vI s] h (fun v h' => v = some (vI (fRun σ rw0 b s B N g).1) ∧ FD h h' ∧ DY h' σ N (fRun σ rw0 b s B N g).2) := by
  have M0 := M1
  unfold mnC at M1
  have hN := X.2.2.2.2.2.1.1
  have hB := X.2.2.2.2.2.2.2.2.1
  have u1 := D.2.2.1.1
  unfold fRun
  refine c_enter (by decide +kernel) rfl rfl ?_
  rcases iy_cases b (K := B) (by omega) with ⟨q1, hz1⟩ | ⟨j, hj, rfl, q1⟩
  · rw [q1]
    rcases iy_cases s (K := N) (by omega) with ⟨q2, hz2⟩ | ⟨i, hi, rfl, q2⟩
    · refine s_aload_n dX_run_0 rfl rfl ?_
      refine s_iload_n dX_run_1 rfl rfl ?_
      refine s_v1 dX_run_2 cv_X_116 (by repeat (first | exact up_self | assumption | rw [up_ne (by first | assumption | (intro q0; cases q0; done) | (intro q0; simp at q0; omega))])) (c_bookNo M0 X.2.1 hB hz1) (by first | rfl | exact Nat.ble_eq_true_of_le (by omega)) (by first | rfl | exact Nat.ble_eq_true_of_le (by omega)) (by first | rfl | exact Nat.ble_eq_true_of_le (by omega)) rfl ?_
      refine s_astore_n dX_run_5 rfl rfl ?_
      refine s_aload_n dX_run_6 rfl rfl ?_
      refine s_iload_n dX_run_7 rfl rfl ?_
      refine s_v1 dX_run_8 cv_X_103 (by repeat (first | exact up_self | assumption | rw [up_ne (by first | assumption | (intro q0; cases q0; done) | (intro q0; simp at q0; omega))])) (c_subjNo M0 D.1 hN hz2) (by first | rfl | exact Nat.ble_eq_true_of_le (by omega)) (by first | rfl | exact Nat.ble_eq_true_of_le (by omega)) (by first | rfl | exact Nat.ble_eq_true_of_le (by omega)) rfl ?_
      refine s_astore dX_run_11 rfl ?_
      refine s_aload_n dX_run_13 rfl rfl ?_
      refine s_ifnull dX_run_14 (fun _ => ?_) (fun q => by obtain ⟨_, q⟩ := q; cases q)
      refine s_iconst (v := (-1)) dX_run_22 (by decide) ?_
      refine s_iret dX_run_23 rfl (by first | exact Nat.le_refl _ | decide | omega) (by first | exact Nat.le_refl _ | decide | omega) ?_
      exact ⟨rfl, fT.rf, D⟩
    · refine s_aload_n dX_run_0 rfl rfl ?_
      refine s_iload_n dX_run_1 rfl rfl ?_
      refine s_v1 dX_run_2 cv_X_116 (by repeat (first | exact up_self | assumption | rw [up_ne (by first | assumption | (intro q0; cases q0; done) | (intro q0; simp at q0; omega))])) (c_bookNo M0 X.2.1 hB hz1) (by first | rfl | exact Nat.ble_eq_true_of_le (by omega)) (by first | rfl | exact Nat.ble_eq_true_of_le (by omega)) (by first | rfl | exact Nat.ble_eq_true_of_le (by omega)) rfl ?_
      refine s_astore_n dX_run_5 rfl rfl ?_
      refine s_aload_n dX_run_6 rfl rfl ?_
      refine s_iload_n dX_run_7 rfl rfl ?_
      refine s_v1 dX_run_8 cv_X_103 (by repeat (first | exact up_self | assumption | rw [up_ne (by first | assumption | (intro q0; cases q0; done) | (intro q0; simp at q0; omega))])) (c_subjAt M0 D.1 hN hi) (by first | rfl | exact Nat.ble_eq_true_of_le (by omega)) (by first | rfl | exact Nat.ble_eq_true_of_le (by omega)) (by first | rfl | exact Nat.ble_eq_true_of_le (by omega)) rfl ?_
      refine s_astore dX_run_11 rfl ?_
      refine s_aload_n dX_run_13 rfl rfl ?_
      refine s_ifnull dX_run_14 (fun _ => ?_) (fun q => by obtain ⟨_, q⟩ := q; cases q)
      refine s_iconst (v := (-1)) dX_run_22 (by decide) ?_
      refine s_iret dX_run_23 rfl (by first | exact Nat.le_refl _ | decide | omega) (by first | exact Nat.le_refl _ | decide | omega) ?_
      exact ⟨rfl, fT.rf, D⟩
  · rw [q1]
    rcases iy_cases s (K := N) (by omega) with ⟨q2, hz2⟩ | ⟨i, hi, rfl, q2⟩
    · rw [q2]
      refine s_aload_n dX_run_0 rfl rfl ?_
      refine s_iload_n dX_run_1 rfl rfl ?_
      refine s_v1 dX_run_2 cv_X_116 (by repeat (first | exact up_self | assumption | rw [up_ne (by first | assumption | (intro q0; cases q0; done) | (intro q0; simp at q0; omega))])) (c_bookAt M0 X.2.1 hB hj) (by first | rfl | exact Nat.ble_eq_true_of_le (by omega)) (by first | rfl | exact Nat.ble_eq_true_of_le (by omega)) (by first | rfl | exact Nat.ble_eq_true_of_le (by omega)) rfl ?_
      refine s_astore_n dX_run_5 rfl rfl ?_
      refine s_aload_n dX_run_6 rfl rfl ?_
      refine s_iload_n dX_run_7 rfl rfl ?_
      refine s_v1 dX_run_8 cv_X_103 (by repeat (first | exact up_self | assumption | rw [up_ne (by first | assumption | (intro q0; cases q0; done) | (intro q0; simp at q0; omega))])) (c_subjNo M0 D.1 hN hz2) (by first | rfl | exact Nat.ble_eq_true_of_le (by omega)) (by first | rfl | exact Nat.ble_eq_true_of_le (by omega)) (by first | rfl | exact Nat.ble_eq_true_of_le (by omega)) rfl ?_
      refine s_astore dX_run_11 rfl ?_
      refine s_aload_n dX_run_13 rfl rfl ?_
      refine s_ifnull dX_run_14 (fun q => by cases q) (fun _ => ?_)
      refine s_aload dX_run_17 rfl ?_
      refine s_ifnonnull dX_run_19 (fun q => by obtain ⟨_, q⟩ := q; cases q) (fun _ => ?_)
      refine s_iconst (v := (-1)) dX_run_22 (by decide) ?_
      refine s_iret dX_run_23 rfl (by first | exact Nat.le_refl _ | decide | omega) (by first | exact Nat.le_refl _ | decide | omega) ?_
      exact ⟨rfl, fT.rf, D⟩
    · rw [q2]
      refine s_aload_n dX_run_0 rfl rfl ?_
      refine s_iload_n dX_run_1 rfl rfl ?_
      refine s_v1 dX_run_2 cv_X_116 (by repeat (first | exact up_self | assumption | rw [up_ne (by first | assumption | (intro q0; cases q0; done) | (intro q0; simp at q0; omega))])) (c_bookAt M0 X.2.1 hB hj) (by first | rfl | exact Nat.ble_eq_true_of_le (by omega)) (by first | rfl | exact Nat.ble_eq_true_of_le (by omega)) (by first | rfl | exact Nat.ble_eq_true_of_le (by omega)) rfl ?_
      refine s_astore_n dX_run_5 rfl rfl ?_
      refine s_aload_n dX_run_6 rfl rfl ?_
      refine s_iload_n dX_run_7 rfl rfl ?_
      refine s_v1 dX_run_8 cv_X_103 (by repeat (first | exact up_self | assumption | rw [up_ne (by first | assumption | (intro q0; cases q0; done) | (intro q0; simp at q0; omega))])) (c_subjAt M0 D.1 hN hi) (by first | rfl | exact Nat.ble_eq_true_of_le (by omega)) (by first | rfl | exact Nat.ble_eq_true_of_le (by omega)) (by first | rfl | exact Nat.ble_eq_true_of_le (by omega)) rfl ?_
      refine s_astore dX_run_11 rfl ?_
      refine s_aload_n dX_run_13 rfl rfl ?_
      refine s_ifnull dX_run_14 (fun q => by cases q) (fun _ => ?_)
      refine s_aload dX_run_17 rfl ?_
      refine s_ifnonnull dX_run_19 (fun _ => ?_) (fun q => by cases q)
      refine s_aload_n dX_run_24 rfl rfl ?_
      refine s_get dX_run_25 gf_X_71 (by repeat (first | exact up_self | assumption | rw [up_ne (by first | assumption | (intro q0; cases q0; done) | (intro q0; simp at q0; omega))])) ?_
      refine s_aload_n dX_run_28 rfl rfl ?_
      refine s_aload dX_run_29 rfl ?_
      refine s_callV (As := [_, _]) dX_run_31 cv_X_198 (by repeat (first | exact up_self | assumption | rw [up_ne (by first | assumption | (intro q0; cases q0; done) | (intro q0; simp at q0; omega))])) (c_answerOf X D hi hj) (by first | rfl | exact Nat.ble_eq_true_of_le (by omega)) (by first | rfl | exact Nat.ble_eq_true_of_le (by omega)) (by first | rfl | exact Nat.ble_eq_true_of_le (by omega)) rfl (fun v0 h2 q0 => ?_)
      obtain ⟨F2, D2, rfl⟩ := q0
      refine s_iret dX_run_34 rfl (by first | exact Nat.le_refl _ | decide | omega) (by first | exact Nat.le_refl _ | decide | omega) ?_
      exact ⟨rfl, F2, D2⟩
theorem c_X_trace {h : Hp} {σ : Sg} {n : Nat} {a v o tb e r0 : Int32} (i w : Int32) (M1 : mnC h a v o tb) (U : uC h e r0) (I : tC h (σ 28) n) (hn : n ≤ 300) : ConF mX_trace 1 [vR (10, 0, 0), vI i, vI w] h (some (vI (fTrace σ i w n))) h := by
  unfold mnC at M1
  have u1 := U.1
  have t0 := I.1
  refine c_enter (by decide +kernel) rfl rfl ?_
  refine s_aload_n dX_trace_0 rfl rfl ?_
  refine s_get dX_trace_1 gf_X_71 (by repeat (first | exact up_self | assumption | rw [up_ne (by first | assumption | (intro q0; cases q0; done) | (intro q0; simp at q0; omega))])) ?_
  refine s_get dX_trace_4 gf_X_202 (by repeat (first | exact up_self | assumption | rw [up_ne (by first | assumption | (intro q0; cases q0; done) | (intro q0; simp at q0; omega))])) ?_
  refine s_iload_n dX_trace_7 rfl rfl ?_
  refine s_iload_n dX_trace_8 rfl rfl ?_
  refine s_v2 dX_trace_9 cv_X_206 (by repeat (first | exact up_self | assumption | rw [up_ne (by first | assumption | (intro q0; cases q0; done) | (intro q0; simp at q0; omega))])) (c_Trc_at i w I hn) (by first | rfl | exact Nat.ble_eq_true_of_le (by omega)) (by first | rfl | exact Nat.ble_eq_true_of_le (by omega)) (by first | rfl | exact Nat.ble_eq_true_of_le (by omega)) rfl ?_
  refine s_iret dX_trace_12 rfl (by first | exact Nat.le_refl _ | decide | omega) (by first | exact Nat.le_refl _ | decide | omega) ?_
  exact ⟨rfl, rfl⟩
theorem c_X_erred {h : Hp} {a v o tb e r0 : Int32} (M1 : mnC h a v o tb) (U : uC h e r0) : ConF mX_erred 0 [vR (10, 0, 0)] h (some (vI e)) h := by
  unfold mnC at M1
  have u1 := U.1
  refine c_enter (by decide +kernel) rfl rfl ?_
  refine s_aload_n dX_erred_0 rfl rfl ?_
  refine s_get dX_erred_1 gf_X_71 (by repeat (first | exact up_self | assumption | rw [up_ne (by first | assumption | (intro q0; cases q0; done) | (intro q0; simp at q0; omega))])) ?_
  refine s_get dX_erred_4 gf_X_212 (by repeat (first | exact up_self | assumption | rw [up_ne (by first | assumption | (intro q0; cases q0; done) | (intro q0; simp at q0; omega))])) ?_
  refine s_iret dX_erred_7 rfl (by first | exact Nat.le_refl _ | decide | omega) (by first | exact Nat.le_refl _ | decide | omega) ?_
  exact ⟨rfl, rfl⟩
/-- a row of stages or parts, in the class -/
def rwC (h : Hp) (σ : Sg) (fld n a : Nat) (nm : Nm) : Prop := ∃ f, h nm = some (20, n, f) ∧ ∀ k, k < n → f k = vI (σ fld (n * a + k))
theorem l_stages {σ : Sg} {own od rw0 : Nat → List Nat} {K N NS B R s a : Nat} {nm : Nm} {Q : Option PV → Hp → Prop} {P : Int32 × Gs} (hs : s < N) (hnm : nm.1 = 33) (hv : ∀ k, k < 6 → σ 34 (6 * a + k) = -4 ∨ ∃ b, b < B ∧ σ 34 (6 * a + k) = nI b) :
    ∀ (n k : Nat) (h : Hp) (g : Gs) (o5 o6 : Option PV), k + n = 6 → ST h σ own od rw0 K N NS B R → DY h σ N g → ge g = 0 → rwC h σ 34 6 a nm → actS σ rw0 s a n k g = P → (∀ h2, FD h h2 → DY h2 σ N P.2 → Q (some (vI P.1)) h2) →
      S mRun_answerOfStages 28 0 0 Q 5 [some (vR (44, 0, 0)), some (vR nm), some (vR (14, s, 0)), some (vI 1), some (vI (nI k)), o5, o6] [] h 0 0 := by
  intro n
  induction n with
  | zero =>
    intro k h g o5 o6 hk1 X D hg W hP kk
    obtain ⟨f, w1, w2⟩ := W
    have ek : k = 6 := by omega
    subst ek hP
    refine s_iload dRun_answerOfStages_5 rfl ?_
    refine s_aload_n dRun_answerOfStages_7 rfl rfl ?_
    refine s_alen dRun_answerOfStages_8 (by repeat (first | exact up_self | assumption | rw [up_ne (by first | assumption | (intro q0; cases q0; done) | (intro q0; simp at q0; omega))])) rfl (by first | exact Or.inl rfl | exact Or.inr (Or.inl rfl)) ?_
    refine s_icmp_ge dRun_answerOfStages_9 (fun _ => ?_) (fun q => absurd (by decide) q)
    refine s_iconst (v := 0) dRun_answerOfStages_114 (by decide) ?_
    refine s_iret dRun_answerOfStages_115 rfl (by first | exact Nat.le_refl _ | decide | omega) (by first | exact Nat.le_refl _ | decide | omega) ?_
    exact kk h fT.rf D
  | succ n ih1 =>
    intro k h g o5 o6 hk1 X D hg W hP kk
    have W0 := W
    obtain ⟨f, w1, w2⟩ := W
    have hk6 : k < 6 := by omega
    have hB := X.2.2.2.2.2.2.2.2.1
    have css := c_size X.2.1.1
    rw [nmL_len] at css
    have u1 := D.2.2.1.1
    obtain ⟨cap, z, fl0, e2, -⟩ := id X.2.1.1
    rw [actS] at hP
    rcases hv k hk6 with e4 | ⟨b, hb, e4⟩
    · rw [if_pos e4] at hP
      refine s_iload dRun_answerOfStages_5 rfl ?_
      refine s_aload_n dRun_answerOfStages_7 rfl rfl ?_
      refine s_alen dRun_answerOfStages_8 (by repeat (first | exact up_self | assumption | rw [up_ne (by first | assumption | (intro q0; cases q0; done) | (intro q0; simp at q0; omega))])) rfl (by first | exact Or.inl rfl | exact Or.inr (Or.inl rfl)) ?_
      refine s_icmp_ge dRun_answerOfStages_9 (fun q => absurd q (nI_ge hk6 (by omega))) (fun _ => ?_)
      refine s_aload_n dRun_answerOfStages_12 rfl rfl ?_
      refine s_iload dRun_answerOfStages_13 rfl ?_
      refine s_ialdN dRun_answerOfStages_15 (by repeat (first | exact up_self | assumption | rw [up_ne (by first | assumption | (intro q0; cases q0; done) | (intro q0; simp at q0; omega))])) (by omega) (by omega) ?_
      refine s_tv ((w2 k hk6).trans (congrArg vI e4)) ?_
      refine s_istore dRun_answerOfStages_16 rfl ?_
      refine s_iload dRun_answerOfStages_18 rfl ?_
      refine s_if_lt dRun_answerOfStages_20 (fun _ => ?_) (fun q => absurd (by decide) q)
      first | refine s_iincN dRun_answerOfStages_108 rfl rfl ?_ | refine s_iinc dRun_answerOfStages_108 rfl rfl ?_
      refine s_goto dRun_answerOfStages_111 ?_
      exact ih1 (k + 1) h g _ _ (by omega) X D hg W0 hP kk
    · rw [if_neg (by rw [e4]; exact nI_m4 (by omega)), show nt (σ 34 (6 * a + k)) = b by rw [e4, nt_nI (by omega)]] at hP
      obtain ⟨d1, -⟩ := X.2.1.2.1 b hb
      refine s_iload dRun_answerOfStages_5 rfl ?_
      refine s_aload_n dRun_answerOfStages_7 rfl rfl ?_
      refine s_alen dRun_answerOfStages_8 (by repeat (first | exact up_self | assumption | rw [up_ne (by first | assumption | (intro q0; cases q0; done) | (intro q0; simp at q0; omega))])) rfl (by first | exact Or.inl rfl | exact Or.inr (Or.inl rfl)) ?_
      refine s_icmp_ge dRun_answerOfStages_9 (fun q => absurd q (nI_ge hk6 (by omega))) (fun _ => ?_)
      refine s_aload_n dRun_answerOfStages_12 rfl rfl ?_
      refine s_iload dRun_answerOfStages_13 rfl ?_
      refine s_ialdN dRun_answerOfStages_15 (by repeat (first | exact up_self | assumption | rw [up_ne (by first | assumption | (intro q0; cases q0; done) | (intro q0; simp at q0; omega))])) (by omega) (by omega) ?_
      refine s_tv ((w2 k hk6).trans (congrArg vI e4)) ?_
      refine s_istore dRun_answerOfStages_16 rfl ?_
      refine s_iload dRun_answerOfStages_18 rfl ?_
      refine s_if_lt dRun_answerOfStages_20 (fun q => absurd q (nI_nlt (b := 0) (by omega) (by omega))) (fun _ => ?_)
      refine s_iload dRun_answerOfStages_23 rfl ?_
      refine s_aload_n dRun_answerOfStages_25 rfl rfl ?_
      refine s_get dRun_answerOfStages_26 gf_Run_28 (by repeat (first | exact up_self | assumption | rw [up_ne (by first | assumption | (intro q0; cases q0; done) | (intro q0; simp at q0; omega))])) ?_
      refine s_v0 dRun_answerOfStages_29 cv_Run_58 (by repeat (first | exact up_self | assumption | rw [up_ne (by first | assumption | (intro q0; cases q0; done) | (intro q0; simp at q0; omega))])) (css) (by first | rfl | exact Nat.ble_eq_true_of_le (by omega)) (by first | rfl | exact Nat.ble_eq_true_of_le (by omega)) (by first | rfl | exact Nat.ble_eq_true_of_le (by omega)) rfl ?_
      refine s_icmp_lt dRun_answerOfStages_32 (fun _ => ?_) (fun q => absurd (nI_lt hb (by omega)) q)
      refine s_iload_n dRun_answerOfStages_38 rfl rfl ?_
      refine s_if_ne dRun_answerOfStages_39 (fun _ => ?_) (fun q => absurd q (by decide))
      refine s_aload_n dRun_answerOfStages_48 rfl rfl ?_
      refine s_aload_n dRun_answerOfStages_49 rfl rfl ?_
      refine s_get dRun_answerOfStages_50 gf_Run_28 (by repeat (first | exact up_self | assumption | rw [up_ne (by first | assumption | (intro q0; cases q0; done) | (intro q0; simp at q0; omega))])) ?_
      refine s_iload dRun_answerOfStages_53 rfl ?_
      refine s_v1 dRun_answerOfStages_55 cv_Run_63 (by repeat (first | exact up_self | assumption | rw [up_ne (by first | assumption | (intro q0; cases q0; done) | (intro q0; simp at q0; omega))])) (c_get X.2.1.1 (nmL_get hb)) (by first | rfl | exact Nat.ble_eq_true_of_le (by omega)) (by first | rfl | exact Nat.ble_eq_true_of_le (by omega)) (by first | rfl | exact Nat.ble_eq_true_of_le (by omega)) rfl ?_
      refine s_cast dRun_answerOfStages_58 (by decide) (nw_Run_53).2.1 (by repeat (first | exact up_self | assumption | rw [up_ne (by first | assumption | (intro q0; cases q0; done) | (intro q0; simp at q0; omega))])) ?_
      refine s_aload_n dRun_answerOfStages_61 rfl rfl ?_
      refine s_iconst (v := 1) dRun_answerOfStages_62 (by decide) ?_
      refine s_callV (As := [_, _, _]) dRun_answerOfStages_63 cv_Run_40 (by repeat (first | exact up_self | assumption | rw [up_ne (by first | assumption | (intro q0; cases q0; done) | (intro q0; simp at q0; omega))])) (c_out hs 5 h g b 1 0 (by omega) (by omega) X D hg hb) (by first | rfl | exact Nat.ble_eq_true_of_le (by omega)) (by first | rfl | exact Nat.ble_eq_true_of_le (by omega)) (by first | rfl | exact Nat.ble_eq_true_of_le (by omega)) rfl (fun v0 h3 q0 => ?_)
      obtain ⟨F3, -, D3, ko, hk, ek, rfl⟩ := q0
      have ce := c_hasErred D3.2.2.1
      have ca := c_errAnswer D3.2.2.1
      have u3 := D3.2.2.1.1
      have W3 : rwC h3 σ 34 6 a nm := ⟨f, (F3 _ (by rw [hnm]; decide)).trans w1, w2⟩
      generalize runS σ rw0 s (5 + 1) 0 b g = F at D3 ek ce ca u3 hP
      by_cases z1 : ge F.1 = 0
      · rw [zi_dec.2 (fun q0 => q0 z1)] at ce
        rw [if_neg (fun q0 => q0 z1)] at hP
        by_cases z2 : ko = 0
        · rw [if_neg (fun q0 => q0.1 (by rw [ek, z2]; rfl))] at hP
          refine s_istore dRun_answerOfStages_66 rfl ?_
          refine s_aload_n dRun_answerOfStages_68 rfl rfl ?_
          refine s_v0 dRun_answerOfStages_69 cv_Run_44 (by repeat (first | exact up_self | assumption | rw [up_ne (by first | assumption | (intro q0; cases q0; done) | (intro q0; simp at q0; omega))])) (ce) (by first | rfl | exact Nat.ble_eq_true_of_le (by omega)) (by first | rfl | exact Nat.ble_eq_true_of_le (by omega)) (by first | rfl | exact Nat.ble_eq_true_of_le (by omega)) rfl ?_
          refine s_if_eq dRun_answerOfStages_72 (fun _ => ?_) (fun q => absurd rfl q)
          refine s_iload dRun_answerOfStages_80 rfl ?_
          refine s_if_le dRun_answerOfStages_82 (fun _ => ?_) (fun q => absurd (by rw [z2]; decide) q)
          first | refine s_iincN dRun_answerOfStages_108 rfl rfl ?_ | refine s_iinc dRun_answerOfStages_108 rfl rfl ?_
          refine s_goto dRun_answerOfStages_111 ?_
          exact ih1 (k + 1) h3 _ _ _ (by omega) (X.mv F3) D3 z1 W3 hP (fun h2 f1 f2 => kk h2 (F3.tr f1) f2)
        · have z3 : F.2 ≠ 0 := by rw [ek]; exact nI_ne (b := 0) z2 (by omega) (by omega)
          have z4 : ¬ nI ko ≤ 0 := Int32.not_le.mpr (nI_lt (a := 0) (by omega) (by omega))
          by_cases c3 : k = 3
          · rw [if_neg (fun q0 => q0.2.1 c3)] at hP
            refine s_istore dRun_answerOfStages_66 rfl ?_
            refine s_aload_n dRun_answerOfStages_68 rfl rfl ?_
            refine s_v0 dRun_answerOfStages_69 cv_Run_44 (by repeat (first | exact up_self | assumption | rw [up_ne (by first | assumption | (intro q0; cases q0; done) | (intro q0; simp at q0; omega))])) (ce) (by first | rfl | exact Nat.ble_eq_true_of_le (by omega)) (by first | rfl | exact Nat.ble_eq_true_of_le (by omega)) (by first | rfl | exact Nat.ble_eq_true_of_le (by omega)) rfl ?_
            refine s_if_eq dRun_answerOfStages_72 (fun _ => ?_) (fun q => absurd rfl q)
            refine s_iload dRun_answerOfStages_80 rfl ?_
            refine s_if_le dRun_answerOfStages_82 (fun q => absurd q z4) (fun _ => ?_)
            refine s_iload dRun_answerOfStages_85 rfl ?_
            refine s_iconst (v := nI 3) dRun_answerOfStages_87 (by decide) ?_
            refine s_icmp_eq dRun_answerOfStages_88 (fun _ => ?_) (fun q => absurd (by rw [c3]) q)
            first | refine s_iincN dRun_answerOfStages_108 rfl rfl ?_ | refine s_iinc dRun_answerOfStages_108 rfl rfl ?_
            refine s_goto dRun_answerOfStages_111 ?_
            exact ih1 (k + 1) h3 _ _ _ (by omega) (X.mv F3) D3 z1 W3 hP (fun h2 f1 f2 => kk h2 (F3.tr f1) f2)
          · by_cases c5 : k = 5
            · rw [if_neg (fun q0 => q0.2.2 c5)] at hP
              refine s_istore dRun_answerOfStages_66 rfl ?_
              refine s_aload_n dRun_answerOfStages_68 rfl rfl ?_
              refine s_v0 dRun_answerOfStages_69 cv_Run_44 (by repeat (first | exact up_self | assumption | rw [up_ne (by first | assumption | (intro q0; cases q0; done) | (intro q0; simp at q0; omega))])) (ce) (by first | rfl | exact Nat.ble_eq_true_of_le (by omega)) (by first | rfl | exact Nat.ble_eq_true_of_le (by omega)) (by first | rfl | exact Nat.ble_eq_true_of_le (by omega)) rfl ?_
              refine s_if_eq dRun_answerOfStages_72 (fun _ => ?_) (fun q => absurd rfl q)
              refine s_iload dRun_answerOfStages_80 rfl ?_
              refine s_if_le dRun_answerOfStages_82 (fun q => absurd q z4) (fun _ => ?_)
              refine s_iload dRun_answerOfStages_85 rfl ?_
              refine s_iconst (v := nI 3) dRun_answerOfStages_87 (by decide) ?_
              refine s_icmp_eq dRun_answerOfStages_88 (fun q => absurd q (nI_ne c3 (by omega) (by omega))) (fun _ => ?_)
              refine s_iload dRun_answerOfStages_91 rfl ?_
              refine s_iconst (v := nI 5) dRun_answerOfStages_93 (by decide) ?_
              refine s_icmp_eq dRun_answerOfStages_94 (fun _ => ?_) (fun q => absurd (by rw [c5]) q)
              first | refine s_iincN dRun_answerOfStages_108 rfl rfl ?_ | refine s_iinc dRun_answerOfStages_108 rfl rfl ?_
              refine s_goto dRun_answerOfStages_111 ?_
              exact ih1 (k + 1) h3 _ _ _ (by omega) (X.mv F3) D3 z1 W3 hP (fun h2 f1 f2 => kk h2 (F3.tr f1) f2)
            · rw [if_pos ⟨z3, c3, c5⟩] at hP
              refine s_istore dRun_answerOfStages_66 rfl ?_
              refine s_aload_n dRun_answerOfStages_68 rfl rfl ?_
              refine s_v0 dRun_answerOfStages_69 cv_Run_44 (by repeat (first | exact up_self | assumption | rw [up_ne (by first | assumption | (intro q0; cases q0; done) | (intro q0; simp at q0; omega))])) (ce) (by first | rfl | exact Nat.ble_eq_true_of_le (by omega)) (by first | rfl | exact Nat.ble_eq_true_of_le (by omega)) (by first | rfl | exact Nat.ble_eq_true_of_le (by omega)) rfl ?_
              refine s_if_eq dRun_answerOfStages_72 (fun _ => ?_) (fun q => absurd rfl q)
              refine s_iload dRun_answerOfStages_80 rfl ?_
              refine s_if_le dRun_answerOfStages_82 (fun q => absurd q z4) (fun _ => ?_)
              refine s_iload dRun_answerOfStages_85 rfl ?_
              refine s_iconst (v := nI 3) dRun_answerOfStages_87 (by decide) ?_
              refine s_icmp_eq dRun_answerOfStages_88 (fun q => absurd q (nI_ne c3 (by omega) (by omega))) (fun _ => ?_)
              refine s_iload dRun_answerOfStages_91 rfl ?_
              refine s_iconst (v := nI 5) dRun_answerOfStages_93 (by decide) ?_
              refine s_icmp_eq dRun_answerOfStages_94 (fun q => absurd q (nI_ne c5 (by omega) (by omega))) (fun _ => ?_)
              refine s_bipush (v := nI 100) dRun_answerOfStages_97 (by decide) ?_
              refine s_iload dRun_answerOfStages_99 rfl ?_
              refine s_iconst (v := nI 1) dRun_answerOfStages_101 (by decide) ?_
              first | refine s_iaddN dRun_answerOfStages_102 ?_ | refine s_iadd dRun_answerOfStages_102 ?_
              first | refine s_imulN dRun_answerOfStages_103 ?_ | refine s_imul dRun_answerOfStages_103 ?_
              refine s_iload dRun_answerOfStages_104 rfl ?_
              first | refine s_iaddN dRun_answerOfStages_106 ?_ | refine s_iadd dRun_answerOfStages_106 ?_
              refine s_iret dRun_answerOfStages_107 rfl (by first | exact Nat.le_refl _ | decide | omega) (by first | exact Nat.le_refl _ | decide | omega) ?_
              have := kk h3 F3 (by rw [← hP]; exact D3)
              rw [← hP] at this
              dsimp only at this
              rw [ek, nI_add] at this
              exact this
      · rw [zi_dec.1 z1] at ce
        rw [if_pos z1] at hP
        refine s_istore dRun_answerOfStages_66 rfl ?_
        refine s_aload_n dRun_answerOfStages_68 rfl rfl ?_
        refine s_v0 dRun_answerOfStages_69 cv_Run_44 (by repeat (first | exact up_self | assumption | rw [up_ne (by first | assumption | (intro q0; cases q0; done) | (intro q0; simp at q0; omega))])) (ce) (by first | rfl | exact Nat.ble_eq_true_of_le (by omega)) (by first | rfl | exact Nat.ble_eq_true_of_le (by omega)) (by first | rfl | exact Nat.ble_eq_true_of_le (by omega)) rfl ?_
        refine s_if_eq dRun_answerOfStages_72 (fun q => absurd q (by decide)) (fun _ => ?_)
        refine s_aload_n dRun_answerOfStages_75 rfl rfl ?_
        refine s_v0 dRun_answerOfStages_76 cv_Run_48 (by repeat (first | exact up_self | assumption | rw [up_ne (by first | assumption | (intro q0; cases q0; done) | (intro q0; simp at q0; omega))])) (ca) (by first | rfl | exact Nat.ble_eq_true_of_le (by omega)) (by first | rfl | exact Nat.ble_eq_true_of_le (by omega)) (by first | rfl | exact Nat.ble_eq_true_of_le (by omega)) rfl ?_
        refine s_iret dRun_answerOfStages_79 rfl (by first | exact Nat.le_refl _ | decide | omega) (by first | exact Nat.le_refl _ | decide | omega) ?_
        have := kk h3 F3 (by rw [← hP]; exact D3)
        rw [← hP] at this
        exact this
theorem l_stagesF {σ : Sg} {own od rw0 : Nat → List Nat} {K N NS B R s a : Nat} {nm : Nm} {Q : Option PV → Hp → Prop} {P : Int32 × Gs} (hs : s < N) (hnm : nm.1 = 33) (hv : ∀ k, k < 6 → σ 34 (6 * a + k) = -4 ∨ ∃ b, b < B ∧ σ 34 (6 * a + k) = nI b) :
    ∀ (n k : Nat) (h : Hp) (g : Gs) (o5 : Option PV), k + n = 6 → ST h σ own od rw0 K N NS B R → DY h σ N g → rwC h σ 34 6 a nm → actF σ rw0 s a n k g = P → (∀ h2, FD h h2 → DY h2 σ N P.2 → Q (some (vI P.1)) h2) →
      S mRun_answerOfStages 28 0 0 Q 5 [some (vR (44, 0, 0)), some (vR nm), some (vR (14, s, 0)), some (vI 0), some (vI (nI k)), o5, none] [] h 0 0 := by
  intro n
  induction n with
  | zero =>
    intro k h g o5 hk1 X D W hP kk
    obtain ⟨f, w1, w2⟩ := W
    have ek : k = 6 := by omega
    subst ek hP
    refine s_iload dRun_answerOfStages_5 rfl ?_
    refine s_aload_n dRun_answerOfStages_7 rfl rfl ?_
    refine s_alen dRun_answerOfStages_8 (by repeat (first | exact up_self | assumption | rw [up_ne (by first | assumption | (intro q0; cases q0; done) | (intro q0; simp at q0; omega))])) rfl (by first | exact Or.inl rfl | exact Or.inr (Or.inl rfl)) ?_
    refine s_icmp_ge dRun_answerOfStages_9 (fun _ => ?_) (fun q => absurd (by decide) q)
    refine s_iconst (v := 0) dRun_answerOfStages_114 (by decide) ?_
    refine s_iret dRun_answerOfStages_115 rfl (by first | exact Nat.le_refl _ | decide | omega) (by first | exact Nat.le_refl _ | decide | omega) ?_
    exact kk h fT.rf D
  | succ n ih1 =>
    intro k h g o5 hk1 X D W hP kk
    have W0 := W
    obtain ⟨f, w1, w2⟩ := W
    have hk6 : k < 6 := by omega
    have hB := X.2.2.2.2.2.2.2.2.1
    have css := c_size X.2.1.1
    rw [nmL_len] at css
    have u1 := D.2.2.1.1
    obtain ⟨cap, z, fl0, e2, -⟩ := id X.2.1.1
    rw [actF] at hP
    rcases hv k hk6 with e4 | ⟨b, hb, e4⟩
    · rw [if_pos e4] at hP
      refine s_iload dRun_answerOfStages_5 rfl ?_
      refine s_aload_n dRun_answerOfStages_7 rfl rfl ?_
      refine s_alen dRun_answerOfStages_8 (by repeat (first | exact up_self | assumption | rw [up_ne (by first | assumption | (intro q0; cases q0; done) | (intro q0; simp at q0; omega))])) rfl (by first | exact Or.inl rfl | exact Or.inr (Or.inl rfl)) ?_
      refine s_icmp_ge dRun_answerOfStages_9 (fun q => absurd q (nI_ge hk6 (by omega))) (fun _ => ?_)
      refine s_aload_n dRun_answerOfStages_12 rfl rfl ?_
      refine s_iload dRun_answerOfStages_13 rfl ?_
      refine s_ialdN dRun_answerOfStages_15 (by repeat (first | exact up_self | assumption | rw [up_ne (by first | assumption | (intro q0; cases q0; done) | (intro q0; simp at q0; omega))])) (by omega) (by omega) ?_
      refine s_tv ((w2 k hk6).trans (congrArg vI e4)) ?_
      refine s_istore dRun_answerOfStages_16 rfl ?_
      refine s_iload dRun_answerOfStages_18 rfl ?_
      refine s_if_lt dRun_answerOfStages_20 (fun _ => ?_) (fun q => absurd (by decide) q)
      first | refine s_iincN dRun_answerOfStages_108 rfl rfl ?_ | refine s_iinc dRun_answerOfStages_108 rfl rfl ?_
      refine s_goto dRun_answerOfStages_111 ?_
      exact ih1 (k + 1) h g _ (by omega) X D W0 hP kk
    · rw [if_neg (by rw [e4]; exact nI_m4 (by omega)), actS, if_neg (by rw [e4]; exact nI_m4 (by omega)), show nt (σ 34 (6 * a + k)) = b by rw [e4, nt_nI (by omega)]] at hP
      obtain ⟨d1, -⟩ := X.2.1.2.1 b hb
      refine s_iload dRun_answerOfStages_5 rfl ?_
      refine s_aload_n dRun_answerOfStages_7 rfl rfl ?_
      refine s_alen dRun_answerOfStages_8 (by repeat (first | exact up_self | assumption | rw [up_ne (by first | assumption | (intro q0; cases q0; done) | (intro q0; simp at q0; omega))])) rfl (by first | exact Or.inl rfl | exact Or.inr (Or.inl rfl)) ?_
      refine s_icmp_ge dRun_answerOfStages_9 (fun q => absurd q (nI_ge hk6 (by omega))) (fun _ => ?_)
      refine s_aload_n dRun_answerOfStages_12 rfl rfl ?_
      refine s_iload dRun_answerOfStages_13 rfl ?_
      refine s_ialdN dRun_answerOfStages_15 (by repeat (first | exact up_self | assumption | rw [up_ne (by first | assumption | (intro q0; cases q0; done) | (intro q0; simp at q0; omega))])) (by omega) (by omega) ?_
      refine s_tv ((w2 k hk6).trans (congrArg vI e4)) ?_
      refine s_istore dRun_answerOfStages_16 rfl ?_
      refine s_iload dRun_answerOfStages_18 rfl ?_
      refine s_if_lt dRun_answerOfStages_20 (fun q => absurd q (nI_nlt (b := 0) (by omega) (by omega))) (fun _ => ?_)
      refine s_iload dRun_answerOfStages_23 rfl ?_
      refine s_aload_n dRun_answerOfStages_25 rfl rfl ?_
      refine s_get dRun_answerOfStages_26 gf_Run_28 (by repeat (first | exact up_self | assumption | rw [up_ne (by first | assumption | (intro q0; cases q0; done) | (intro q0; simp at q0; omega))])) ?_
      refine s_v0 dRun_answerOfStages_29 cv_Run_58 (by repeat (first | exact up_self | assumption | rw [up_ne (by first | assumption | (intro q0; cases q0; done) | (intro q0; simp at q0; omega))])) (css) (by first | rfl | exact Nat.ble_eq_true_of_le (by omega)) (by first | rfl | exact Nat.ble_eq_true_of_le (by omega)) (by first | rfl | exact Nat.ble_eq_true_of_le (by omega)) rfl ?_
      refine s_icmp_lt dRun_answerOfStages_32 (fun _ => ?_) (fun q => absurd (nI_lt hb (by omega)) q)
      refine s_iload_n dRun_answerOfStages_38 rfl rfl ?_
      refine s_if_ne dRun_answerOfStages_39 (fun q => absurd rfl q) (fun _ => ?_)
      refine s_aload_n dRun_answerOfStages_42 rfl rfl ?_
      refine s_callV (As := []) dRun_answerOfStages_43 cv_Run_37 (by repeat (first | exact up_self | assumption | rw [up_ne (by first | assumption | (intro q0; cases q0; done) | (intro q0; simp at q0; omega))])) (c_startCall D) (by first | rfl | exact Nat.ble_eq_true_of_le (by omega)) (by first | rfl | exact Nat.ble_eq_true_of_le (by omega)) (by first | rfl | exact Nat.ble_eq_true_of_le (by omega)) rfl (fun v0 h2 q0 => ?_)
      obtain ⟨rfl, F2, D2⟩ := q0
      have X2 := X.mv F2
      have u2 := D2.2.2.1.1
      obtain ⟨cap2, z2, fl2, e22, -⟩ := id X2.2.1.1
      obtain ⟨d12, -⟩ := X2.2.1.2.1 b hb
      refine s_iconst (v := 1) dRun_answerOfStages_46 (by decide) ?_
      refine s_istore_n dRun_answerOfStages_47 rfl rfl ?_
      refine s_aload_n dRun_answerOfStages_48 rfl rfl ?_
      refine s_aload_n dRun_answerOfStages_49 rfl rfl ?_
      refine s_get dRun_answerOfStages_50 gf_Run_28 (by repeat (first | exact up_self | assumption | rw [up_ne (by first | assumption | (intro q0; cases q0; done) | (intro q0; simp at q0; omega))])) ?_
      refine s_iload dRun_answerOfStages_53 rfl ?_
      refine s_v1 dRun_answerOfStages_55 cv_Run_63 (by repeat (first | exact up_self | assumption | rw [up_ne (by first | assumption | (intro q0; cases q0; done) | (intro q0; simp at q0; omega))])) (c_get X2.2.1.1 (nmL_get hb)) (by first | rfl | exact Nat.ble_eq_true_of_le (by omega)) (by first | rfl | exact Nat.ble_eq_true_of_le (by omega)) (by first | rfl | exact Nat.ble_eq_true_of_le (by omega)) rfl ?_
      refine s_cast dRun_answerOfStages_58 (by decide) (nw_Run_53).2.1 (by repeat (first | exact up_self | assumption | rw [up_ne (by first | assumption | (intro q0; cases q0; done) | (intro q0; simp at q0; omega))])) ?_
      refine s_aload_n dRun_answerOfStages_61 rfl rfl ?_
      refine s_iconst (v := 1) dRun_answerOfStages_62 (by decide) ?_
      refine s_callV (As := [_, _, _]) dRun_answerOfStages_63 cv_Run_40 (by repeat (first | exact up_self | assumption | rw [up_ne (by first | assumption | (intro q0; cases q0; done) | (intro q0; simp at q0; omega))])) (c_out hs 5 h2 (gf g) b 1 0 (by omega) (by omega) X2 D2 rfl hb) (by first | rfl | exact Nat.ble_eq_true_of_le (by omega)) (by first | rfl | exact Nat.ble_eq_true_of_le (by omega)) (by first | rfl | exact Nat.ble_eq_true_of_le (by omega)) rfl (fun v0 h3 q0 => ?_)
      obtain ⟨F3, -, D3, ko, hk, ek, rfl⟩ := q0
      have ce := c_hasErred D3.2.2.1
      have ca := c_errAnswer D3.2.2.1
      have u3 := D3.2.2.1.1
      have F23 := F2.tr F3
      have W3 : rwC h3 σ 34 6 a nm := ⟨f, (F23 _ (by rw [hnm]; decide)).trans w1, w2⟩
      have LL := l_stages (K := K) (NS := NS) (R := R) (own := own) (od := od) (rw0 := rw0) (nm := nm) (a := a) (Q := Q) (P := P) hs hnm hv n (k + 1) h3
      generalize runS σ rw0 s (5 + 1) 0 b (gf g) = F at D3 ek ce ca u3 hP
      by_cases z1 : ge F.1 = 0
      · rw [zi_dec.2 (fun q0 => q0 z1)] at ce
        rw [if_neg (fun q0 => q0 z1)] at hP
        by_cases z2 : ko = 0
        · rw [if_neg (fun q0 => q0.1 (by rw [ek, z2]; rfl))] at hP
          refine s_istore dRun_answerOfStages_66 rfl ?_
          refine s_aload_n dRun_answerOfStages_68 rfl rfl ?_
          refine s_v0 dRun_answerOfStages_69 cv_Run_44 (by repeat (first | exact up_self | assumption | rw [up_ne (by first | assumption | (intro q0; cases q0; done) | (intro q0; simp at q0; omega))])) (ce) (by first | rfl | exact Nat.ble_eq_true_of_le (by omega)) (by first | rfl | exact Nat.ble_eq_true_of_le (by omega)) (by first | rfl | exact Nat.ble_eq_true_of_le (by omega)) rfl ?_
          refine s_if_eq dRun_answerOfStages_72 (fun _ => ?_) (fun q => absurd rfl q)
          refine s_iload dRun_answerOfStages_80 rfl ?_
          refine s_if_le dRun_answerOfStages_82 (fun _ => ?_) (fun q => absurd (by rw [z2]; decide) q)
          first | refine s_iincN dRun_answerOfStages_108 rfl rfl ?_ | refine s_iinc dRun_answerOfStages_108 rfl rfl ?_
          refine s_goto dRun_answerOfStages_111 ?_
          exact LL _ _ _ (by omega) (X.mv F23) D3 z1 W3 hP (fun h2 f1 f2 => kk h2 (F23.tr f1) f2)
        · have z3 : F.2 ≠ 0 := by rw [ek]; exact nI_ne (b := 0) z2 (by omega) (by omega)
          have z4 : ¬ nI ko ≤ 0 := Int32.not_le.mpr (nI_lt (a := 0) (by omega) (by omega))
          by_cases c3 : k = 3
          · rw [if_neg (fun q0 => q0.2.1 c3)] at hP
            refine s_istore dRun_answerOfStages_66 rfl ?_
            refine s_aload_n dRun_answerOfStages_68 rfl rfl ?_
            refine s_v0 dRun_answerOfStages_69 cv_Run_44 (by repeat (first | exact up_self | assumption | rw [up_ne (by first | assumption | (intro q0; cases q0; done) | (intro q0; simp at q0; omega))])) (ce) (by first | rfl | exact Nat.ble_eq_true_of_le (by omega)) (by first | rfl | exact Nat.ble_eq_true_of_le (by omega)) (by first | rfl | exact Nat.ble_eq_true_of_le (by omega)) rfl ?_
            refine s_if_eq dRun_answerOfStages_72 (fun _ => ?_) (fun q => absurd rfl q)
            refine s_iload dRun_answerOfStages_80 rfl ?_
            refine s_if_le dRun_answerOfStages_82 (fun q => absurd q z4) (fun _ => ?_)
            refine s_iload dRun_answerOfStages_85 rfl ?_
            refine s_iconst (v := nI 3) dRun_answerOfStages_87 (by decide) ?_
            refine s_icmp_eq dRun_answerOfStages_88 (fun _ => ?_) (fun q => absurd (by rw [c3]) q)
            first | refine s_iincN dRun_answerOfStages_108 rfl rfl ?_ | refine s_iinc dRun_answerOfStages_108 rfl rfl ?_
            refine s_goto dRun_answerOfStages_111 ?_
            exact LL _ _ _ (by omega) (X.mv F23) D3 z1 W3 hP (fun h2 f1 f2 => kk h2 (F23.tr f1) f2)
          · by_cases c5 : k = 5
            · rw [if_neg (fun q0 => q0.2.2 c5)] at hP
              refine s_istore dRun_answerOfStages_66 rfl ?_
              refine s_aload_n dRun_answerOfStages_68 rfl rfl ?_
              refine s_v0 dRun_answerOfStages_69 cv_Run_44 (by repeat (first | exact up_self | assumption | rw [up_ne (by first | assumption | (intro q0; cases q0; done) | (intro q0; simp at q0; omega))])) (ce) (by first | rfl | exact Nat.ble_eq_true_of_le (by omega)) (by first | rfl | exact Nat.ble_eq_true_of_le (by omega)) (by first | rfl | exact Nat.ble_eq_true_of_le (by omega)) rfl ?_
              refine s_if_eq dRun_answerOfStages_72 (fun _ => ?_) (fun q => absurd rfl q)
              refine s_iload dRun_answerOfStages_80 rfl ?_
              refine s_if_le dRun_answerOfStages_82 (fun q => absurd q z4) (fun _ => ?_)
              refine s_iload dRun_answerOfStages_85 rfl ?_
              refine s_iconst (v := nI 3) dRun_answerOfStages_87 (by decide) ?_
              refine s_icmp_eq dRun_answerOfStages_88 (fun q => absurd q (nI_ne c3 (by omega) (by omega))) (fun _ => ?_)
              refine s_iload dRun_answerOfStages_91 rfl ?_
              refine s_iconst (v := nI 5) dRun_answerOfStages_93 (by decide) ?_
              refine s_icmp_eq dRun_answerOfStages_94 (fun _ => ?_) (fun q => absurd (by rw [c5]) q)
              first | refine s_iincN dRun_answerOfStages_108 rfl rfl ?_ | refine s_iinc dRun_answerOfStages_108 rfl rfl ?_
              refine s_goto dRun_answerOfStages_111 ?_
              exact LL _ _ _ (by omega) (X.mv F23) D3 z1 W3 hP (fun h2 f1 f2 => kk h2 (F23.tr f1) f2)
            · rw [if_pos ⟨z3, c3, c5⟩] at hP
              refine s_istore dRun_answerOfStages_66 rfl ?_
              refine s_aload_n dRun_answerOfStages_68 rfl rfl ?_
              refine s_v0 dRun_answerOfStages_69 cv_Run_44 (by repeat (first | exact up_self | assumption | rw [up_ne (by first | assumption | (intro q0; cases q0; done) | (intro q0; simp at q0; omega))])) (ce) (by first | rfl | exact Nat.ble_eq_true_of_le (by omega)) (by first | rfl | exact Nat.ble_eq_true_of_le (by omega)) (by first | rfl | exact Nat.ble_eq_true_of_le (by omega)) rfl ?_
              refine s_if_eq dRun_answerOfStages_72 (fun _ => ?_) (fun q => absurd rfl q)
              refine s_iload dRun_answerOfStages_80 rfl ?_
              refine s_if_le dRun_answerOfStages_82 (fun q => absurd q z4) (fun _ => ?_)
              refine s_iload dRun_answerOfStages_85 rfl ?_
              refine s_iconst (v := nI 3) dRun_answerOfStages_87 (by decide) ?_
              refine s_icmp_eq dRun_answerOfStages_88 (fun q => absurd q (nI_ne c3 (by omega) (by omega))) (fun _ => ?_)
              refine s_iload dRun_answerOfStages_91 rfl ?_
              refine s_iconst (v := nI 5) dRun_answerOfStages_93 (by decide) ?_
              refine s_icmp_eq dRun_answerOfStages_94 (fun q => absurd q (nI_ne c5 (by omega) (by omega))) (fun _ => ?_)
              refine s_bipush (v := nI 100) dRun_answerOfStages_97 (by decide) ?_
              refine s_iload dRun_answerOfStages_99 rfl ?_
              refine s_iconst (v := nI 1) dRun_answerOfStages_101 (by decide) ?_
              first | refine s_iaddN dRun_answerOfStages_102 ?_ | refine s_iadd dRun_answerOfStages_102 ?_
              first | refine s_imulN dRun_answerOfStages_103 ?_ | refine s_imul dRun_answerOfStages_103 ?_
              refine s_iload dRun_answerOfStages_104 rfl ?_
              first | refine s_iaddN dRun_answerOfStages_106 ?_ | refine s_iadd dRun_answerOfStages_106 ?_
              refine s_iret dRun_answerOfStages_107 rfl (by first | exact Nat.le_refl _ | decide | omega) (by first | exact Nat.le_refl _ | decide | omega) ?_
              have := kk h3 F23 (by rw [← hP]; exact D3)
              rw [← hP] at this
              dsimp only at this
              rw [ek, nI_add] at this
              exact this
      · rw [zi_dec.1 z1] at ce
        rw [if_pos z1] at hP
        refine s_istore dRun_answerOfStages_66 rfl ?_
        refine s_aload_n dRun_answerOfStages_68 rfl rfl ?_
        refine s_v0 dRun_answerOfStages_69 cv_Run_44 (by repeat (first | exact up_self | assumption | rw [up_ne (by first | assumption | (intro q0; cases q0; done) | (intro q0; simp at q0; omega))])) (ce) (by first | rfl | exact Nat.ble_eq_true_of_le (by omega)) (by first | rfl | exact Nat.ble_eq_true_of_le (by omega)) (by first | rfl | exact Nat.ble_eq_true_of_le (by omega)) rfl ?_
        refine s_if_eq dRun_answerOfStages_72 (fun q => absurd q (by decide)) (fun _ => ?_)
        refine s_aload_n dRun_answerOfStages_75 rfl rfl ?_
        refine s_v0 dRun_answerOfStages_76 cv_Run_48 (by repeat (first | exact up_self | assumption | rw [up_ne (by first | assumption | (intro q0; cases q0; done) | (intro q0; simp at q0; omega))])) (ca) (by first | rfl | exact Nat.ble_eq_true_of_le (by omega)) (by first | rfl | exact Nat.ble_eq_true_of_le (by omega)) (by first | rfl | exact Nat.ble_eq_true_of_le (by omega)) rfl ?_
        refine s_iret dRun_answerOfStages_79 rfl (by first | exact Nat.le_refl _ | decide | omega) (by first | exact Nat.le_refl _ | decide | omega) ?_
        have := kk h3 F23 (by rw [← hP]; exact D3)
        rw [← hP] at this
        exact this
theorem c_stages {h : Hp} {σ : Sg} {own od rw0 : Nat → List Nat} {K N NS B R s a : Nat} {g : Gs} {nm : Nm} (X : ST h σ own od rw0 K N NS B R) (D : DY h σ N g) (hs : s < N) (hnm : nm.1 = 33) (hv : ∀ k, k < 6 → σ 34 (6 * a + k) = -4 ∨ ∃ b, b < B ∧ σ 34 (6 * a + k) = nI b) (W : rwC h σ 34 6 a nm) :
    Con mRun_answerOfStages 28 0 0 [vR (44, 0, 0), vR nm, vR (14, s, 0)] h (fun v h' => v = some (vI (actF σ rw0 s a 6 0 g).1) ∧ FD h h' ∧ DY h' σ N (actF σ rw0 s a 6 0 g).2) := by
  refine c_enter (by decide +kernel) rfl rfl ?_
  refine s_iconst (v := 0) dRun_answerOfStages_0 (by decide) ?_
  refine s_istore_n dRun_answerOfStages_1 rfl rfl ?_
  refine s_iconst (v := 0) dRun_answerOfStages_2 (by decide) ?_
  refine s_istore dRun_answerOfStages_3 rfl ?_
  exact l_stagesF hs hnm hv 6 0 h g none (by omega) X D W rfl (fun h2 f1 f2 => ⟨rfl, f1, f2⟩)
def aC (h : Hp) (σ : Sg) (A : Nat) : Prop := ∃ f c, h (32, 0, 0) = some (23, 8, f) ∧ (∀ i, c ≤ i → h (33, i, 0) = none) ∧ 8 ≤ c ∧ ∀ a, a < 8 → f a = vR (33, a, 0) ∧ ∃ g, h (33, a, 0) = some (20, 6, g) ∧ (a < A → ∀ k, k < 6 → g k = vI (σ 34 (6 * a + k)))
theorem aC.at {h : Hp} {σ : Sg} {A : Nat} (I : aC h σ A) (hA : A ≤ 8) : ∃ f, h (32, 0, 0) = some (23, 8, f) ∧ ∀ a, a < A → ∃ j, f a = vR (33, j, 0) ∧ rwC h σ 34 6 a (33, j, 0) := by
  obtain ⟨f, c, e1, -, -, e3⟩ := I
  refine ⟨f, e1, fun a q1 => ?_⟩
  obtain ⟨a1, g, a2, a3⟩ := e3 a (by omega)
  exact ⟨a, a1, g, a2, a3 q1⟩
def vC (h : Hp) (σ : Sg) (A : Nat) : Prop := ∃ f c, h (35, 0, 0) = some (23, 6, f) ∧ (∀ i, c ≤ i → h (36, i, 0) = none) ∧ 6 ≤ c ∧ ∀ a, a < 6 → f a = vR (36, a, 0) ∧ ∃ g, h (36, a, 0) = some (20, 3, g) ∧ (a < A → ∀ k, k < 3 → g k = vI (σ 36 (3 * a + k)))
theorem vC.at {h : Hp} {σ : Sg} {A : Nat} (I : vC h σ A) (hA : A ≤ 6) : ∃ f, h (35, 0, 0) = some (23, 6, f) ∧ ∀ a, a < A → ∃ j, f a = vR (36, j, 0) ∧ rwC h σ 36 3 a (36, j, 0) := by
  obtain ⟨f, c, e1, -, -, e3⟩ := I
  refine ⟨f, e1, fun a q1 => ?_⟩
  obtain ⟨a1, g, a2, a3⟩ := e3 a (by omega)
  exact ⟨a, a1, g, a2, a3 q1⟩
def pC (h : Hp) (σ : Sg) (O : Nat) : Prop := ∃ f g, h (37, 0, 0) = some (20, 4, f) ∧ h (37, 1, 0) = some (20, 4, g) ∧ ∀ i, i < O → f i = vI (σ 38 i) ∧ g i = vI (σ 39 i)
theorem aC.fr {h h' : Hp} {σ σ' : Sg} {A : Nat} (I : aC h σ A) (h1 : agT 32 33 h h') (h2 : ∀ j, σ' 34 j = σ 34 j) : aC h' σ' A := by
  obtain ⟨f, c, e1, e2, e0, e3⟩ := I
  refine ⟨f, c, (h1.g 32 0 0).trans e1, fun i q1 => (h1.g 33 i 0).trans (e2 i q1), e0, fun a q1 => ?_⟩
  obtain ⟨a1, g, a2, a3⟩ := e3 a q1
  exact ⟨a1, g, (h1.g 33 a 0).trans a2, fun q3 k q2 => by rw [h2]; exact a3 q3 k q2⟩
theorem vC.fr {h h' : Hp} {σ σ' : Sg} {A : Nat} (I : vC h σ A) (h1 : agT 35 36 h h') (h2 : ∀ j, σ' 36 j = σ 36 j) : vC h' σ' A := by
  obtain ⟨f, c, e1, e2, e0, e3⟩ := I
  refine ⟨f, c, (h1.g 35 0 0).trans e1, fun i q1 => (h1.g 36 i 0).trans (e2 i q1), e0, fun a q1 => ?_⟩
  obtain ⟨a1, g, a2, a3⟩ := e3 a q1
  exact ⟨a1, g, (h1.g 36 a 0).trans a2, fun q3 k q2 => by rw [h2]; exact a3 q3 k q2⟩
theorem pC.fr {h h' : Hp} {σ σ' : Sg} {O : Nat} (I : pC h σ O) (h1 : agT 37 37 h h') (h2 : ∀ j, σ' 38 j = σ 38 j) (h3 : ∀ j, σ' 39 j = σ 39 j) : pC h' σ' O := by
  obtain ⟨f, g, e1, e2, e3⟩ := I
  exact ⟨f, g, (h1.g 37 0 0).trans e1, (h1.g 37 1 0).trans e2, fun i q1 => by rw [h2, h3]; exact e3 i q1⟩
theorem c_X_act {h : Hp} {σ : Sg} {own od rw0 : Nat → List Nat} {K N NS B R A : Nat} {g : Gs} {v o tb : Int32} (p s : Int32) (M1 : mnC h (nI A) v o tb) (X : ST h σ own od rw0 K N NS B R) (D : DY h σ N g) (IA : aC h σ A) (V : SP σ A B) :
    Con mX_act 29 0 0 [vR (10, 0, 0), vI p, vI s] h (fun v h' => v = some (vI (fAct σ rw0 p s A N g).1) ∧ FD h h' ∧ DY h' σ N (fAct σ rw0 p s A N g).2) := by
  have M0 := M1
  unfold mnC at M1
  have hN := X.2.2.2.2.2.1.1
  have hA := V.1
  have u1 := D.2.2.1.1
  obtain ⟨f, e1, e3⟩ := IA.at hA
  unfold fAct
  refine c_enter (by decide +kernel) rfl rfl ?_
  rcases iy_cases s (K := N) (by omega) with ⟨q2, hz2⟩ | ⟨i, hi, rfl, q2⟩
  · rcases iy_cases p (K := A) (by omega) with ⟨q1, hz1⟩ | ⟨j, hj, rfl, q1⟩
    · rw [q1]
      rcases hz1 with ⟨z1, -⟩ | ⟨-, hn1⟩
      · cases z1
      · by_cases c1 : p < 0
        · refine s_aload_n dX_act_0 rfl rfl ?_
          refine s_iload_n dX_act_1 rfl rfl ?_
          refine s_v1 dX_act_2 cv_X_103 (by repeat (first | exact up_self | assumption | rw [up_ne (by first | assumption | (intro q0; cases q0; done) | (intro q0; simp at q0; omega))])) (c_subjNo M0 D.1 hN hz2) (by first | rfl | exact Nat.ble_eq_true_of_le (by omega)) (by first | rfl | exact Nat.ble_eq_true_of_le (by omega)) (by first | rfl | exact Nat.ble_eq_true_of_le (by omega)) rfl ?_
          refine s_astore_n dX_act_5 rfl rfl ?_
          refine s_iload_n dX_act_6 rfl rfl ?_
          refine s_if_lt dX_act_7 (fun _ => ?_) (fun q => absurd c1 q)
          refine s_iconst (v := (-1)) dX_act_22 (by decide) ?_
          refine s_iret dX_act_23 rfl (by first | exact Nat.le_refl _ | decide | omega) (by first | exact Nat.le_refl _ | decide | omega) ?_
          exact ⟨rfl, fT.rf, D⟩
        · refine s_aload_n dX_act_0 rfl rfl ?_
          refine s_iload_n dX_act_1 rfl rfl ?_
          refine s_v1 dX_act_2 cv_X_103 (by repeat (first | exact up_self | assumption | rw [up_ne (by first | assumption | (intro q0; cases q0; done) | (intro q0; simp at q0; omega))])) (c_subjNo M0 D.1 hN hz2) (by first | rfl | exact Nat.ble_eq_true_of_le (by omega)) (by first | rfl | exact Nat.ble_eq_true_of_le (by omega)) (by first | rfl | exact Nat.ble_eq_true_of_le (by omega)) rfl ?_
          refine s_astore_n dX_act_5 rfl rfl ?_
          refine s_iload_n dX_act_6 rfl rfl ?_
          refine s_if_lt dX_act_7 (fun q => absurd q c1) (fun _ => ?_)
          refine s_iload_n dX_act_10 rfl rfl ?_
          refine s_aload_n dX_act_11 rfl rfl ?_
          refine s_get dX_act_12 gf_X_219 (by repeat (first | exact up_self | assumption | rw [up_ne (by first | assumption | (intro q0; cases q0; done) | (intro q0; simp at q0; omega))])) ?_
          refine s_icmp_ge dX_act_15 (fun _ => ?_) (fun q => absurd (Int32.not_lt.mp fun z1 => hn1 ⟨Int32.not_lt.mp c1, z1⟩) q)
          refine s_iconst (v := (-1)) dX_act_22 (by decide) ?_
          refine s_iret dX_act_23 rfl (by first | exact Nat.le_refl _ | decide | omega) (by first | exact Nat.le_refl _ | decide | omega) ?_
          exact ⟨rfl, fT.rf, D⟩
    · rw [q1, q2]
      refine s_aload_n dX_act_0 rfl rfl ?_
      refine s_iload_n dX_act_1 rfl rfl ?_
      refine s_v1 dX_act_2 cv_X_103 (by repeat (first | exact up_self | assumption | rw [up_ne (by first | assumption | (intro q0; cases q0; done) | (intro q0; simp at q0; omega))])) (c_subjNo M0 D.1 hN hz2) (by first | rfl | exact Nat.ble_eq_true_of_le (by omega)) (by first | rfl | exact Nat.ble_eq_true_of_le (by omega)) (by first | rfl | exact Nat.ble_eq_true_of_le (by omega)) rfl ?_
      refine s_astore_n dX_act_5 rfl rfl ?_
      refine s_iload_n dX_act_6 rfl rfl ?_
      refine s_if_lt dX_act_7 (fun q => absurd q (nI_nlt (b := 0) (by omega) (by omega))) (fun _ => ?_)
      refine s_iload_n dX_act_10 rfl rfl ?_
      refine s_aload_n dX_act_11 rfl rfl ?_
      refine s_get dX_act_12 gf_X_219 (by repeat (first | exact up_self | assumption | rw [up_ne (by first | assumption | (intro q0; cases q0; done) | (intro q0; simp at q0; omega))])) ?_
      refine s_icmp_ge dX_act_15 (fun q => absurd q (nI_ge hj (by omega))) (fun _ => ?_)
      refine s_aload_n dX_act_18 rfl rfl ?_
      refine s_ifnonnull dX_act_19 (fun q => by obtain ⟨_, q⟩ := q; cases q) (fun _ => ?_)
      refine s_iconst (v := (-1)) dX_act_22 (by decide) ?_
      refine s_iret dX_act_23 rfl (by first | exact Nat.le_refl _ | decide | omega) (by first | exact Nat.le_refl _ | decide | omega) ?_
      exact ⟨rfl, fT.rf, D⟩
  · rcases iy_cases p (K := A) (by omega) with ⟨q1, hz1⟩ | ⟨j, hj, rfl, q1⟩
    · rw [q1]
      rcases hz1 with ⟨z1, -⟩ | ⟨-, hn1⟩
      · cases z1
      · by_cases c1 : p < 0
        · refine s_aload_n dX_act_0 rfl rfl ?_
          refine s_iload_n dX_act_1 rfl rfl ?_
          refine s_v1 dX_act_2 cv_X_103 (by repeat (first | exact up_self | assumption | rw [up_ne (by first | assumption | (intro q0; cases q0; done) | (intro q0; simp at q0; omega))])) (c_subjAt M0 D.1 hN hi) (by first | rfl | exact Nat.ble_eq_true_of_le (by omega)) (by first | rfl | exact Nat.ble_eq_true_of_le (by omega)) (by first | rfl | exact Nat.ble_eq_true_of_le (by omega)) rfl ?_
          refine s_astore_n dX_act_5 rfl rfl ?_
          refine s_iload_n dX_act_6 rfl rfl ?_
          refine s_if_lt dX_act_7 (fun _ => ?_) (fun q => absurd c1 q)
          refine s_iconst (v := (-1)) dX_act_22 (by decide) ?_
          refine s_iret dX_act_23 rfl (by first | exact Nat.le_refl _ | decide | omega) (by first | exact Nat.le_refl _ | decide | omega) ?_
          exact ⟨rfl, fT.rf, D⟩
        · refine s_aload_n dX_act_0 rfl rfl ?_
          refine s_iload_n dX_act_1 rfl rfl ?_
          refine s_v1 dX_act_2 cv_X_103 (by repeat (first | exact up_self | assumption | rw [up_ne (by first | assumption | (intro q0; cases q0; done) | (intro q0; simp at q0; omega))])) (c_subjAt M0 D.1 hN hi) (by first | rfl | exact Nat.ble_eq_true_of_le (by omega)) (by first | rfl | exact Nat.ble_eq_true_of_le (by omega)) (by first | rfl | exact Nat.ble_eq_true_of_le (by omega)) rfl ?_
          refine s_astore_n dX_act_5 rfl rfl ?_
          refine s_iload_n dX_act_6 rfl rfl ?_
          refine s_if_lt dX_act_7 (fun q => absurd q c1) (fun _ => ?_)
          refine s_iload_n dX_act_10 rfl rfl ?_
          refine s_aload_n dX_act_11 rfl rfl ?_
          refine s_get dX_act_12 gf_X_219 (by repeat (first | exact up_self | assumption | rw [up_ne (by first | assumption | (intro q0; cases q0; done) | (intro q0; simp at q0; omega))])) ?_
          refine s_icmp_ge dX_act_15 (fun _ => ?_) (fun q => absurd (Int32.not_lt.mp fun z1 => hn1 ⟨Int32.not_lt.mp c1, z1⟩) q)
          refine s_iconst (v := (-1)) dX_act_22 (by decide) ?_
          refine s_iret dX_act_23 rfl (by first | exact Nat.le_refl _ | decide | omega) (by first | exact Nat.le_refl _ | decide | omega) ?_
          exact ⟨rfl, fT.rf, D⟩
    · rw [q1, q2]
      obtain ⟨m, a1, a2⟩ := e3 j hj
      refine s_aload_n dX_act_0 rfl rfl ?_
      refine s_iload_n dX_act_1 rfl rfl ?_
      refine s_v1 dX_act_2 cv_X_103 (by repeat (first | exact up_self | assumption | rw [up_ne (by first | assumption | (intro q0; cases q0; done) | (intro q0; simp at q0; omega))])) (c_subjAt M0 D.1 hN hi) (by first | rfl | exact Nat.ble_eq_true_of_le (by omega)) (by first | rfl | exact Nat.ble_eq_true_of_le (by omega)) (by first | rfl | exact Nat.ble_eq_true_of_le (by omega)) rfl ?_
      refine s_astore_n dX_act_5 rfl rfl ?_
      refine s_iload_n dX_act_6 rfl rfl ?_
      refine s_if_lt dX_act_7 (fun q => absurd q (nI_nlt (b := 0) (by omega) (by omega))) (fun _ => ?_)
      refine s_iload_n dX_act_10 rfl rfl ?_
      refine s_aload_n dX_act_11 rfl rfl ?_
      refine s_get dX_act_12 gf_X_219 (by repeat (first | exact up_self | assumption | rw [up_ne (by first | assumption | (intro q0; cases q0; done) | (intro q0; simp at q0; omega))])) ?_
      refine s_icmp_ge dX_act_15 (fun q => absurd q (nI_ge hj (by omega))) (fun _ => ?_)
      refine s_aload_n dX_act_18 rfl rfl ?_
      refine s_ifnonnull dX_act_19 (fun _ => ?_) (fun q => by cases q)
      refine s_aload_n dX_act_24 rfl rfl ?_
      refine s_get dX_act_25 gf_X_71 (by repeat (first | exact up_self | assumption | rw [up_ne (by first | assumption | (intro q0; cases q0; done) | (intro q0; simp at q0; omega))])) ?_
      refine s_aload_n dX_act_28 rfl rfl ?_
      refine s_get dX_act_29 gf_X_31 (by repeat (first | exact up_self | assumption | rw [up_ne (by first | assumption | (intro q0; cases q0; done) | (intro q0; simp at q0; omega))])) ?_
      refine s_iload_n dX_act_32 rfl rfl ?_
      refine s_aaldN dX_act_33 (by repeat (first | exact up_self | assumption | rw [up_ne (by first | assumption | (intro q0; cases q0; done) | (intro q0; simp at q0; omega))])) rfl rfl (by omega) (by omega) ?_
      refine s_tv a1 ?_
      refine s_aload_n dX_act_34 rfl rfl ?_
      refine s_callV (As := [_, _]) dX_act_35 cv_X_228 (by repeat (first | exact up_self | assumption | rw [up_ne (by first | assumption | (intro q0; cases q0; done) | (intro q0; simp at q0; omega))])) (c_stages (a := j) X D hi rfl (fun k q3 => V.2 j k hj q3) a2) (by first | rfl | exact Nat.ble_eq_true_of_le (by omega)) (by first | rfl | exact Nat.ble_eq_true_of_le (by omega)) (by first | rfl | exact Nat.ble_eq_true_of_le (by omega)) rfl (fun v0 h2 q0 => ?_)
      obtain ⟨rfl, F2, D2⟩ := q0
      refine s_iret dX_act_38 rfl (by first | exact Nat.le_refl _ | decide | omega) (by first | exact Nat.le_refl _ | decide | omega) ?_
      exact ⟨rfl, F2, D2⟩
