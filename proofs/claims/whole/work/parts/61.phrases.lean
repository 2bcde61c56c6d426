/-! turn -/
theorem ST.sq {h h2 : Hp} {σ τ : Sg} {own od rw0 : Nat → List Nat} {K N NS B R : Nat} (X : ST h σ own od rw0 K N NS B R) (F : fT [38, 41] h h2) (c1 : sq σ τ) (I : nC h2 τ NS) (c42 : ∀ x, x < NS → τ 42 x = 0 ∨ τ 42 x = 1) : ST h2 τ own od rw0 K N NS B R := by
  obtain ⟨x1, x2, x3, x4, x5, x6, x7, x8, x9⟩ := X
  have dpE : ∀ r m, dps τ r m = dps σ r m := fun r m => by
    induction m with
    | zero => rfl
    | succ m ih1 =>
      unfold dps dp1
      rw [ih1, c1 12 _ rfl, c1 12 _ rfl, dpt_cg (fun i => c1 1 i rfl)]
  refine ⟨x1.fr (F.ag (by decide)) (fun j => c1 1 j rfl), x2.fr (F.ag (by decide)) (fun j => c1 6 j rfl) (fun j => c1 7 j rfl), x3.fr (fun r a1 => ?_) (F.ag (by decide)) (fun r _ => ⟨c1 9 _ rfl, c1 10 _ rfl, c1 11 _ rfl, c1 13 _ rfl, c1 15 _ rfl, c1 16 _ rfl, fun i _ => c1 14 _ rfl, fun i _ => c1 12 _ rfl⟩) (fun r _ => dpE r _), I, x5.sq c1, x6.sq c1, x7.sq c1 c42, fun r hr1 => by simp only [c1 14 _ rfl]; exact x8 r hr1, x9⟩
  obtain ⟨m, h1, h2, -⟩ := x7.2.2.2 r a1
  rw [h2, nt_nI (by omega)]
  exact h1
theorem trn_sq {σ τ : Sg} (h1 : st (us (us σ 47 0 (σ 47 0 + nI 1)) 49 0 0) τ) : sq σ τ := fun k j q1 => by
  have a1 : k ≠ 47 := fun z1 => by subst z1; cases q1
  have a2 : k ≠ 49 := fun z1 => by subst z1; cases q1
  rw [h1 k j (by simp only [qk, decide_eq_true_eq] at q1; simp only [tk, decide_eq_false_iff_not]; omega), us_k a2, us_k a1]
theorem c_X_turn {h : Hp} {σ : Sg} {own od rw0 : Nat → List Nat} {K N NS B R : Nat} {g : Gs} {aa vv oo : Int32} (M1 : mnC h aa vv oo (σ 46 0)) (X : ST h σ own od rw0 K N NS B R) (D : DY h σ N g) (hg : gv g = σ 4) (hNS : NS ≤ 8) (P : AP σ (2 * NS) NS) (Q0 : AQ σ (2 * NS) N) (h46 : σ 46 0 = -4 ∨ ∃ b, b < B ∧ σ 46 0 = nI b) (E : BD σ B) (hR : R ≤ 60) :
    Con mX_turn 29 0 0 [vR (10, 0, 0)] h (fun v h' => v = some (vI (fTurn σ rw0 NS N g).1) ∧ fT [15, 38, 41, 44, 45, 46, 47] h h' ∧ nC h' (trnE σ NS) NS ∧ DY h' (trnE σ NS) N (fTurn σ rw0 NS N g).2) := by
  have M0 := M1
  unfold mnC at M1
  have hN := X.2.2.2.2.2.1.1
  have hB := X.2.2.2.2.2.2.2.2.1
  have en := X.2.2.2.1.1.1
  have u1 := D.2.2.1.1
  have Is : sC h σ (σ 4) N := by rw [← hg]; exact D.1
  unfold fTurn
  refine c_enter (by decide +kernel) rfl rfl ?_
  refine s_aload_n dX_turn_0 rfl rfl ?_
  refine s_get dX_turn_1 gf_X_49 (by repeat (first | exact up_self | assumption | rw [up_ne (by first | assumption | (intro q0; cases q0; done) | (intro q0; simp at q0; omega))])) ?_
  refine s_callV (As := []) dX_turn_4 cv_X_259 (by repeat (first | exact up_self | assumption | rw [up_ne (by first | assumption | (intro q0; cases q0; done) | (intro q0; simp at q0; omega))])) (c_takeTurn X.2.2.2.1 Is hN hNS X.2.2.2.2.2.2.1.2.2.1 P Q0) (by first | rfl | exact Nat.ble_eq_true_of_le (by omega)) (by first | rfl | exact Nat.ble_eq_true_of_le (by omega)) (by first | rfl | exact Nat.ble_eq_true_of_le (by omega)) rfl (fun v0 h2 q0 => ?_)
  obtain ⟨rfl, F2, I2, s2, L2, T2⟩ := q0
  have q2 := trn_sq s2
  have X2 := X.sq F2 q2 I2 T2.2.2.2.2.2
  have D2 : DY h2 (trnE σ NS) N g := by
    obtain ⟨d1, d2, d3, d4, d5⟩ := D
    refine ⟨d1.fr (F2.ag (by decide)) (fun j => q2 3 j rfl), d2.fr (F2.ag (by decide)), d3.fr (F2.ag (by decide)), fun d q1 => ?_, d5⟩
    obtain ⟨vr1, ap1, o1⟩ := d4 d q1
    exact ⟨vr1, ap1, o1.fr (F2 _ (show (45 : Nat) ∉ [38, 41] by decide)) (F2 _ (show (46 : Nat) ∉ [38, 41] by decide))⟩
  have M2 : mnC h2 aa vv oo (σ 46 0) := (F2 _ (show (10 : Nat) ∉ [38, 41] by decide)).trans M1
  have M20 := M2
  unfold mnC at M2
  have u2 := D2.2.2.1.1
  have F20 : fT [15, 38, 41, 44, 45, 46, 47] h h2 := F2.mo (by decide)
  have e6 : ∀ b, trnE σ NS 6 b = σ 6 b := fun b => q2 6 b rfl
  have h49 := T2.2.2.2.1
  generalize trnE σ NS = τ at I2 s2 T2 q2 X2 D2 e6 h49 ⊢
  have en2 := I2.1.1
  rcases h46 with e4 | ⟨b, hb, e4⟩
  · rw [if_pos (Or.inl e4)]
    have hz : Iy 0 (σ 46 0) B := by rw [e4]; exact Or.inr ⟨rfl, fun q0 => absurd q0.1 (by decide)⟩
    have cb := c_bookNo M20 X2.2.1 hB hz
    by_cases c0 : N = 0
    · have hz2 : Iy 0 0 N := by rw [c0]; exact Or.inr ⟨rfl, by decide⟩
      refine s_aload_n dX_turn_7 rfl rfl ?_
      refine s_get dX_turn_8 gf_X_71 (by repeat (first | exact up_self | assumption | rw [up_ne (by first | assumption | (intro q0; cases q0; done) | (intro q0; simp at q0; omega))])) ?_
      refine s_aload_n dX_turn_11 rfl rfl ?_
      refine s_aload_n dX_turn_12 rfl rfl ?_
      refine s_get dX_turn_13 gf_X_53 (by repeat (first | exact up_self | assumption | rw [up_ne (by first | assumption | (intro q0; cases q0; done) | (intro q0; simp at q0; omega))])) ?_
      refine s_v1 dX_turn_16 cv_X_116 (by repeat (first | exact up_self | assumption | rw [up_ne (by first | assumption | (intro q0; cases q0; done) | (intro q0; simp at q0; omega))])) (cb) (by first | rfl | exact Nat.ble_eq_true_of_le (by omega)) (by first | rfl | exact Nat.ble_eq_true_of_le (by omega)) (by first | rfl | exact Nat.ble_eq_true_of_le (by omega)) rfl ?_
      refine s_aload_n dX_turn_19 rfl rfl ?_
      refine s_iconst (v := 0) dX_turn_20 (by decide) ?_
      refine s_v1 dX_turn_21 cv_X_103 (by repeat (first | exact up_self | assumption | rw [up_ne (by first | assumption | (intro q0; cases q0; done) | (intro q0; simp at q0; omega))])) (c_subjNo M20 D2.1 hN hz2) (by first | rfl | exact Nat.ble_eq_true_of_le (by omega)) (by first | rfl | exact Nat.ble_eq_true_of_le (by omega)) (by first | rfl | exact Nat.ble_eq_true_of_le (by omega)) rfl ?_
      refine s_v2 dX_turn_24 cv_X_198 (by repeat (first | exact up_self | assumption | rw [up_ne (by first | assumption | (intro q0; cases q0; done) | (intro q0; simp at q0; omega))])) (c_answerN1 (o := none)) (by first | rfl | exact Nat.ble_eq_true_of_le (by omega)) (by first | rfl | exact Nat.ble_eq_true_of_le (by omega)) (by first | rfl | exact Nat.ble_eq_true_of_le (by omega)) rfl ?_
      refine s_istore_n dX_turn_27 rfl rfl ?_
      refine s_iload_n dX_turn_28 rfl rfl ?_
      refine s_bipush (v := (-10)) dX_turn_29 (by decide) ?_
      refine s_icmp_gt dX_turn_31 (fun _ => ?_) (fun q => absurd (by decide) q)
      refine s_aload_n dX_turn_38 rfl rfl ?_
      refine s_get dX_turn_39 gf_X_49 (by repeat (first | exact up_self | assumption | rw [up_ne (by first | assumption | (intro q0; cases q0; done) | (intro q0; simp at q0; omega))])) ?_
      refine s_get dX_turn_42 gf_X_262 (by repeat (first | exact up_self | assumption | rw [up_ne (by first | assumption | (intro q0; cases q0; done) | (intro q0; simp at q0; omega))])) ?_
      refine s_iret dX_turn_45 rfl (by first | exact Nat.le_refl _ | decide | omega) (by first | exact Nat.le_refl _ | decide | omega) ?_
      exact ⟨rfl, F20, I2, D2⟩
    · refine s_aload_n dX_turn_7 rfl rfl ?_
      refine s_get dX_turn_8 gf_X_71 (by repeat (first | exact up_self | assumption | rw [up_ne (by first | assumption | (intro q0; cases q0; done) | (intro q0; simp at q0; omega))])) ?_
      refine s_aload_n dX_turn_11 rfl rfl ?_
      refine s_aload_n dX_turn_12 rfl rfl ?_
      refine s_get dX_turn_13 gf_X_53 (by repeat (first | exact up_self | assumption | rw [up_ne (by first | assumption | (intro q0; cases q0; done) | (intro q0; simp at q0; omega))])) ?_
      refine s_v1 dX_turn_16 cv_X_116 (by repeat (first | exact up_self | assumption | rw [up_ne (by first | assumption | (intro q0; cases q0; done) | (intro q0; simp at q0; omega))])) (cb) (by first | rfl | exact Nat.ble_eq_true_of_le (by omega)) (by first | rfl | exact Nat.ble_eq_true_of_le (by omega)) (by first | rfl | exact Nat.ble_eq_true_of_le (by omega)) rfl ?_
      refine s_aload_n dX_turn_19 rfl rfl ?_
      refine s_iconst (v := 0) dX_turn_20 (by decide) ?_
      refine s_tv (show vI 0 = vI (nI 0) from rfl) ?_
      refine s_v1 dX_turn_21 cv_X_103 (by repeat (first | exact up_self | assumption | rw [up_ne (by first | assumption | (intro q0; cases q0; done) | (intro q0; simp at q0; omega))])) (c_subjAt M20 D2.1 hN (show 0 < N by omega)) (by first | rfl | exact Nat.ble_eq_true_of_le (by omega)) (by first | rfl | exact Nat.ble_eq_true_of_le (by omega)) (by first | rfl | exact Nat.ble_eq_true_of_le (by omega)) rfl ?_
      refine s_v2 dX_turn_24 cv_X_198 (by repeat (first | exact up_self | assumption | rw [up_ne (by first | assumption | (intro q0; cases q0; done) | (intro q0; simp at q0; omega))])) (c_answerN1 (o := some (14, 0, 0))) (by first | rfl | exact Nat.ble_eq_true_of_le (by omega)) (by first | rfl | exact Nat.ble_eq_true_of_le (by omega)) (by first | rfl | exact Nat.ble_eq_true_of_le (by omega)) rfl ?_
      refine s_istore_n dX_turn_27 rfl rfl ?_
      refine s_iload_n dX_turn_28 rfl rfl ?_
      refine s_bipush (v := (-10)) dX_turn_29 (by decide) ?_
      refine s_icmp_gt dX_turn_31 (fun _ => ?_) (fun q => absurd (by decide) q)
      refine s_aload_n dX_turn_38 rfl rfl ?_
      refine s_get dX_turn_39 gf_X_49 (by repeat (first | exact up_self | assumption | rw [up_ne (by first | assumption | (intro q0; cases q0; done) | (intro q0; simp at q0; omega))])) ?_
      refine s_get dX_turn_42 gf_X_262 (by repeat (first | exact up_self | assumption | rw [up_ne (by first | assumption | (intro q0; cases q0; done) | (intro q0; simp at q0; omega))])) ?_
      refine s_iret dX_turn_45 rfl (by first | exact Nat.le_refl _ | decide | omega) (by first | exact Nat.le_refl _ | decide | omega) ?_
      exact ⟨rfl, F20, I2, D2⟩
  · by_cases c0 : N = 0
    · rw [if_pos (Or.inr c0)]
      have hz2 : Iy 0 0 N := by rw [c0]; exact Or.inr ⟨rfl, by decide⟩
      refine s_aload_n dX_turn_7 rfl rfl ?_
      refine s_get dX_turn_8 gf_X_71 (by repeat (first | exact up_self | assumption | rw [up_ne (by first | assumption | (intro q0; cases q0; done) | (intro q0; simp at q0; omega))])) ?_
      refine s_aload_n dX_turn_11 rfl rfl ?_
      refine s_aload_n dX_turn_12 rfl rfl ?_
      refine s_get dX_turn_13 gf_X_53 (by repeat (first | exact up_self | assumption | rw [up_ne (by first | assumption | (intro q0; cases q0; done) | (intro q0; simp at q0; omega))])) ?_
      refine s_tv (congrArg vI e4) ?_
      refine s_v1 dX_turn_16 cv_X_116 (by repeat (first | exact up_self | assumption | rw [up_ne (by first | assumption | (intro q0; cases q0; done) | (intro q0; simp at q0; omega))])) (c_bookAt M20 X2.2.1 hB hb) (by first | rfl | exact Nat.ble_eq_true_of_le (by omega)) (by first | rfl | exact Nat.ble_eq_true_of_le (by omega)) (by first | rfl | exact Nat.ble_eq_true_of_le (by omega)) rfl ?_
      refine s_aload_n dX_turn_19 rfl rfl ?_
      refine s_iconst (v := 0) dX_turn_20 (by decide) ?_
      refine s_v1 dX_turn_21 cv_X_103 (by repeat (first | exact up_self | assumption | rw [up_ne (by first | assumption | (intro q0; cases q0; done) | (intro q0; simp at q0; omega))])) (c_subjNo M20 D2.1 hN hz2) (by first | rfl | exact Nat.ble_eq_true_of_le (by omega)) (by first | rfl | exact Nat.ble_eq_true_of_le (by omega)) (by first | rfl | exact Nat.ble_eq_true_of_le (by omega)) rfl ?_
      refine s_v2 dX_turn_24 cv_X_198 (by repeat (first | exact up_self | assumption | rw [up_ne (by first | assumption | (intro q0; cases q0; done) | (intro q0; simp at q0; omega))])) (c_answerN2 (b := b)) (by first | rfl | exact Nat.ble_eq_true_of_le (by omega)) (by first | rfl | exact Nat.ble_eq_true_of_le (by omega)) (by first | rfl | exact Nat.ble_eq_true_of_le (by omega)) rfl ?_
      refine s_istore_n dX_turn_27 rfl rfl ?_
      refine s_iload_n dX_turn_28 rfl rfl ?_
      refine s_bipush (v := (-10)) dX_turn_29 (by decide) ?_
      refine s_icmp_gt dX_turn_31 (fun _ => ?_) (fun q => absurd (by decide) q)
      refine s_aload_n dX_turn_38 rfl rfl ?_
      refine s_get dX_turn_39 gf_X_49 (by repeat (first | exact up_self | assumption | rw [up_ne (by first | assumption | (intro q0; cases q0; done) | (intro q0; simp at q0; omega))])) ?_
      refine s_get dX_turn_42 gf_X_262 (by repeat (first | exact up_self | assumption | rw [up_ne (by first | assumption | (intro q0; cases q0; done) | (intro q0; simp at q0; omega))])) ?_
      refine s_iret dX_turn_45 rfl (by first | exact Nat.le_refl _ | decide | omega) (by first | exact Nat.le_refl _ | decide | omega) ?_
      exact ⟨rfl, F20, I2, D2⟩
    · rw [if_neg (fun q0 => q0.elim (fun z1 => nI_m4 (k := b) (by omega) (e4.symm.trans z1)) c0), show nt (σ 46 0) = b by rw [e4, nt_nI (by omega)]]
      have E2 : BD τ B := fun b q1 => by rw [e6]; exact E b q1
      have ao := aN_ok (s := 0) (g := g) X2.2.2.2.2.2.2.2.1 hB hR (fun b q1 => (X2.2.2.2.2.2.2.2.2.2 b q1).1) E2 hb
      refine s_aload_n dX_turn_7 rfl rfl ?_
      refine s_get dX_turn_8 gf_X_71 (by repeat (first | exact up_self | assumption | rw [up_ne (by first | assumption | (intro q0; cases q0; done) | (intro q0; simp at q0; omega))])) ?_
      refine s_aload_n dX_turn_11 rfl rfl ?_
      refine s_aload_n dX_turn_12 rfl rfl ?_
      refine s_get dX_turn_13 gf_X_53 (by repeat (first | exact up_self | assumption | rw [up_ne (by first | assumption | (intro q0; cases q0; done) | (intro q0; simp at q0; omega))])) ?_
      refine s_tv (congrArg vI e4) ?_
      refine s_v1 dX_turn_16 cv_X_116 (by repeat (first | exact up_self | assumption | rw [up_ne (by first | assumption | (intro q0; cases q0; done) | (intro q0; simp at q0; omega))])) (c_bookAt M20 X2.2.1 hB hb) (by first | rfl | exact Nat.ble_eq_true_of_le (by omega)) (by first | rfl | exact Nat.ble_eq_true_of_le (by omega)) (by first | rfl | exact Nat.ble_eq_true_of_le (by omega)) rfl ?_
      refine s_aload_n dX_turn_19 rfl rfl ?_
      refine s_iconst (v := 0) dX_turn_20 (by decide) ?_
      refine s_tv (show vI 0 = vI (nI 0) from rfl) ?_
      refine s_v1 dX_turn_21 cv_X_103 (by repeat (first | exact up_self | assumption | rw [up_ne (by first | assumption | (intro q0; cases q0; done) | (intro q0; simp at q0; omega))])) (c_subjAt M20 D2.1 hN (show 0 < N by omega)) (by first | rfl | exact Nat.ble_eq_true_of_le (by omega)) (by first | rfl | exact Nat.ble_eq_true_of_le (by omega)) (by first | rfl | exact Nat.ble_eq_true_of_le (by omega)) rfl ?_
      refine s_callV (As := [_, _]) dX_turn_24 cv_X_198 (by repeat (first | exact up_self | assumption | rw [up_ne (by first | assumption | (intro q0; cases q0; done) | (intro q0; simp at q0; omega))])) (c_answerOf X2 D2 (show 0 < N by omega) hb) (by first | rfl | exact Nat.ble_eq_true_of_le (by omega)) (by first | rfl | exact Nat.ble_eq_true_of_le (by omega)) (by first | rfl | exact Nat.ble_eq_true_of_le (by omega)) rfl (fun v0 h3 q0 => ?_)
      obtain ⟨F3, D3, rfl⟩ := q0
      have M3 : h3 (10, 0, 0) = _ := (F3 _ (show (10 : Nat) ∉ _ by decide)).trans M2
      have I3 : nC h3 τ NS := I2.fr (F3.ag (by decide)) (fun _ _ _ _ _ => rfl)
      have en3 := I3.1.1
      have F30 : fT [15, 38, 41, 44, 45, 46, 47] h h3 := F20.tr (F3.mo (by decide))
      rcases ao with ⟨z1, k, hk, z2⟩ | ⟨z1, r, hr, z2⟩
      · rw [z2, if_pos z1]
        refine s_istore_n dX_turn_27 rfl rfl ?_
        refine s_iload_n dX_turn_28 rfl rfl ?_
        refine s_bipush (v := (-10)) dX_turn_29 (by decide) ?_
        refine s_icmp_gt dX_turn_31 (fun _ => ?_) (fun q => absurd (k_m10 hk) q)
        refine s_aload_n dX_turn_38 rfl rfl ?_
        refine s_get dX_turn_39 gf_X_49 (by repeat (first | exact up_self | assumption | rw [up_ne (by first | assumption | (intro q0; cases q0; done) | (intro q0; simp at q0; omega))])) ?_
        refine s_get dX_turn_42 gf_X_262 (by repeat (first | exact up_self | assumption | rw [up_ne (by first | assumption | (intro q0; cases q0; done) | (intro q0; simp at q0; omega))])) ?_
        refine s_iret dX_turn_45 rfl (by first | exact Nat.le_refl _ | decide | omega) (by first | exact Nat.le_refl _ | decide | omega) ?_
        exact ⟨rfl, F30, I3, D3⟩
      · have z3 : -10 - gs (runS τ rw0 0 6 0 b (gf g)).1 = -10 - nI r := by
          unfold aN at z2
          rw [if_neg z1] at z2
          exact z2
        rw [z2, if_neg z1, z3]
        refine s_istore_n dX_turn_27 rfl rfl ?_
        refine s_iload_n dX_turn_28 rfl rfl ?_
        refine s_bipush (v := (-10)) dX_turn_29 (by decide) ?_
        refine s_icmp_gt dX_turn_31 (fun q => absurd q (m10 hr)) (fun _ => ?_)
        refine s_iload_n dX_turn_34 rfl rfl ?_
        refine s_goto dX_turn_35 ?_
        refine s_iret dX_turn_45 rfl (by first | exact Nat.le_refl _ | decide | omega) (by first | exact Nat.le_refl _ | decide | omega) ?_
        exact ⟨rfl, F30, I3, D3⟩
/-! phrases -/
def fC (h : Hp) (σ : Sg) (P : Nat) : Prop := h (43, 0, 0) = some (4, 0, fl [vR (11, 0, 0), vR (43, 1, 0), vR (43, 2, 0), vR (43, 3, 0), vI (nI P)]) ∧ ∃ f1 f2 f3, h (43, 1, 0) = some (20, 40, f1) ∧ h (43, 2, 0) = some (20, 40, f2) ∧ h (43, 3, 0) = some (20, 40, f3) ∧ ∀ i, i < P → f1 i = vI (σ 51 (3 * i)) ∧ f2 i = vI (σ 51 (3 * i + 1)) ∧ f3 i = vI (σ 51 (3 * i + 2))
theorem fC.fr {h h' : Hp} {σ σ' : Sg} {P : Nat} (I : fC h σ P) (h1 : agT 43 43 h h') (h2 : ∀ j, σ' 51 j = σ 51 j) : fC h' σ' P := by
  obtain ⟨e1, f1, f2, f3, e2, e3, e4, e5⟩ := I
  exact ⟨(h1.g 43 0 0).trans e1, f1, f2, f3, (h1.g 43 1 0).trans e2, (h1.g 43 2 0).trans e3, (h1.g 43 3 0).trans e4, fun i q1 => by rw [h2, h2, h2]; exact e5 i q1⟩
theorem c_isName {h : Hp} {r p : Int32} (hz : Iy r p 10) : ConF mX_isName 0 [vI p] h (some (vI r)) h := by
  refine c_enter (by decide +kernel) rfl rfl ?_
  rcases hz with ⟨rfl, j, hj, rfl⟩ | ⟨rfl, hn⟩
  · refine s_iload_n dX_isName_0 rfl rfl ?_
    refine s_if_lt dX_isName_1 (fun q => absurd q (nI_nlt (b := 0) (by omega) (by omega))) (fun _ => ?_)
    refine s_iload_n dX_isName_4 rfl rfl ?_
    refine s_bipush (v := nI 9) dX_isName_5 (by decide) ?_
    refine s_icmp_gt dX_isName_7 (fun q => absurd q (nI_nlt (by omega) (by omega))) (fun _ => ?_)
    refine s_iconst (v := 1) dX_isName_10 (by decide) ?_
    refine s_goto dX_isName_11 ?_
    refine s_zret dX_isName_15 rfl (by first | exact Or.inl rfl | exact Or.inr rfl | assumption) (by first | exact Nat.le_refl _ | decide | omega) (by first | exact Nat.le_refl _ | decide | omega) ?_
    exact ⟨rfl, rfl⟩
  · by_cases c1 : p < 0
    · refine s_iload_n dX_isName_0 rfl rfl ?_
      refine s_if_lt dX_isName_1 (fun _ => ?_) (fun q => absurd c1 q)
      refine s_iconst (v := 0) dX_isName_14 (by decide) ?_
      refine s_zret dX_isName_15 rfl (by first | exact Or.inl rfl | exact Or.inr rfl | assumption) (by first | exact Nat.le_refl _ | decide | omega) (by first | exact Nat.le_refl _ | decide | omega) ?_
      exact ⟨rfl, rfl⟩
    · have c2 : nI 9 < p := by
        have c3 : nI 10 ≤ p := Int32.not_lt.mp fun z1 => hn ⟨Int32.not_lt.mp c1, z1⟩
        rw [Int32.le_iff_toInt_le] at c3
        rw [Int32.lt_iff_toInt_lt]
        rw [nI_toInt (by omega)] at c3 ⊢
        omega
      refine s_iload_n dX_isName_0 rfl rfl ?_
      refine s_if_lt dX_isName_1 (fun q => absurd q c1) (fun _ => ?_)
      refine s_iload_n dX_isName_4 rfl rfl ?_
      refine s_bipush (v := nI 9) dX_isName_5 (by decide) ?_
      refine s_icmp_gt dX_isName_7 (fun _ => ?_) (fun q => absurd c2 q)
      refine s_iconst (v := 0) dX_isName_14 (by decide) ?_
      refine s_zret dX_isName_15 rfl (by first | exact Or.inl rfl | exact Or.inr rfl | assumption) (by first | exact Nat.le_refl _ | decide | omega) (by first | exact Nat.le_refl _ | decide | omega) ?_
      exact ⟨rfl, rfl⟩
theorem l_isTold {h : Hp} {σ : Sg} {P : Nat} {n a b : Int32} {Q : Option PV → Hp → Prop} (I : fC h σ P) (hP : P ≤ 40) (hq : Q (some (vI (zi (isTo σ n a b P)))) h) :
    ∀ (m k : Nat), k + m = P → isTo σ n a b k = false → S mPhr_isTold 0 0 0 Q 3 [some (vR (43, 0, 0)), some (vI n), some (vI a), some (vI b), some (vI (nI k))] [] h 0 0 := by
  obtain ⟨e1, f1, f2, f3, e2, e3, e4, e5⟩ := I
  intro m
  induction m with
  | zero =>
    intro k hk ht
    have ek : k = P := by omega
    subst ek
    refine s_iload dPhr_isTold_3 rfl ?_
    refine s_aload_n dPhr_isTold_5 rfl rfl ?_
    refine s_get dPhr_isTold_6 gf_Phr_29 (by repeat (first | exact up_self | assumption | rw [up_ne (by first | assumption | (intro q0; cases q0; done) | (intro q0; simp at q0; omega))])) ?_
    refine s_icmp_ge dPhr_isTold_9 (fun _ => ?_) (fun q => absurd (nI_le (Nat.le_refl _) (by omega)) q)
    refine s_iconst (v := 0) dPhr_isTold_53 (by decide) ?_
    refine s_zret dPhr_isTold_54 rfl (by first | exact Or.inl rfl | exact Or.inr rfl | assumption) (by first | exact Nat.le_refl _ | decide | omega) (by first | exact Nat.le_refl _ | decide | omega) ?_
    rw [ht] at hq
    exact hq
  | succ m ih =>
    intro k hk ht
    have hkN : k < P := by omega
    obtain ⟨g1, g2, g3⟩ := e5 k hkN
    by_cases c1 : σ 51 (3 * k) = n
    · by_cases c2 : σ 51 (3 * k + 1) = a
      · by_cases c3 : σ 51 (3 * k + 2) = b
        · refine s_iload dPhr_isTold_3 rfl ?_
          refine s_aload_n dPhr_isTold_5 rfl rfl ?_
          refine s_get dPhr_isTold_6 gf_Phr_29 (by repeat (first | exact up_self | assumption | rw [up_ne (by first | assumption | (intro q0; cases q0; done) | (intro q0; simp at q0; omega))])) ?_
          refine s_icmp_ge dPhr_isTold_9 (fun q => absurd q (nI_ge hkN (by omega))) (fun _ => ?_)
          refine s_aload_n dPhr_isTold_12 rfl rfl ?_
          refine s_get dPhr_isTold_13 gf_Phr_9 (by repeat (first | exact up_self | assumption | rw [up_ne (by first | assumption | (intro q0; cases q0; done) | (intro q0; simp at q0; omega))])) ?_
          refine s_iload dPhr_isTold_16 rfl ?_
          refine s_ialdN dPhr_isTold_18 (by repeat (first | exact up_self | assumption | rw [up_ne (by first | assumption | (intro q0; cases q0; done) | (intro q0; simp at q0; omega))])) (by omega) (by omega) ?_
          refine s_tv g1 ?_
          refine s_iload_n dPhr_isTold_19 rfl rfl ?_
          refine s_icmp_ne dPhr_isTold_20 (fun q => absurd c1 q) (fun _ => ?_)
          refine s_aload_n dPhr_isTold_23 rfl rfl ?_
          refine s_get dPhr_isTold_24 gf_Phr_15 (by repeat (first | exact up_self | assumption | rw [up_ne (by first | assumption | (intro q0; cases q0; done) | (intro q0; simp at q0; omega))])) ?_
          refine s_iload dPhr_isTold_27 rfl ?_
          refine s_ialdN dPhr_isTold_29 (by repeat (first | exact up_self | assumption | rw [up_ne (by first | assumption | (intro q0; cases q0; done) | (intro q0; simp at q0; omega))])) (by omega) (by omega) ?_
          refine s_tv g2 ?_
          refine s_iload_n dPhr_isTold_30 rfl rfl ?_
          refine s_icmp_ne dPhr_isTold_31 (fun q => absurd c2 q) (fun _ => ?_)
          refine s_aload_n dPhr_isTold_34 rfl rfl ?_
          refine s_get dPhr_isTold_35 gf_Phr_18 (by repeat (first | exact up_self | assumption | rw [up_ne (by first | assumption | (intro q0; cases q0; done) | (intro q0; simp at q0; omega))])) ?_
          refine s_iload dPhr_isTold_38 rfl ?_
          refine s_ialdN dPhr_isTold_40 (by repeat (first | exact up_self | assumption | rw [up_ne (by first | assumption | (intro q0; cases q0; done) | (intro q0; simp at q0; omega))])) (by omega) (by omega) ?_
          refine s_tv g3 ?_
          refine s_iload_n dPhr_isTold_41 rfl rfl ?_
          refine s_icmp_ne dPhr_isTold_42 (fun q => absurd c3 q) (fun _ => ?_)
          refine s_iconst (v := 1) dPhr_isTold_45 (by decide) ?_
          refine s_zret dPhr_isTold_46 rfl (by first | exact Or.inl rfl | exact Or.inr rfl | assumption) (by first | exact Nat.le_refl _ | decide | omega) (by first | exact Nat.le_refl _ | decide | omega) ?_
          rw [isTo_of hkN (by simp [c1, c2, c3])] at hq
          exact hq
        · refine s_iload dPhr_isTold_3 rfl ?_
          refine s_aload_n dPhr_isTold_5 rfl rfl ?_
          refine s_get dPhr_isTold_6 gf_Phr_29 (by repeat (first | exact up_self | assumption | rw [up_ne (by first | assumption | (intro q0; cases q0; done) | (intro q0; simp at q0; omega))])) ?_
          refine s_icmp_ge dPhr_isTold_9 (fun q => absurd q (nI_ge hkN (by omega))) (fun _ => ?_)
          refine s_aload_n dPhr_isTold_12 rfl rfl ?_
          refine s_get dPhr_isTold_13 gf_Phr_9 (by repeat (first | exact up_self | assumption | rw [up_ne (by first | assumption | (intro q0; cases q0; done) | (intro q0; simp at q0; omega))])) ?_
          refine s_iload dPhr_isTold_16 rfl ?_
          refine s_ialdN dPhr_isTold_18 (by repeat (first | exact up_self | assumption | rw [up_ne (by first | assumption | (intro q0; cases q0; done) | (intro q0; simp at q0; omega))])) (by omega) (by omega) ?_
          refine s_tv g1 ?_
          refine s_iload_n dPhr_isTold_19 rfl rfl ?_
          refine s_icmp_ne dPhr_isTold_20 (fun q => absurd c1 q) (fun _ => ?_)
          refine s_aload_n dPhr_isTold_23 rfl rfl ?_
          refine s_get dPhr_isTold_24 gf_Phr_15 (by repeat (first | exact up_self | assumption | rw [up_ne (by first | assumption | (intro q0; cases q0; done) | (intro q0; simp at q0; omega))])) ?_
          refine s_iload dPhr_isTold_27 rfl ?_
          refine s_ialdN dPhr_isTold_29 (by repeat (first | exact up_self | assumption | rw [up_ne (by first | assumption | (intro q0; cases q0; done) | (intro q0; simp at q0; omega))])) (by omega) (by omega) ?_
          refine s_tv g2 ?_
          refine s_iload_n dPhr_isTold_30 rfl rfl ?_
          refine s_icmp_ne dPhr_isTold_31 (fun q => absurd c2 q) (fun _ => ?_)
          refine s_aload_n dPhr_isTold_34 rfl rfl ?_
          refine s_get dPhr_isTold_35 gf_Phr_18 (by repeat (first | exact up_self | assumption | rw [up_ne (by first | assumption | (intro q0; cases q0; done) | (intro q0; simp at q0; omega))])) ?_
          refine s_iload dPhr_isTold_38 rfl ?_
          refine s_ialdN dPhr_isTold_40 (by repeat (first | exact up_self | assumption | rw [up_ne (by first | assumption | (intro q0; cases q0; done) | (intro q0; simp at q0; omega))])) (by omega) (by omega) ?_
          refine s_tv g3 ?_
          refine s_iload_n dPhr_isTold_41 rfl rfl ?_
          refine s_icmp_ne dPhr_isTold_42 (fun _ => ?_) (fun q => absurd q c3)
          first | refine s_iincN dPhr_isTold_47 rfl rfl ?_ | refine s_iinc dPhr_isTold_47 rfl rfl ?_
          refine s_goto dPhr_isTold_50 ?_
          exact ih (k + 1) (by omega) (by simp [isTo, ht, c3])
      · refine s_iload dPhr_isTold_3 rfl ?_
        refine s_aload_n dPhr_isTold_5 rfl rfl ?_
        refine s_get dPhr_isTold_6 gf_Phr_29 (by repeat (first | exact up_self | assumption | rw [up_ne (by first | assumption | (intro q0; cases q0; done) | (intro q0; simp at q0; omega))])) ?_
        refine s_icmp_ge dPhr_isTold_9 (fun q => absurd q (nI_ge hkN (by omega))) (fun _ => ?_)
        refine s_aload_n dPhr_isTold_12 rfl rfl ?_
        refine s_get dPhr_isTold_13 gf_Phr_9 (by repeat (first | exact up_self | assumption | rw [up_ne (by first | assumption | (intro q0; cases q0; done) | (intro q0; simp at q0; omega))])) ?_
        refine s_iload dPhr_isTold_16 rfl ?_
        refine s_ialdN dPhr_isTold_18 (by repeat (first | exact up_self | assumption | rw [up_ne (by first | assumption | (intro q0; cases q0; done) | (intro q0; simp at q0; omega))])) (by omega) (by omega) ?_
        refine s_tv g1 ?_
        refine s_iload_n dPhr_isTold_19 rfl rfl ?_
        refine s_icmp_ne dPhr_isTold_20 (fun q => absurd c1 q) (fun _ => ?_)
        refine s_aload_n dPhr_isTold_23 rfl rfl ?_
        refine s_get dPhr_isTold_24 gf_Phr_15 (by repeat (first | exact up_self | assumption | rw [up_ne (by first | assumption | (intro q0; cases q0; done) | (intro q0; simp at q0; omega))])) ?_
        refine s_iload dPhr_isTold_27 rfl ?_
        refine s_ialdN dPhr_isTold_29 (by repeat (first | exact up_self | assumption | rw [up_ne (by first | assumption | (intro q0; cases q0; done) | (intro q0; simp at q0; omega))])) (by omega) (by omega) ?_
        refine s_tv g2 ?_
        refine s_iload_n dPhr_isTold_30 rfl rfl ?_
        refine s_icmp_ne dPhr_isTold_31 (fun _ => ?_) (fun q => absurd q c2)
        first | refine s_iincN dPhr_isTold_47 rfl rfl ?_ | refine s_iinc dPhr_isTold_47 rfl rfl ?_
        refine s_goto dPhr_isTold_50 ?_
        exact ih (k + 1) (by omega) (by simp [isTo, ht, c2])
    · refine s_iload dPhr_isTold_3 rfl ?_
      refine s_aload_n dPhr_isTold_5 rfl rfl ?_
      refine s_get dPhr_isTold_6 gf_Phr_29 (by repeat (first | exact up_self | assumption | rw [up_ne (by first | assumption | (intro q0; cases q0; done) | (intro q0; simp at q0; omega))])) ?_
      refine s_icmp_ge dPhr_isTold_9 (fun q => absurd q (nI_ge hkN (by omega))) (fun _ => ?_)
      refine s_aload_n dPhr_isTold_12 rfl rfl ?_
      refine s_get dPhr_isTold_13 gf_Phr_9 (by repeat (first | exact up_self | assumption | rw [up_ne (by first | assumption | (intro q0; cases q0; done) | (intro q0; simp at q0; omega))])) ?_
      refine s_iload dPhr_isTold_16 rfl ?_
      refine s_ialdN dPhr_isTold_18 (by repeat (first | exact up_self | assumption | rw [up_ne (by first | assumption | (intro q0; cases q0; done) | (intro q0; simp at q0; omega))])) (by omega) (by omega) ?_
      refine s_tv g1 ?_
      refine s_iload_n dPhr_isTold_19 rfl rfl ?_
      refine s_icmp_ne dPhr_isTold_20 (fun _ => ?_) (fun q => absurd q c1)
      first | refine s_iincN dPhr_isTold_47 rfl rfl ?_ | refine s_iinc dPhr_isTold_47 rfl rfl ?_
      refine s_goto dPhr_isTold_50 ?_
      exact ih (k + 1) (by omega) (by simp [isTo, ht, c1])
theorem c_isTold {h : Hp} {σ : Sg} {P : Nat} {n a b : Int32} (I : fC h σ P) (hP : P ≤ 40) : ConF mPhr_isTold 0 [vR (43, 0, 0), vI n, vI a, vI b] h (some (vI (zi (isTo σ n a b P)))) h := by
  refine c_enter (by decide +kernel) rfl rfl ?_
  refine s_iconst (v := 0) dPhr_isTold_0 (by decide) ?_
  refine s_istore dPhr_isTold_1 rfl ?_
  exact l_isTold I hP ⟨rfl, rfl⟩ P 0 (by omega) rfl
theorem c_Phr_add {h : Hp} {σ : Sg} {P : Nat} {n a b : Int32} (I : fC h σ P) (hP : P ≤ 40) :
    Con mPhr_add 1 0 0 [vR (43, 0, 0), vI n, vI a, vI b] h (fun v h' => fT [43] h h' ∧ (if isTo σ n a b P then v = some (vI (-2)) ∧ h' = h else if P = 40 then v = some (vI (-3)) ∧ h' = h else v = some (vI (nI P)) ∧ fC h' (us (us (us (us σ 51 (3 * P) n) 51 (3 * P + 1) a) 51 (3 * P + 2) b) 50 0 (nI (P + 1))) (P + 1))) := by
  have ct := c_isTold (n := n) (a := a) (b := b) I hP
  obtain ⟨e1, f1, f2, f3, e2, e3, e4, e5⟩ := I
  refine c_enter (by decide +kernel) rfl rfl ?_
  cases ht : isTo σ n a b P with
  | true =>
    rw [ht] at ct
    refine s_aload_n dPhr_add_0 rfl rfl ?_
    refine s_iload_n dPhr_add_1 rfl rfl ?_
    refine s_iload_n dPhr_add_2 rfl rfl ?_
    refine s_iload_n dPhr_add_3 rfl rfl ?_
    refine s_v3 dPhr_add_4 cv_Phr_25 (by repeat (first | exact up_self | assumption | rw [up_ne (by first | assumption | (intro q0; cases q0; done) | (intro q0; simp at q0; omega))])) (ct) (by first | rfl | exact Nat.ble_eq_true_of_le (by omega)) (by first | rfl | exact Nat.ble_eq_true_of_le (by omega)) (by first | rfl | exact Nat.ble_eq_true_of_le (by omega)) rfl ?_
    refine s_if_eq dPhr_add_7 (fun q => absurd q (by decide)) (fun _ => ?_)
    refine s_bipush (v := (-2)) dPhr_add_10 (by decide) ?_
    refine s_iret dPhr_add_12 rfl (by first | exact Nat.le_refl _ | decide | omega) (by first | exact Nat.le_refl _ | decide | omega) ?_
    refine ⟨fT.rf, ?_⟩
    rw [if_pos rfl]
    exact ⟨rfl, rfl⟩
  | false =>
    rw [ht] at ct
    by_cases c4 : P = 40
    · refine s_aload_n dPhr_add_0 rfl rfl ?_
      refine s_iload_n dPhr_add_1 rfl rfl ?_
      refine s_iload_n dPhr_add_2 rfl rfl ?_
      refine s_iload_n dPhr_add_3 rfl rfl ?_
      refine s_v3 dPhr_add_4 cv_Phr_25 (by repeat (first | exact up_self | assumption | rw [up_ne (by first | assumption | (intro q0; cases q0; done) | (intro q0; simp at q0; omega))])) (ct) (by first | rfl | exact Nat.ble_eq_true_of_le (by omega)) (by first | rfl | exact Nat.ble_eq_true_of_le (by omega)) (by first | rfl | exact Nat.ble_eq_true_of_le (by omega)) rfl ?_
      refine s_if_eq dPhr_add_7 (fun _ => ?_) (fun q => absurd rfl q)
      refine s_aload_n dPhr_add_13 rfl rfl ?_
      refine s_get dPhr_add_14 gf_Phr_29 (by repeat (first | exact up_self | assumption | rw [up_ne (by first | assumption | (intro q0; cases q0; done) | (intro q0; simp at q0; omega))])) ?_
      refine s_bipush (v := nI 40) dPhr_add_17 (by decide) ?_
      refine s_icmp_lt dPhr_add_19 (fun q => absurd q (nI_nlt (by omega) (by omega))) (fun _ => ?_)
      refine s_bipush (v := (-3)) dPhr_add_22 (by decide) ?_
      refine s_iret dPhr_add_24 rfl (by first | exact Nat.le_refl _ | decide | omega) (by first | exact Nat.le_refl _ | decide | omega) ?_
      refine ⟨fT.rf, ?_⟩
      rw [if_neg (by decide), if_pos c4]
      exact ⟨rfl, rfl⟩
    · refine s_aload_n dPhr_add_0 rfl rfl ?_
      refine s_iload_n dPhr_add_1 rfl rfl ?_
      refine s_iload_n dPhr_add_2 rfl rfl ?_
      refine s_iload_n dPhr_add_3 rfl rfl ?_
      refine s_v3 dPhr_add_4 cv_Phr_25 (by repeat (first | exact up_self | assumption | rw [up_ne (by first | assumption | (intro q0; cases q0; done) | (intro q0; simp at q0; omega))])) (ct) (by first | rfl | exact Nat.ble_eq_true_of_le (by omega)) (by first | rfl | exact Nat.ble_eq_true_of_le (by omega)) (by first | rfl | exact Nat.ble_eq_true_of_le (by omega)) rfl ?_
      refine s_if_eq dPhr_add_7 (fun _ => ?_) (fun q => absurd rfl q)
      refine s_aload_n dPhr_add_13 rfl rfl ?_
      refine s_get dPhr_add_14 gf_Phr_29 (by repeat (first | exact up_self | assumption | rw [up_ne (by first | assumption | (intro q0; cases q0; done) | (intro q0; simp at q0; omega))])) ?_
      refine s_bipush (v := nI 40) dPhr_add_17 (by decide) ?_
      refine s_icmp_lt dPhr_add_19 (fun _ => ?_) (fun q => absurd (nI_lt (show P < 40 by omega) (by omega)) q)
      refine s_aload_n dPhr_add_25 rfl rfl ?_
      refine s_get dPhr_add_26 gf_Phr_9 (by repeat (first | exact up_self | assumption | rw [up_ne (by first | assumption | (intro q0; cases q0; done) | (intro q0; simp at q0; omega))])) ?_
      refine s_aload_n dPhr_add_29 rfl rfl ?_
      refine s_get dPhr_add_30 gf_Phr_29 (by repeat (first | exact up_self | assumption | rw [up_ne (by first | assumption | (intro q0; cases q0; done) | (intro q0; simp at q0; omega))])) ?_
      refine s_iload_n dPhr_add_33 rfl rfl ?_
      refine s_iastN dPhr_add_34 (by repeat (first | exact up_self | assumption | rw [up_ne (by first | assumption | (intro q0; cases q0; done) | (intro q0; simp at q0; omega))])) (by first | rfl | assumption) (by omega) (by omega) ?_
      refine s_aload_n dPhr_add_35 rfl rfl ?_
      refine s_get dPhr_add_36 gf_Phr_15 (by repeat (first | exact up_self | assumption | rw [up_ne (by first | assumption | (intro q0; cases q0; done) | (intro q0; simp at q0; omega))])) ?_
      refine s_aload_n dPhr_add_39 rfl rfl ?_
      refine s_get dPhr_add_40 gf_Phr_29 (by repeat (first | exact up_self | assumption | rw [up_ne (by first | assumption | (intro q0; cases q0; done) | (intro q0; simp at q0; omega))])) ?_
      refine s_iload_n dPhr_add_43 rfl rfl ?_
      refine s_iastN dPhr_add_44 (by repeat (first | exact up_self | assumption | rw [up_ne (by first | assumption | (intro q0; cases q0; done) | (intro q0; simp at q0; omega))])) (by first | rfl | assumption) (by omega) (by omega) ?_
      refine s_aload_n dPhr_add_45 rfl rfl ?_
      refine s_get dPhr_add_46 gf_Phr_18 (by repeat (first | exact up_self | assumption | rw [up_ne (by first | assumption | (intro q0; cases q0; done) | (intro q0; simp at q0; omega))])) ?_
      refine s_aload_n dPhr_add_49 rfl rfl ?_
      refine s_get dPhr_add_50 gf_Phr_29 (by repeat (first | exact up_self | assumption | rw [up_ne (by first | assumption | (intro q0; cases q0; done) | (intro q0; simp at q0; omega))])) ?_
      refine s_iload_n dPhr_add_53 rfl rfl ?_
      refine s_iastN dPhr_add_54 (by repeat (first | exact up_self | assumption | rw [up_ne (by first | assumption | (intro q0; cases q0; done) | (intro q0; simp at q0; omega))])) (by first | rfl | assumption) (by omega) (by omega) ?_
      refine s_aload_n dPhr_add_55 rfl rfl ?_
      refine s_dup dPhr_add_56 rfl ?_
      refine s_get dPhr_add_57 gf_Phr_29 (by repeat (first | exact up_self | assumption | rw [up_ne (by first | assumption | (intro q0; cases q0; done) | (intro q0; simp at q0; omega))])) ?_
      refine s_iconst (v := nI 1) dPhr_add_60 (by decide) ?_
      first | refine s_iaddN dPhr_add_61 ?_ | refine s_iadd dPhr_add_61 ?_
      refine s_putF dPhr_add_62 gf_Phr_29 (by repeat (first | exact up_self | assumption | rw [up_ne (by first | assumption | (intro q0; cases q0; done) | (intro q0; simp at q0; omega))])) (by first | rfl | assumption) rfl (by first | exact Or.inl rfl | exact Or.inr ⟨rfl, rfl⟩) (by first | exact ⟨_, rfl⟩ | exact Or.inl rfl | exact Or.inr rfl | assumption) ?_
      refine s_aload_n dPhr_add_65 rfl rfl ?_
      refine s_get dPhr_add_66 gf_Phr_29 (by repeat (first | exact up_self | assumption | rw [up_ne (by first | assumption | (intro q0; cases q0; done) | (intro q0; simp at q0; omega))])) ?_
      refine s_iconst (v := nI 1) dPhr_add_69 (by decide) ?_
      first | refine s_isubN dPhr_add_70 (by omega) ?_ | refine s_isub dPhr_add_70 ?_
      refine s_iret dPhr_add_71 rfl (by first | exact Nat.le_refl _ | decide | omega) (by first | exact Nat.le_refl _ | decide | omega) ?_
      refine ⟨((((fT.rf.v).v).v).v), ?_⟩
      rw [if_neg (by decide), if_neg c4]
      refine ⟨by rw [show P + 1 - 1 = P by omega], up_self, _, _, _, (up_ne (fun q0 => by simp at q0)).trans ((up_ne (fun q0 => by simp at q0)).trans ((up_ne (fun q0 => by simp at q0)).trans up_self)), (up_ne (fun q0 => by simp at q0)).trans ((up_ne (fun q0 => by simp at q0)).trans up_self), (up_ne (fun q0 => by simp at q0)).trans up_self, fun i hi1 => ?_⟩
      unfold upf
      by_cases c1 : i = P
      · subst c1
        rw [if_pos rfl, if_pos rfl, if_pos rfl]
        refine ⟨?_, ?_, ?_⟩
        · rw [us_k (by decide), us_j (by omega), us_j (by omega), us_s]
        · rw [us_k (by decide), us_j (by omega), us_s]
        · rw [us_k (by decide), us_s]
      · obtain ⟨g1, g2, g3⟩ := e5 i (by omega)
        rw [if_neg c1, if_neg c1, if_neg c1]
        refine ⟨?_, ?_, ?_⟩
        · rw [us_k (by decide), us_j (by omega), us_j (by omega), us_j (by omega)]; exact g1
        · rw [us_k (by decide), us_j (by omega), us_j (by omega), us_j (by omega)]; exact g2
        · rw [us_k (by decide), us_j (by omega), us_j (by omega), us_j (by omega)]; exact g3
theorem c_X_phrase {h : Hp} {σ : Sg} {K P : Nat} {aa vv oo tb : Int32} (n a b : Int32) (M1 : mnC h aa vv oo tb) (Ik : kC h σ K) (hK : K ≤ 20) (I : fC h σ P) (hP : P ≤ 40) (h50 : σ 50 0 = nI P) :
    Con mX_phrase 2 0 0 [vR (10, 0, 0), vI n, vI a, vI b] h (fun v h' => v = some (vI (fPhrase σ n a b K P).1) ∧ fT [43] h h' ∧ ∃ P', P' ≤ 40 ∧ fC h' (fPhrase σ n a b K P).2 P' ∧ (fPhrase σ n a b K P).2 50 0 = nI P') := by
  unfold mnC at M1
  have e1 := I.1
  have ek := Ik.1
  unfold fPhrase
  refine c_enter (by decide +kernel) rfl rfl ?_
  rcases iy_cases n (K := 10) (by omega) with ⟨q1, hz⟩ | ⟨j, hj, rfl, q1⟩
  · rw [q1]
    refine s_iload_n dX_phrase_0 rfl rfl ?_
    refine s_t1 dX_phrase_1 cs_X_274 (c_isName hz) (by first | rfl | exact Nat.ble_eq_true_of_le (by omega)) (by first | rfl | exact Nat.ble_eq_true_of_le (by omega)) (by first | rfl | exact Nat.ble_eq_true_of_le (by omega)) rfl ?_
    refine s_if_eq dX_phrase_4 (fun _ => ?_) (fun q => absurd rfl q)
    refine s_iconst (v := (-1)) dX_phrase_29 (by decide) ?_
    refine s_iret dX_phrase_30 rfl (by first | exact Nat.le_refl _ | decide | omega) (by first | exact Nat.le_refl _ | decide | omega) ?_
    exact ⟨rfl, fT.rf, P, hP, I, h50⟩
  · rw [q1]
    rcases iy_cases a (K := K) (by omega) with ⟨q2, hz⟩ | ⟨i, hi, rfl, q2⟩
    · rw [q2]
      refine s_iload_n dX_phrase_0 rfl rfl ?_
      refine s_t1 dX_phrase_1 cs_X_274 (c_isName (Iy1 hj)) (by first | rfl | exact Nat.ble_eq_true_of_le (by omega)) (by first | rfl | exact Nat.ble_eq_true_of_le (by omega)) (by first | rfl | exact Nat.ble_eq_true_of_le (by omega)) rfl ?_
      refine s_if_eq dX_phrase_4 (fun q => absurd q (by decide)) (fun _ => ?_)
      refine s_aload_n dX_phrase_7 rfl rfl ?_
      refine s_get dX_phrase_8 gf_X_10 (by repeat (first | exact up_self | assumption | rw [up_ne (by first | assumption | (intro q0; cases q0; done) | (intro q0; simp at q0; omega))])) ?_
      refine s_iload_n dX_phrase_11 rfl rfl ?_
      refine s_v1 dX_phrase_12 cv_X_75 (by repeat (first | exact up_self | assumption | rw [up_ne (by first | assumption | (intro q0; cases q0; done) | (intro q0; simp at q0; omega))])) (c_has Ik hK hz) (by first | rfl | exact Nat.ble_eq_true_of_le (by omega)) (by first | rfl | exact Nat.ble_eq_true_of_le (by omega)) (by first | rfl | exact Nat.ble_eq_true_of_le (by omega)) rfl ?_
      refine s_if_eq dX_phrase_15 (fun _ => ?_) (fun q => absurd rfl q)
      refine s_iconst (v := (-1)) dX_phrase_29 (by decide) ?_
      refine s_iret dX_phrase_30 rfl (by first | exact Nat.le_refl _ | decide | omega) (by first | exact Nat.le_refl _ | decide | omega) ?_
      exact ⟨rfl, fT.rf, P, hP, I, h50⟩
    · rw [q2]
      rcases iy_cases b (K := K) (by omega) with ⟨q3, hz⟩ | ⟨i2, hi2, rfl, q3⟩
      · rw [q3]
        refine s_iload_n dX_phrase_0 rfl rfl ?_
        refine s_t1 dX_phrase_1 cs_X_274 (c_isName (Iy1 hj)) (by first | rfl | exact Nat.ble_eq_true_of_le (by omega)) (by first | rfl | exact Nat.ble_eq_true_of_le (by omega)) (by first | rfl | exact Nat.ble_eq_true_of_le (by omega)) rfl ?_
        refine s_if_eq dX_phrase_4 (fun q => absurd q (by decide)) (fun _ => ?_)
        refine s_aload_n dX_phrase_7 rfl rfl ?_
        refine s_get dX_phrase_8 gf_X_10 (by repeat (first | exact up_self | assumption | rw [up_ne (by first | assumption | (intro q0; cases q0; done) | (intro q0; simp at q0; omega))])) ?_
        refine s_iload_n dX_phrase_11 rfl rfl ?_
        refine s_v1 dX_phrase_12 cv_X_75 (by repeat (first | exact up_self | assumption | rw [up_ne (by first | assumption | (intro q0; cases q0; done) | (intro q0; simp at q0; omega))])) (c_has Ik hK (Iy1 hi)) (by first | rfl | exact Nat.ble_eq_true_of_le (by omega)) (by first | rfl | exact Nat.ble_eq_true_of_le (by omega)) (by first | rfl | exact Nat.ble_eq_true_of_le (by omega)) rfl ?_
        refine s_if_eq dX_phrase_15 (fun q => absurd q (by decide)) (fun _ => ?_)
        refine s_aload_n dX_phrase_18 rfl rfl ?_
        refine s_get dX_phrase_19 gf_X_10 (by repeat (first | exact up_self | assumption | rw [up_ne (by first | assumption | (intro q0; cases q0; done) | (intro q0; simp at q0; omega))])) ?_
        refine s_iload_n dX_phrase_22 rfl rfl ?_
        refine s_v1 dX_phrase_23 cv_X_75 (by repeat (first | exact up_self | assumption | rw [up_ne (by first | assumption | (intro q0; cases q0; done) | (intro q0; simp at q0; omega))])) (c_has Ik hK hz) (by first | rfl | exact Nat.ble_eq_true_of_le (by omega)) (by first | rfl | exact Nat.ble_eq_true_of_le (by omega)) (by first | rfl | exact Nat.ble_eq_true_of_le (by omega)) rfl ?_
        refine s_if_ne dX_phrase_26 (fun q => absurd rfl q) (fun _ => ?_)
        refine s_iconst (v := (-1)) dX_phrase_29 (by decide) ?_
        refine s_iret dX_phrase_30 rfl (by first | exact Nat.le_refl _ | decide | omega) (by first | exact Nat.le_refl _ | decide | omega) ?_
        exact ⟨rfl, fT.rf, P, hP, I, h50⟩
      · rw [q3]
        dsimp only
        refine s_iload_n dX_phrase_0 rfl rfl ?_
        refine s_t1 dX_phrase_1 cs_X_274 (c_isName (Iy1 hj)) (by first | rfl | exact Nat.ble_eq_true_of_le (by omega)) (by first | rfl | exact Nat.ble_eq_true_of_le (by omega)) (by first | rfl | exact Nat.ble_eq_true_of_le (by omega)) rfl ?_
        refine s_if_eq dX_phrase_4 (fun q => absurd q (by decide)) (fun _ => ?_)
        refine s_aload_n dX_phrase_7 rfl rfl ?_
        refine s_get dX_phrase_8 gf_X_10 (by repeat (first | exact up_self | assumption | rw [up_ne (by first | assumption | (intro q0; cases q0; done) | (intro q0; simp at q0; omega))])) ?_
        refine s_iload_n dX_phrase_11 rfl rfl ?_
        refine s_v1 dX_phrase_12 cv_X_75 (by repeat (first | exact up_self | assumption | rw [up_ne (by first | assumption | (intro q0; cases q0; done) | (intro q0; simp at q0; omega))])) (c_has Ik hK (Iy1 hi)) (by first | rfl | exact Nat.ble_eq_true_of_le (by omega)) (by first | rfl | exact Nat.ble_eq_true_of_le (by omega)) (by first | rfl | exact Nat.ble_eq_true_of_le (by omega)) rfl ?_
        refine s_if_eq dX_phrase_15 (fun q => absurd q (by decide)) (fun _ => ?_)
        refine s_aload_n dX_phrase_18 rfl rfl ?_
        refine s_get dX_phrase_19 gf_X_10 (by repeat (first | exact up_self | assumption | rw [up_ne (by first | assumption | (intro q0; cases q0; done) | (intro q0; simp at q0; omega))])) ?_
        refine s_iload_n dX_phrase_22 rfl rfl ?_
        refine s_v1 dX_phrase_23 cv_X_75 (by repeat (first | exact up_self | assumption | rw [up_ne (by first | assumption | (intro q0; cases q0; done) | (intro q0; simp at q0; omega))])) (c_has Ik hK (Iy1 hi2)) (by first | rfl | exact Nat.ble_eq_true_of_le (by omega)) (by first | rfl | exact Nat.ble_eq_true_of_le (by omega)) (by first | rfl | exact Nat.ble_eq_true_of_le (by omega)) rfl ?_
        refine s_if_ne dX_phrase_26 (fun _ => ?_) (fun q => absurd q (by decide))
        refine s_aload_n dX_phrase_31 rfl rfl ?_
        refine s_get dX_phrase_32 gf_X_62 (by repeat (first | exact up_self | assumption | rw [up_ne (by first | assumption | (intro q0; cases q0; done) | (intro q0; simp at q0; omega))])) ?_
        refine s_iload_n dX_phrase_35 rfl rfl ?_
        refine s_iload_n dX_phrase_36 rfl rfl ?_
        refine s_iload_n dX_phrase_37 rfl rfl ?_
        refine s_callV (As := [_, _, _]) dX_phrase_38 cv_X_277 (by repeat (first | exact up_self | assumption | rw [up_ne (by first | assumption | (intro q0; cases q0; done) | (intro q0; simp at q0; omega))])) (c_Phr_add I hP) (by first | rfl | exact Nat.ble_eq_true_of_le (by omega)) (by first | rfl | exact Nat.ble_eq_true_of_le (by omega)) (by first | rfl | exact Nat.ble_eq_true_of_le (by omega)) rfl (fun v0 h2 q0 => ?_)
        obtain ⟨F2, q0⟩ := q0
        cases ht : isTo σ (nI j) (nI i) (nI i2) P with
        | true =>
          rw [ht, if_pos rfl] at q0
          obtain ⟨rfl, rfl⟩ := q0
          rw [if_pos rfl]
          refine s_iret dX_phrase_41 rfl (by first | exact Nat.le_refl _ | decide | omega) (by first | exact Nat.le_refl _ | decide | omega) ?_
          exact ⟨rfl, F2, P, hP, I, h50⟩
        | false =>
          rw [ht, if_neg (by decide)] at q0
          rw [if_neg (by decide)]
          by_cases c4 : P = 40
          · rw [if_pos c4] at q0
            obtain ⟨rfl, rfl⟩ := q0
            rw [if_pos c4]
            refine s_iret dX_phrase_41 rfl (by first | exact Nat.le_refl _ | decide | omega) (by first | exact Nat.le_refl _ | decide | omega) ?_
            exact ⟨rfl, F2, P, hP, I, h50⟩
          · rw [if_neg c4] at q0
            obtain ⟨rfl, I2⟩ := q0
            rw [if_neg c4]
            refine s_iret dX_phrase_41 rfl (by first | exact Nat.le_refl _ | decide | omega) (by first | exact Nat.le_refl _ | decide | omega) ?_
            exact ⟨rfl, F2, P + 1, by omega, I2, by dsimp only; rw [us_s]⟩
/-- a phrase is meant, by kinds -/
def mkn (σ : Sg) (n : Int32) (a b q : Nat) : Bool := decide (σ 51 (3 * q) = n) && und σ 20 a (p1 σ q) && und σ 20 b (p2 σ q)
def mks (σ : Sg) (n : Int32) (a b p : Nat) : Nat → Bool
  | 0 => true
  | q + 1 => mks σ n a b p q && (!mkn σ n a b q || mkn σ n (p1 σ p) (p2 σ p) q)
theorem c_isMeant {h : Hp} {σ : Sg} {K P a b q : Nat} {n : Int32} (Ik : kC h σ K) (T : KP σ K) (I : fC h σ P) (P1 : PH σ P K) (ha : a < K) (hb : b < K) (hq : q < P) : ConF mPhr_isMeant 1 [vR (43, 0, 0), vI (nI q), vI n, vI (nI a), vI (nI b)] h (some (vI (zi (mkn σ n a b q)))) h := by
  obtain ⟨hP, P2⟩ := P1
  obtain ⟨⟨x, hx, ex⟩, y, hy, ey⟩ := P2 q hq
  obtain ⟨e1, f1, f2, f3, e2, e3, e4, e5⟩ := I
  obtain ⟨g1, g2, g3⟩ := e5 q hq
  have ek := Ik.1
  have hK := T.2.1
  unfold mkn p1 p2
  rw [ex, ey, nt_nI (by omega), nt_nI (by omega)]
  have c1 := c_isUnder Ik T ha hx
  have c2 := c_isUnder Ik T hb hy
  refine c_enter (by decide +kernel) rfl rfl ?_
  by_cases z1 : σ 51 (3 * q) = n
  · cases z2 : und σ 20 a x with
    | false =>
      rw [z2] at c1
      refine s_aload_n dPhr_isMeant_0 rfl rfl ?_
      refine s_get dPhr_isMeant_1 gf_Phr_9 (by repeat (first | exact up_self | assumption | rw [up_ne (by first | assumption | (intro q0; cases q0; done) | (intro q0; simp at q0; omega))])) ?_
      refine s_iload_n dPhr_isMeant_4 rfl rfl ?_
      refine s_ialdN dPhr_isMeant_5 (by repeat (first | exact up_self | assumption | rw [up_ne (by first | assumption | (intro q0; cases q0; done) | (intro q0; simp at q0; omega))])) (by omega) (by omega) ?_
      refine s_tv g1 ?_
      refine s_iload_n dPhr_isMeant_6 rfl rfl ?_
      refine s_icmp_ne dPhr_isMeant_7 (fun q => absurd z1 q) (fun _ => ?_)
      refine s_aload_n dPhr_isMeant_10 rfl rfl ?_
      refine s_get dPhr_isMeant_11 gf_Phr_21 (by repeat (first | exact up_self | assumption | rw [up_ne (by first | assumption | (intro q0; cases q0; done) | (intro q0; simp at q0; omega))])) ?_
      refine s_iload_n dPhr_isMeant_14 rfl rfl ?_
      refine s_aload_n dPhr_isMeant_15 rfl rfl ?_
      refine s_get dPhr_isMeant_16 gf_Phr_15 (by repeat (first | exact up_self | assumption | rw [up_ne (by first | assumption | (intro q0; cases q0; done) | (intro q0; simp at q0; omega))])) ?_
      refine s_iload_n dPhr_isMeant_19 rfl rfl ?_
      refine s_ialdN dPhr_isMeant_20 (by repeat (first | exact up_self | assumption | rw [up_ne (by first | assumption | (intro q0; cases q0; done) | (intro q0; simp at q0; omega))])) (by omega) (by omega) ?_
      refine s_tv (g2.trans (congrArg vI ex)) ?_
      refine s_v2 dPhr_isMeant_21 cv_Phr_40 (by repeat (first | exact up_self | assumption | rw [up_ne (by first | assumption | (intro q0; cases q0; done) | (intro q0; simp at q0; omega))])) (c1) (by first | rfl | exact Nat.ble_eq_true_of_le (by omega)) (by first | rfl | exact Nat.ble_eq_true_of_le (by omega)) (by first | rfl | exact Nat.ble_eq_true_of_le (by omega)) rfl ?_
      refine s_if_eq dPhr_isMeant_24 (fun _ => ?_) (fun q => absurd rfl q)
      refine s_iconst (v := 0) dPhr_isMeant_49 (by decide) ?_
      refine s_zret dPhr_isMeant_50 rfl (by first | exact Or.inl rfl | exact Or.inr rfl | assumption) (by first | exact Nat.le_refl _ | decide | omega) (by first | exact Nat.le_refl _ | decide | omega) ?_
      exact ⟨by simp, rfl⟩
    | true =>
      rw [z2] at c1
      cases z3 : und σ 20 b y with
      | false =>
        rw [z3] at c2
        refine s_aload_n dPhr_isMeant_0 rfl rfl ?_
        refine s_get dPhr_isMeant_1 gf_Phr_9 (by repeat (first | exact up_self | assumption | rw [up_ne (by first | assumption | (intro q0; cases q0; done) | (intro q0; simp at q0; omega))])) ?_
        refine s_iload_n dPhr_isMeant_4 rfl rfl ?_
        refine s_ialdN dPhr_isMeant_5 (by repeat (first | exact up_self | assumption | rw [up_ne (by first | assumption | (intro q0; cases q0; done) | (intro q0; simp at q0; omega))])) (by omega) (by omega) ?_
        refine s_tv g1 ?_
        refine s_iload_n dPhr_isMeant_6 rfl rfl ?_
        refine s_icmp_ne dPhr_isMeant_7 (fun q => absurd z1 q) (fun _ => ?_)
        refine s_aload_n dPhr_isMeant_10 rfl rfl ?_
        refine s_get dPhr_isMeant_11 gf_Phr_21 (by repeat (first | exact up_self | assumption | rw [up_ne (by first | assumption | (intro q0; cases q0; done) | (intro q0; simp at q0; omega))])) ?_
        refine s_iload_n dPhr_isMeant_14 rfl rfl ?_
        refine s_aload_n dPhr_isMeant_15 rfl rfl ?_
        refine s_get dPhr_isMeant_16 gf_Phr_15 (by repeat (first | exact up_self | assumption | rw [up_ne (by first | assumption | (intro q0; cases q0; done) | (intro q0; simp at q0; omega))])) ?_
        refine s_iload_n dPhr_isMeant_19 rfl rfl ?_
        refine s_ialdN dPhr_isMeant_20 (by repeat (first | exact up_self | assumption | rw [up_ne (by first | assumption | (intro q0; cases q0; done) | (intro q0; simp at q0; omega))])) (by omega) (by omega) ?_
        refine s_tv (g2.trans (congrArg vI ex)) ?_
        refine s_v2 dPhr_isMeant_21 cv_Phr_40 (by repeat (first | exact up_self | assumption | rw [up_ne (by first | assumption | (intro q0; cases q0; done) | (intro q0; simp at q0; omega))])) (c1) (by first | rfl | exact Nat.ble_eq_true_of_le (by omega)) (by first | rfl | exact Nat.ble_eq_true_of_le (by omega)) (by first | rfl | exact Nat.ble_eq_true_of_le (by omega)) rfl ?_
        refine s_if_eq dPhr_isMeant_24 (fun q => absurd q (by decide)) (fun _ => ?_)
        refine s_aload_n dPhr_isMeant_27 rfl rfl ?_
        refine s_get dPhr_isMeant_28 gf_Phr_21 (by repeat (first | exact up_self | assumption | rw [up_ne (by first | assumption | (intro q0; cases q0; done) | (intro q0; simp at q0; omega))])) ?_
        refine s_iload dPhr_isMeant_31 rfl ?_
        refine s_aload_n dPhr_isMeant_33 rfl rfl ?_
        refine s_get dPhr_isMeant_34 gf_Phr_18 (by repeat (first | exact up_self | assumption | rw [up_ne (by first | assumption | (intro q0; cases q0; done) | (intro q0; simp at q0; omega))])) ?_
        refine s_iload_n dPhr_isMeant_37 rfl rfl ?_
        refine s_ialdN dPhr_isMeant_38 (by repeat (first | exact up_self | assumption | rw [up_ne (by first | assumption | (intro q0; cases q0; done) | (intro q0; simp at q0; omega))])) (by omega) (by omega) ?_
        refine s_tv (g3.trans (congrArg vI ey)) ?_
        refine s_v2 dPhr_isMeant_39 cv_Phr_40 (by repeat (first | exact up_self | assumption | rw [up_ne (by first | assumption | (intro q0; cases q0; done) | (intro q0; simp at q0; omega))])) (c2) (by first | rfl | exact Nat.ble_eq_true_of_le (by omega)) (by first | rfl | exact Nat.ble_eq_true_of_le (by omega)) (by first | rfl | exact Nat.ble_eq_true_of_le (by omega)) rfl ?_
        refine s_if_eq dPhr_isMeant_42 (fun _ => ?_) (fun q => absurd rfl q)
        refine s_iconst (v := 0) dPhr_isMeant_49 (by decide) ?_
        refine s_zret dPhr_isMeant_50 rfl (by first | exact Or.inl rfl | exact Or.inr rfl | assumption) (by first | exact Nat.le_refl _ | decide | omega) (by first | exact Nat.le_refl _ | decide | omega) ?_
        exact ⟨by simp, rfl⟩
      | true =>
        rw [z3] at c2
        refine s_aload_n dPhr_isMeant_0 rfl rfl ?_
        refine s_get dPhr_isMeant_1 gf_Phr_9 (by repeat (first | exact up_self | assumption | rw [up_ne (by first | assumption | (intro q0; cases q0; done) | (intro q0; simp at q0; omega))])) ?_
        refine s_iload_n dPhr_isMeant_4 rfl rfl ?_
        refine s_ialdN dPhr_isMeant_5 (by repeat (first | exact up_self | assumption | rw [up_ne (by first | assumption | (intro q0; cases q0; done) | (intro q0; simp at q0; omega))])) (by omega) (by omega) ?_
        refine s_tv g1 ?_
        refine s_iload_n dPhr_isMeant_6 rfl rfl ?_
        refine s_icmp_ne dPhr_isMeant_7 (fun q => absurd z1 q) (fun _ => ?_)
        refine s_aload_n dPhr_isMeant_10 rfl rfl ?_
        refine s_get dPhr_isMeant_11 gf_Phr_21 (by repeat (first | exact up_self | assumption | rw [up_ne (by first | assumption | (intro q0; cases q0; done) | (intro q0; simp at q0; omega))])) ?_
        refine s_iload_n dPhr_isMeant_14 rfl rfl ?_
        refine s_aload_n dPhr_isMeant_15 rfl rfl ?_
        refine s_get dPhr_isMeant_16 gf_Phr_15 (by repeat (first | exact up_self | assumption | rw [up_ne (by first | assumption | (intro q0; cases q0; done) | (intro q0; simp at q0; omega))])) ?_
        refine s_iload_n dPhr_isMeant_19 rfl rfl ?_
        refine s_ialdN dPhr_isMeant_20 (by repeat (first | exact up_self | assumption | rw [up_ne (by first | assumption | (intro q0; cases q0; done) | (intro q0; simp at q0; omega))])) (by omega) (by omega) ?_
        refine s_tv (g2.trans (congrArg vI ex)) ?_
        refine s_v2 dPhr_isMeant_21 cv_Phr_40 (by repeat (first | exact up_self | assumption | rw [up_ne (by first | assumption | (intro q0; cases q0; done) | (intro q0; simp at q0; omega))])) (c1) (by first | rfl | exact Nat.ble_eq_true_of_le (by omega)) (by first | rfl | exact Nat.ble_eq_true_of_le (by omega)) (by first | rfl | exact Nat.ble_eq_true_of_le (by omega)) rfl ?_
        refine s_if_eq dPhr_isMeant_24 (fun q => absurd q (by decide)) (fun _ => ?_)
        refine s_aload_n dPhr_isMeant_27 rfl rfl ?_
        refine s_get dPhr_isMeant_28 gf_Phr_21 (by repeat (first | exact up_self | assumption | rw [up_ne (by first | assumption | (intro q0; cases q0; done) | (intro q0; simp at q0; omega))])) ?_
        refine s_iload dPhr_isMeant_31 rfl ?_
        refine s_aload_n dPhr_isMeant_33 rfl rfl ?_
        refine s_get dPhr_isMeant_34 gf_Phr_18 (by repeat (first | exact up_self | assumption | rw [up_ne (by first | assumption | (intro q0; cases q0; done) | (intro q0; simp at q0; omega))])) ?_
        refine s_iload_n dPhr_isMeant_37 rfl rfl ?_
        refine s_ialdN dPhr_isMeant_38 (by repeat (first | exact up_self | assumption | rw [up_ne (by first | assumption | (intro q0; cases q0; done) | (intro q0; simp at q0; omega))])) (by omega) (by omega) ?_
        refine s_tv (g3.trans (congrArg vI ey)) ?_
        refine s_v2 dPhr_isMeant_39 cv_Phr_40 (by repeat (first | exact up_self | assumption | rw [up_ne (by first | assumption | (intro q0; cases q0; done) | (intro q0; simp at q0; omega))])) (c2) (by first | rfl | exact Nat.ble_eq_true_of_le (by omega)) (by first | rfl | exact Nat.ble_eq_true_of_le (by omega)) (by first | rfl | exact Nat.ble_eq_true_of_le (by omega)) rfl ?_
        refine s_if_eq dPhr_isMeant_42 (fun q => absurd q (by decide)) (fun _ => ?_)
        refine s_iconst (v := 1) dPhr_isMeant_45 (by decide) ?_
        refine s_goto dPhr_isMeant_46 ?_
        refine s_zret dPhr_isMeant_50 rfl (by first | exact Or.inl rfl | exact Or.inr rfl | assumption) (by first | exact Nat.le_refl _ | decide | omega) (by first | exact Nat.le_refl _ | decide | omega) ?_
        exact ⟨by simp [z1], rfl⟩
  · refine s_aload_n dPhr_isMeant_0 rfl rfl ?_
    refine s_get dPhr_isMeant_1 gf_Phr_9 (by repeat (first | exact up_self | assumption | rw [up_ne (by first | assumption | (intro q0; cases q0; done) | (intro q0; simp at q0; omega))])) ?_
    refine s_iload_n dPhr_isMeant_4 rfl rfl ?_
    refine s_ialdN dPhr_isMeant_5 (by repeat (first | exact up_self | assumption | rw [up_ne (by first | assumption | (intro q0; cases q0; done) | (intro q0; simp at q0; omega))])) (by omega) (by omega) ?_
    refine s_tv g1 ?_
    refine s_iload_n dPhr_isMeant_6 rfl rfl ?_
    refine s_icmp_ne dPhr_isMeant_7 (fun _ => ?_) (fun q => absurd q z1)
    refine s_iconst (v := 0) dPhr_isMeant_49 (by decide) ?_
    refine s_zret dPhr_isMeant_50 rfl (by first | exact Or.inl rfl | exact Or.inr rfl | assumption) (by first | exact Nat.le_refl _ | decide | omega) (by first | exact Nat.le_refl _ | decide | omega) ?_
    exact ⟨by simp [z1], rfl⟩
theorem mks_f {σ : Sg} {n : Int32} {a b p k : Nat} (h1 : mkn σ n a b k = true) (h2 : mkn σ n (p1 σ p) (p2 σ p) k = false) : ∀ m, k < m → mks σ n a b p m = false := by
  intro m
  induction m with
  | zero => intro z1; omega
  | succ m ih1 =>
    intro z1
    by_cases c1 : k = m
    · subst c1; simp [mks, h1, h2]
    · simp [mks, ih1 (by omega)]
theorem l_allMeant {h : Hp} {σ : Sg} {K P a b p : Nat} {n : Int32} {Q : Option PV → Hp → Prop} (Ik : kC h σ K) (T : KP σ K) (I : fC h σ P) (P1 : PH σ P K) (ha : a < K) (hb : b < K) (hp : p < P) (en : σ 51 (3 * p) = n) (hq : Q (some (vI (zi (mks σ n a b p P)))) h) :
    ∀ (m k : Nat), k + m = P → mks σ n a b p k = true → S mPhr_isUnderAllMeant 2 0 0 Q 3 [some (vR (43, 0, 0)), some (vI (nI p)), some (vI (nI a)), some (vI (nI b)), some (vI (nI k))] [] h 0 0 := by
  have hP := P1.1
  have hK := T.2.1
  obtain ⟨⟨x, hx, ex⟩, y, hy, ey⟩ := P1.2 p hp
  have I0 := I
  obtain ⟨e1, f1, f2, f3, e2, e3, e4, e5⟩ := I
  obtain ⟨g1, g2, g3⟩ := e5 p hp
  rw [en] at g1
  have exn : p1 σ p = x := by show nt (σ 51 (3 * p + 1)) = x; rw [ex, nt_nI (by omega)]
  have eyn : p2 σ p = y := by show nt (σ 51 (3 * p + 2)) = y; rw [ey, nt_nI (by omega)]
  intro m
  induction m with
  | zero =>
    intro k hk ht
    have ek : k = P := by omega
    subst ek
    refine s_iload dPhr_isUnderAllMeant_3 rfl ?_
    refine s_aload_n dPhr_isUnderAllMeant_5 rfl rfl ?_
    refine s_get dPhr_isUnderAllMeant_6 gf_Phr_29 (by repeat (first | exact up_self | assumption | rw [up_ne (by first | assumption | (intro q0; cases q0; done) | (intro q0; simp at q0; omega))])) ?_
    refine s_icmp_ge dPhr_isUnderAllMeant_9 (fun _ => ?_) (fun q => absurd (nI_le (Nat.le_refl _) (by omega)) q)
    refine s_iconst (v := 1) dPhr_isUnderAllMeant_64 (by decide) ?_
    refine s_zret dPhr_isUnderAllMeant_65 rfl (by first | exact Or.inl rfl | exact Or.inr rfl | assumption) (by first | exact Nat.le_refl _ | decide | omega) (by first | exact Nat.le_refl _ | decide | omega) ?_
    rw [ht] at hq
    exact hq
  | succ m ih =>
    intro k hk ht
    have hkN : k < P := by omega
    have c1 := c_isMeant (n := n) Ik T I0 P1 ha hb hkN
    have c2 := c_isMeant (n := n) Ik T I0 P1 hx hy hkN
    cases z1 : mkn σ n a b k with
    | false =>
      rw [z1] at c1
      refine s_iload dPhr_isUnderAllMeant_3 rfl ?_
      refine s_aload_n dPhr_isUnderAllMeant_5 rfl rfl ?_
      refine s_get dPhr_isUnderAllMeant_6 gf_Phr_29 (by repeat (first | exact up_self | assumption | rw [up_ne (by first | assumption | (intro q0; cases q0; done) | (intro q0; simp at q0; omega))])) ?_
      refine s_icmp_ge dPhr_isUnderAllMeant_9 (fun q => absurd q (nI_ge hkN (by omega))) (fun _ => ?_)
      refine s_aload_n dPhr_isUnderAllMeant_12 rfl rfl ?_
      refine s_iload dPhr_isUnderAllMeant_13 rfl ?_
      refine s_aload_n dPhr_isUnderAllMeant_15 rfl rfl ?_
      refine s_get dPhr_isUnderAllMeant_16 gf_Phr_9 (by repeat (first | exact up_self | assumption | rw [up_ne (by first | assumption | (intro q0; cases q0; done) | (intro q0; simp at q0; omega))])) ?_
      refine s_iload_n dPhr_isUnderAllMeant_19 rfl rfl ?_
      refine s_ialdN dPhr_isUnderAllMeant_20 (by repeat (first | exact up_self | assumption | rw [up_ne (by first | assumption | (intro q0; cases q0; done) | (intro q0; simp at q0; omega))])) (by omega) (by omega) ?_
      refine s_tv g1 ?_
      refine s_iload_n dPhr_isUnderAllMeant_21 rfl rfl ?_
      refine s_iload_n dPhr_isUnderAllMeant_22 rfl rfl ?_
      refine s_v4 dPhr_isUnderAllMeant_23 cv_Phr_33 (by repeat (first | exact up_self | assumption | rw [up_ne (by first | assumption | (intro q0; cases q0; done) | (intro q0; simp at q0; omega))])) (c1) (by first | rfl | exact Nat.ble_eq_true_of_le (by omega)) (by first | rfl | exact Nat.ble_eq_true_of_le (by omega)) (by first | rfl | exact Nat.ble_eq_true_of_le (by omega)) rfl ?_
      refine s_if_eq dPhr_isUnderAllMeant_26 (fun _ => ?_) (fun q => absurd rfl q)
      first | refine s_iincN dPhr_isUnderAllMeant_58 rfl rfl ?_ | refine s_iinc dPhr_isUnderAllMeant_58 rfl rfl ?_
      refine s_goto dPhr_isUnderAllMeant_61 ?_
      exact ih (k + 1) (by omega) (by simp [mks, ht, z1])
    | true =>
      rw [z1] at c1
      cases z2 : mkn σ n x y k with
      | true =>
        rw [z2] at c2
        refine s_iload dPhr_isUnderAllMeant_3 rfl ?_
        refine s_aload_n dPhr_isUnderAllMeant_5 rfl rfl ?_
        refine s_get dPhr_isUnderAllMeant_6 gf_Phr_29 (by repeat (first | exact up_self | assumption | rw [up_ne (by first | assumption | (intro q0; cases q0; done) | (intro q0; simp at q0; omega))])) ?_
        refine s_icmp_ge dPhr_isUnderAllMeant_9 (fun q => absurd q (nI_ge hkN (by omega))) (fun _ => ?_)
        refine s_aload_n dPhr_isUnderAllMeant_12 rfl rfl ?_
        refine s_iload dPhr_isUnderAllMeant_13 rfl ?_
        refine s_aload_n dPhr_isUnderAllMeant_15 rfl rfl ?_
        refine s_get dPhr_isUnderAllMeant_16 gf_Phr_9 (by repeat (first | exact up_self | assumption | rw [up_ne (by first | assumption | (intro q0; cases q0; done) | (intro q0; simp at q0; omega))])) ?_
        refine s_iload_n dPhr_isUnderAllMeant_19 rfl rfl ?_
        refine s_ialdN dPhr_isUnderAllMeant_20 (by repeat (first | exact up_self | assumption | rw [up_ne (by first | assumption | (intro q0; cases q0; done) | (intro q0; simp at q0; omega))])) (by omega) (by omega) ?_
        refine s_tv g1 ?_
        refine s_iload_n dPhr_isUnderAllMeant_21 rfl rfl ?_
        refine s_iload_n dPhr_isUnderAllMeant_22 rfl rfl ?_
        refine s_v4 dPhr_isUnderAllMeant_23 cv_Phr_33 (by repeat (first | exact up_self | assumption | rw [up_ne (by first | assumption | (intro q0; cases q0; done) | (intro q0; simp at q0; omega))])) (c1) (by first | rfl | exact Nat.ble_eq_true_of_le (by omega)) (by first | rfl | exact Nat.ble_eq_true_of_le (by omega)) (by first | rfl | exact Nat.ble_eq_true_of_le (by omega)) rfl ?_
        refine s_if_eq dPhr_isUnderAllMeant_26 (fun q => absurd q (by decide)) (fun _ => ?_)
        refine s_aload_n dPhr_isUnderAllMeant_29 rfl rfl ?_
        refine s_iload dPhr_isUnderAllMeant_30 rfl ?_
        refine s_aload_n dPhr_isUnderAllMeant_32 rfl rfl ?_
        refine s_get dPhr_isUnderAllMeant_33 gf_Phr_9 (by repeat (first | exact up_self | assumption | rw [up_ne (by first | assumption | (intro q0; cases q0; done) | (intro q0; simp at q0; omega))])) ?_
        refine s_iload_n dPhr_isUnderAllMeant_36 rfl rfl ?_
        refine s_ialdN dPhr_isUnderAllMeant_37 (by repeat (first | exact up_self | assumption | rw [up_ne (by first | assumption | (intro q0; cases q0; done) | (intro q0; simp at q0; omega))])) (by omega) (by omega) ?_
        refine s_tv g1 ?_
        refine s_aload_n dPhr_isUnderAllMeant_38 rfl rfl ?_
        refine s_get dPhr_isUnderAllMeant_39 gf_Phr_15 (by repeat (first | exact up_self | assumption | rw [up_ne (by first | assumption | (intro q0; cases q0; done) | (intro q0; simp at q0; omega))])) ?_
        refine s_iload_n dPhr_isUnderAllMeant_42 rfl rfl ?_
        refine s_ialdN dPhr_isUnderAllMeant_43 (by repeat (first | exact up_self | assumption | rw [up_ne (by first | assumption | (intro q0; cases q0; done) | (intro q0; simp at q0; omega))])) (by omega) (by omega) ?_
        refine s_tv (g2.trans (congrArg vI ex)) ?_
        refine s_aload_n dPhr_isUnderAllMeant_44 rfl rfl ?_
        refine s_get dPhr_isUnderAllMeant_45 gf_Phr_18 (by repeat (first | exact up_self | assumption | rw [up_ne (by first | assumption | (intro q0; cases q0; done) | (intro q0; simp at q0; omega))])) ?_
        refine s_iload_n dPhr_isUnderAllMeant_48 rfl rfl ?_
        refine s_ialdN dPhr_isUnderAllMeant_49 (by repeat (first | exact up_self | assumption | rw [up_ne (by first | assumption | (intro q0; cases q0; done) | (intro q0; simp at q0; omega))])) (by omega) (by omega) ?_
        refine s_tv (g3.trans (congrArg vI ey)) ?_
        refine s_v4 dPhr_isUnderAllMeant_50 cv_Phr_33 (by repeat (first | exact up_self | assumption | rw [up_ne (by first | assumption | (intro q0; cases q0; done) | (intro q0; simp at q0; omega))])) (c2) (by first | rfl | exact Nat.ble_eq_true_of_le (by omega)) (by first | rfl | exact Nat.ble_eq_true_of_le (by omega)) (by first | rfl | exact Nat.ble_eq_true_of_le (by omega)) rfl ?_
        refine s_if_ne dPhr_isUnderAllMeant_53 (fun _ => ?_) (fun q => absurd q (by decide))
        first | refine s_iincN dPhr_isUnderAllMeant_58 rfl rfl ?_ | refine s_iinc dPhr_isUnderAllMeant_58 rfl rfl ?_
        refine s_goto dPhr_isUnderAllMeant_61 ?_
        exact ih (k + 1) (by omega) (by simp [mks, ht, exn, eyn, z2])
      | false =>
        rw [z2] at c2
        refine s_iload dPhr_isUnderAllMeant_3 rfl ?_
        refine s_aload_n dPhr_isUnderAllMeant_5 rfl rfl ?_
        refine s_get dPhr_isUnderAllMeant_6 gf_Phr_29 (by repeat (first | exact up_self | assumption | rw [up_ne (by first | assumption | (intro q0; cases q0; done) | (intro q0; simp at q0; omega))])) ?_
        refine s_icmp_ge dPhr_isUnderAllMeant_9 (fun q => absurd q (nI_ge hkN (by omega))) (fun _ => ?_)
        refine s_aload_n dPhr_isUnderAllMeant_12 rfl rfl ?_
        refine s_iload dPhr_isUnderAllMeant_13 rfl ?_
        refine s_aload_n dPhr_isUnderAllMeant_15 rfl rfl ?_
        refine s_get dPhr_isUnderAllMeant_16 gf_Phr_9 (by repeat (first | exact up_self | assumption | rw [up_ne (by first | assumption | (intro q0; cases q0; done) | (intro q0; simp at q0; omega))])) ?_
        refine s_iload_n dPhr_isUnderAllMeant_19 rfl rfl ?_
        refine s_ialdN dPhr_isUnderAllMeant_20 (by repeat (first | exact up_self | assumption | rw [up_ne (by first | assumption | (intro q0; cases q0; done) | (intro q0; simp at q0; omega))])) (by omega) (by omega) ?_
        refine s_tv g1 ?_
        refine s_iload_n dPhr_isUnderAllMeant_21 rfl rfl ?_
        refine s_iload_n dPhr_isUnderAllMeant_22 rfl rfl ?_
        refine s_v4 dPhr_isUnderAllMeant_23 cv_Phr_33 (by repeat (first | exact up_self | assumption | rw [up_ne (by first | assumption | (intro q0; cases q0; done) | (intro q0; simp at q0; omega))])) (c1) (by first | rfl | exact Nat.ble_eq_true_of_le (by omega)) (by first | rfl | exact Nat.ble_eq_true_of_le (by omega)) (by first | rfl | exact Nat.ble_eq_true_of_le (by omega)) rfl ?_
        refine s_if_eq dPhr_isUnderAllMeant_26 (fun q => absurd q (by decide)) (fun _ => ?_)
        refine s_aload_n dPhr_isUnderAllMeant_29 rfl rfl ?_
        refine s_iload dPhr_isUnderAllMeant_30 rfl ?_
        refine s_aload_n dPhr_isUnderAllMeant_32 rfl rfl ?_
        refine s_get dPhr_isUnderAllMeant_33 gf_Phr_9 (by repeat (first | exact up_self | assumption | rw [up_ne (by first | assumption | (intro q0; cases q0; done) | (intro q0; simp at q0; omega))])) ?_
        refine s_iload_n dPhr_isUnderAllMeant_36 rfl rfl ?_
        refine s_ialdN dPhr_isUnderAllMeant_37 (by repeat (first | exact up_self | assumption | rw [up_ne (by first | assumption | (intro q0; cases q0; done) | (intro q0; simp at q0; omega))])) (by omega) (by omega) ?_
        refine s_tv g1 ?_
        refine s_aload_n dPhr_isUnderAllMeant_38 rfl rfl ?_
        refine s_get dPhr_isUnderAllMeant_39 gf_Phr_15 (by repeat (first | exact up_self | assumption | rw [up_ne (by first | assumption | (intro q0; cases q0; done) | (intro q0; simp at q0; omega))])) ?_
        refine s_iload_n dPhr_isUnderAllMeant_42 rfl rfl ?_
        refine s_ialdN dPhr_isUnderAllMeant_43 (by repeat (first | exact up_self | assumption | rw [up_ne (by first | assumption | (intro q0; cases q0; done) | (intro q0; simp at q0; omega))])) (by omega) (by omega) ?_
        refine s_tv (g2.trans (congrArg vI ex)) ?_
        refine s_aload_n dPhr_isUnderAllMeant_44 rfl rfl ?_
        refine s_get dPhr_isUnderAllMeant_45 gf_Phr_18 (by repeat (first | exact up_self | assumption | rw [up_ne (by first | assumption | (intro q0; cases q0; done) | (intro q0; simp at q0; omega))])) ?_
        refine s_iload_n dPhr_isUnderAllMeant_48 rfl rfl ?_
        refine s_ialdN dPhr_isUnderAllMeant_49 (by repeat (first | exact up_self | assumption | rw [up_ne (by first | assumption | (intro q0; cases q0; done) | (intro q0; simp at q0; omega))])) (by omega) (by omega) ?_
        refine s_tv (g3.trans (congrArg vI ey)) ?_
        refine s_v4 dPhr_isUnderAllMeant_50 cv_Phr_33 (by repeat (first | exact up_self | assumption | rw [up_ne (by first | assumption | (intro q0; cases q0; done) | (intro q0; simp at q0; omega))])) (c2) (by first | rfl | exact Nat.ble_eq_true_of_le (by omega)) (by first | rfl | exact Nat.ble_eq_true_of_le (by omega)) (by first | rfl | exact Nat.ble_eq_true_of_le (by omega)) rfl ?_
        refine s_if_ne dPhr_isUnderAllMeant_53 (fun q => absurd rfl q) (fun _ => ?_)
        refine s_iconst (v := 0) dPhr_isUnderAllMeant_56 (by decide) ?_
        refine s_zret dPhr_isUnderAllMeant_57 rfl (by first | exact Or.inl rfl | exact Or.inr rfl | assumption) (by first | exact Nat.le_refl _ | decide | omega) (by first | exact Nat.le_refl _ | decide | omega) ?_
        rw [mks_f z1 (by rw [exn, eyn]; exact z2) P hkN] at hq
        exact hq
theorem c_allMeant {h : Hp} {σ : Sg} {K P a b p : Nat} {n : Int32} (Ik : kC h σ K) (T : KP σ K) (I : fC h σ P) (P1 : PH σ P K) (ha : a < K) (hb : b < K) (hp : p < P) (en : σ 51 (3 * p) = n) : ConF mPhr_isUnderAllMeant 2 [vR (43, 0, 0), vI (nI p), vI (nI a), vI (nI b)] h (some (vI (zi (mks σ n a b p P)))) h := by
  refine c_enter (by decide +kernel) rfl rfl ?_
  refine s_iconst (v := 0) dPhr_isUnderAllMeant_0 (by decide) ?_
  refine s_istore dPhr_isUnderAllMeant_1 rfl ?_
  exact l_allMeant Ik T I P1 ha hb hp en ⟨rfl, rfl⟩ P 0 (by omega) rfl
/-! the one most special phrase -/
theorem mks_mst {σ : Sg} {n : Int32} {f s p : Nat} : ∀ m, mks σ n (nt (σ 3 f)) (nt (σ 3 s)) p m = mst σ n f s p m := by
  intro m
  induction m with
  | zero => rfl
  | succ m ih1 =>
    unfold mks mst
    rw [ih1]
    have e1 : mkn σ n (nt (σ 3 f)) (nt (σ 3 s)) m = mnt σ n f s m := rfl
    rw [e1]
    cases h1 : mnt σ n f s m with
    | false => simp
    | true =>
      have h2 : σ 51 (3 * m) = n := by
        unfold mnt at h1
        simp only [Bool.and_eq_true, decide_eq_true_eq] at h1
        exact h1.1.1
      unfold mkn
      rw [h2]
      simp
theorem mst_q {σ : Sg} {n : Int32} {f s p q : Nat} : ∀ m, mst σ n f s p m = true → q < m → mnt σ n f s q = true → und σ 20 (p1 σ p) (p1 σ q) = true ∧ und σ 20 (p2 σ p) (p2 σ q) = true := by
  intro m
  induction m with
  | zero => intro _ h2; omega
  | succ m ih1 =>
    intro h1 h2 h3
    unfold mst at h1
    rw [Bool.and_eq_true] at h1
    by_cases c1 : q = m
    · subst c1
      rw [h3] at h1
      simpa using h1.2
    · exact ih1 h1.1 (by omega) h3
theorem und_anti {σ : Sg} {K a b : Nat} (T : KP σ K) (ha : a < K) (hb : b < K) (h1 : und σ 20 a b = true) (h2 : und σ 20 b a = true) : a = b := by
  have hK := T.2.1
  have d1 : ¬ dpt σ 20 a < dpt σ 20 b := fun z1 => by rw [und_low T 20 a (by omega) ha z1] at h1; cases h1
  rw [und_flat T 20 (by omega) hb (by omega)] at h2
  exact (of_decide_eq_true h2).symm
/-- no phrase is told twice -/
def PD (σ : Sg) (P : Nat) : Prop := ∀ p q, p < q → q < P → ¬ (σ 51 (3 * p) = σ 51 (3 * q) ∧ σ 51 (3 * p + 1) = σ 51 (3 * q + 1) ∧ σ 51 (3 * p + 2) = σ 51 (3 * q + 2))
theorem mst_one {σ : Sg} {K P f s p q : Nat} {n : Int32} (T : KP σ K) (P1 : PH σ P K) (D : PD σ P) (hp : p < P) (hq : q < P) (m1 : mnt σ n f s p = true) (m2 : mnt σ n f s q = true) (s1 : mst σ n f s p P = true) (s2 : mst σ n f s q P = true) : p = q := by
  obtain ⟨⟨x, hx, ex⟩, y, hy, ey⟩ := P1.2 p hp
  obtain ⟨⟨x2, hx2, ex2⟩, y2, hy2, ey2⟩ := P1.2 q hq
  have hK := T.2.1
  obtain ⟨a1, a2⟩ := mst_q P s1 hq m2
  obtain ⟨b1, b2⟩ := mst_q P s2 hp m1
  unfold p1 at a1 b1
  unfold p2 at a2 b2
  rw [ex, ex2, nt_nI (by omega), nt_nI (by omega)] at a1 b1
  rw [ey, ey2, nt_nI (by omega), nt_nI (by omega)] at a2 b2
  have ux := und_anti T hx hx2 a1 b1
  have uy := und_anti T hy hy2 a2 b2
  have n1 : σ 51 (3 * p) = n := by
    unfold mnt at m1
    simp only [Bool.and_eq_true, decide_eq_true_eq] at m1
    exact m1.1.1
  have n2 : σ 51 (3 * q) = n := by
    unfold mnt at m2
    simp only [Bool.and_eq_true, decide_eq_true_eq] at m2
    exact m2.1.1
  have al : σ 51 (3 * p) = σ 51 (3 * q) ∧ σ 51 (3 * p + 1) = σ 51 (3 * q + 1) ∧ σ 51 (3 * p + 2) = σ 51 (3 * q + 2) := ⟨by rw [n1, n2], by rw [ex, ex2, ux], by rw [ey, ey2, uy]⟩
  rcases Nat.lt_trichotomy p q with c1 | c1 | c1
  · exact absurd al (D p q c1 hq)
  · exact c1
  · exact absurd ⟨al.1.symm, al.2.1.symm, al.2.2.symm⟩ (D q p c1 hp)
theorem chs_stay {σ : Sg} {K P f s p : Nat} {n : Int32} (T : KP σ K) (P1 : PH σ P K) (D : PD σ P) (hp : p < P) (m1 : mnt σ n f s p = true) (s1 : mst σ n f s p P = true) : ∀ k, p < k → k ≤ P → chs σ n f s P k = nI p := by
  have hP := P1.1
  intro k
  induction k with
  | zero => intro h1; omega
  | succ k ih1 =>
    intro h1 h2
    by_cases c1 : k = p
    · subst c1
      simp only [chs, m1, s1, if_true]
    · have ih := ih1 (by omega) (by omega)
      cases z1 : mnt σ n f s k with
      | false => simp only [chs, z1]; exact ih
      | true =>
        cases z2 : mst σ n f s k P with
        | true => exact absurd (mst_one T P1 D hp (by omega) m1 z1 s1 z2).symm c1
        | false =>
          simp only [chs, z1, z2, if_true]
          rw [if_neg (by decide), ih, if_neg (nI_m4 (by omega))]
theorem chs_two {σ : Sg} {P f s : Nat} {n : Int32} : ∀ k, (∀ q, q < k → mnt σ n f s q = true → mst σ n f s q P = false) → chs σ n f s P k = -4 ∨ chs σ n f s P k = -5 := by
  intro k
  induction k with
  | zero => intro _; exact Or.inl rfl
  | succ k ih1 =>
    intro h1
    have ih := ih1 (fun q z1 => h1 q (by omega))
    cases z1 : mnt σ n f s k with
    | false => simp only [chs, z1]; exact ih
    | true =>
      simp only [chs, z1, h1 k (by omega) z1, if_true]
      rw [if_neg (by decide)]
      by_cases c1 : chs σ n f s P k = -4
      · rw [if_pos c1]; exact Or.inr rfl
      · rw [if_neg c1]; exact ih
theorem l_mostSpecial {h : Hp} {σ : Sg} {K N P f s a b : Nat} {n : Int32} {Q : Option PV → Hp → Prop} (Ik : kC h σ K) (T : KP σ K) (I : fC h σ P) (P1 : PH σ P K) (D : PD σ P) (ha : a < K) (hb : b < K) (ea : nt (σ 3 f) = a) (eb : nt (σ 3 s) = b) (hq : Q (some (vI (chs σ n f s P P))) h) :
    ∀ (m k : Nat), k + m = P → (∀ q, q < k → mnt σ n f s q = true → mst σ n f s q P = false) → S mPhr_mostSpecial 3 0 0 Q 7 [some (vR (43, 0, 0)), some (vI n), some (vI (nI a)), some (vI (nI b)), some (vI (chs σ n f s P k)), some (vI (nI k))] [] h 0 0 := by
  have hP := P1.1
  have e1 := I.1
  intro m
  induction m with
  | zero =>
    intro k hk ht
    have ek : k = P := by omega
    subst ek
    refine s_iload dPhr_mostSpecial_7 rfl ?_
    refine s_aload_n dPhr_mostSpecial_9 rfl rfl ?_
    refine s_get dPhr_mostSpecial_10 gf_Phr_29 (by repeat (first | exact up_self | assumption | rw [up_ne (by first | assumption | (intro q0; cases q0; done) | (intro q0; simp at q0; omega))])) ?_
    refine s_icmp_ge dPhr_mostSpecial_13 (fun _ => ?_) (fun q => absurd (nI_le (Nat.le_refl _) (by omega)) q)
    refine s_iload dPhr_mostSpecial_52 rfl ?_
    refine s_iret dPhr_mostSpecial_54 rfl (by first | exact Nat.le_refl _ | decide | omega) (by first | exact Nat.le_refl _ | decide | omega) ?_
    exact hq
  | succ m ih =>
    intro k hk ht
    have hkN : k < P := by omega
    have c1 := c_isMeant (n := n) Ik T I P1 ha hb hkN
    have em : mkn σ n a b k = mnt σ n f s k := by rw [← ea, ← eb]; rfl
    rw [em] at c1
    cases z1 : mnt σ n f s k with
    | false =>
      rw [z1] at c1
      refine s_iload dPhr_mostSpecial_7 rfl ?_
      refine s_aload_n dPhr_mostSpecial_9 rfl rfl ?_
      refine s_get dPhr_mostSpecial_10 gf_Phr_29 (by repeat (first | exact up_self | assumption | rw [up_ne (by first | assumption | (intro q0; cases q0; done) | (intro q0; simp at q0; omega))])) ?_
      refine s_icmp_ge dPhr_mostSpecial_13 (fun q => absurd q (nI_ge hkN (by omega))) (fun _ => ?_)
      refine s_aload_n dPhr_mostSpecial_16 rfl rfl ?_
      refine s_iload dPhr_mostSpecial_17 rfl ?_
      refine s_iload_n dPhr_mostSpecial_19 rfl rfl ?_
      refine s_iload_n dPhr_mostSpecial_20 rfl rfl ?_
      refine s_iload_n dPhr_mostSpecial_21 rfl rfl ?_
      refine s_v4 dPhr_mostSpecial_22 cv_Phr_33 (by repeat (first | exact up_self | assumption | rw [up_ne (by first | assumption | (intro q0; cases q0; done) | (intro q0; simp at q0; omega))])) (c1) (by first | rfl | exact Nat.ble_eq_true_of_le (by omega)) (by first | rfl | exact Nat.ble_eq_true_of_le (by omega)) (by first | rfl | exact Nat.ble_eq_true_of_le (by omega)) rfl ?_
      refine s_if_eq dPhr_mostSpecial_25 (fun _ => ?_) (fun q => absurd rfl q)
      first | refine s_iincN dPhr_mostSpecial_46 rfl rfl ?_ | refine s_iinc dPhr_mostSpecial_46 rfl rfl ?_
      refine s_goto dPhr_mostSpecial_49 ?_
      have e2 : chs σ n f s P (k + 1) = chs σ n f s P k := by simp only [chs, z1]; rfl
      rw [← e2]
      exact ih (k + 1) (by omega) (fun q z2 z3 => by
        by_cases c2 : q = k
        · rw [c2, z1] at z3; cases z3
        · exact ht q (by omega) z3)
    | true =>
      rw [z1] at c1
      have n1 : σ 51 (3 * k) = n := by
        unfold mnt at z1
        simp only [Bool.and_eq_true, decide_eq_true_eq] at z1
        exact z1.1.1
      have c2 := c_allMeant Ik T I P1 ha hb hkN n1
      have em2 : mks σ n a b k P = mst σ n f s k P := by rw [← ea, ← eb]; exact mks_mst P
      rw [em2] at c2
      cases z2 : mst σ n f s k P with
      | true =>
        rw [z2] at c2
        refine s_iload dPhr_mostSpecial_7 rfl ?_
        refine s_aload_n dPhr_mostSpecial_9 rfl rfl ?_
        refine s_get dPhr_mostSpecial_10 gf_Phr_29 (by repeat (first | exact up_self | assumption | rw [up_ne (by first | assumption | (intro q0; cases q0; done) | (intro q0; simp at q0; omega))])) ?_
        refine s_icmp_ge dPhr_mostSpecial_13 (fun q => absurd q (nI_ge hkN (by omega))) (fun _ => ?_)
        refine s_aload_n dPhr_mostSpecial_16 rfl rfl ?_
        refine s_iload dPhr_mostSpecial_17 rfl ?_
        refine s_iload_n dPhr_mostSpecial_19 rfl rfl ?_
        refine s_iload_n dPhr_mostSpecial_20 rfl rfl ?_
        refine s_iload_n dPhr_mostSpecial_21 rfl rfl ?_
        refine s_v4 dPhr_mostSpecial_22 cv_Phr_33 (by repeat (first | exact up_self | assumption | rw [up_ne (by first | assumption | (intro q0; cases q0; done) | (intro q0; simp at q0; omega))])) (c1) (by first | rfl | exact Nat.ble_eq_true_of_le (by omega)) (by first | rfl | exact Nat.ble_eq_true_of_le (by omega)) (by first | rfl | exact Nat.ble_eq_true_of_le (by omega)) rfl ?_
        refine s_if_eq dPhr_mostSpecial_25 (fun q => absurd q (by decide)) (fun _ => ?_)
        refine s_aload_n dPhr_mostSpecial_28 rfl rfl ?_
        refine s_iload dPhr_mostSpecial_29 rfl ?_
        refine s_iload_n dPhr_mostSpecial_31 rfl rfl ?_
        refine s_iload_n dPhr_mostSpecial_32 rfl rfl ?_
        refine s_v3 dPhr_mostSpecial_33 cv_Phr_37 (by repeat (first | exact up_self | assumption | rw [up_ne (by first | assumption | (intro q0; cases q0; done) | (intro q0; simp at q0; omega))])) (c2) (by first | rfl | exact Nat.ble_eq_true_of_le (by omega)) (by first | rfl | exact Nat.ble_eq_true_of_le (by omega)) (by first | rfl | exact Nat.ble_eq_true_of_le (by omega)) rfl ?_
        refine s_if_eq dPhr_mostSpecial_36 (fun q => absurd q (by decide)) (fun _ => ?_)
        refine s_iload dPhr_mostSpecial_39 rfl ?_
        refine s_iret dPhr_mostSpecial_41 rfl (by first | exact Nat.le_refl _ | decide | omega) (by first | exact Nat.le_refl _ | decide | omega) ?_
        rw [chs_stay T P1 D hkN z1 z2 P hkN (Nat.le_refl _)] at hq
        exact hq
      | false =>
        rw [z2] at c2
        refine s_iload dPhr_mostSpecial_7 rfl ?_
        refine s_aload_n dPhr_mostSpecial_9 rfl rfl ?_
        refine s_get dPhr_mostSpecial_10 gf_Phr_29 (by repeat (first | exact up_self | assumption | rw [up_ne (by first | assumption | (intro q0; cases q0; done) | (intro q0; simp at q0; omega))])) ?_
        refine s_icmp_ge dPhr_mostSpecial_13 (fun q => absurd q (nI_ge hkN (by omega))) (fun _ => ?_)
        refine s_aload_n dPhr_mostSpecial_16 rfl rfl ?_
        refine s_iload dPhr_mostSpecial_17 rfl ?_
        refine s_iload_n dPhr_mostSpecial_19 rfl rfl ?_
        refine s_iload_n dPhr_mostSpecial_20 rfl rfl ?_
        refine s_iload_n dPhr_mostSpecial_21 rfl rfl ?_
        refine s_v4 dPhr_mostSpecial_22 cv_Phr_33 (by repeat (first | exact up_self | assumption | rw [up_ne (by first | assumption | (intro q0; cases q0; done) | (intro q0; simp at q0; omega))])) (c1) (by first | rfl | exact Nat.ble_eq_true_of_le (by omega)) (by first | rfl | exact Nat.ble_eq_true_of_le (by omega)) (by first | rfl | exact Nat.ble_eq_true_of_le (by omega)) rfl ?_
        refine s_if_eq dPhr_mostSpecial_25 (fun q => absurd q (by decide)) (fun _ => ?_)
        refine s_aload_n dPhr_mostSpecial_28 rfl rfl ?_
        refine s_iload dPhr_mostSpecial_29 rfl ?_
        refine s_iload_n dPhr_mostSpecial_31 rfl rfl ?_
        refine s_iload_n dPhr_mostSpecial_32 rfl rfl ?_
        refine s_v3 dPhr_mostSpecial_33 cv_Phr_37 (by repeat (first | exact up_self | assumption | rw [up_ne (by first | assumption | (intro q0; cases q0; done) | (intro q0; simp at q0; omega))])) (c2) (by first | rfl | exact Nat.ble_eq_true_of_le (by omega)) (by first | rfl | exact Nat.ble_eq_true_of_le (by omega)) (by first | rfl | exact Nat.ble_eq_true_of_le (by omega)) rfl ?_
        refine s_if_eq dPhr_mostSpecial_36 (fun _ => ?_) (fun q => absurd rfl q)
        refine s_bipush (v := (-5)) dPhr_mostSpecial_42 (by decide) ?_
        refine s_istore dPhr_mostSpecial_44 rfl ?_
        first | refine s_iincN dPhr_mostSpecial_46 rfl rfl ?_ | refine s_iinc dPhr_mostSpecial_46 rfl rfl ?_
        refine s_goto dPhr_mostSpecial_49 ?_
        have e2 : chs σ n f s P (k + 1) = -5 := by
          simp only [chs, z1, z2, if_true]
          rw [if_neg (by decide)]
          rcases chs_two k ht with c3 | c3
          · rw [if_pos c3]
          · rw [c3, if_neg (by decide)]
        rw [← e2]
        exact ih (k + 1) (by omega) (fun q z3 z4 => by
          by_cases c3 : q = k
          · rw [c3]; exact z2
          · exact ht q (by omega) z4)
theorem c_mostSpecial {h : Hp} {σ : Sg} {K N P f s a b : Nat} {n : Int32} (Ik : kC h σ K) (T : KP σ K) (I : fC h σ P) (P1 : PH σ P K) (D : PD σ P) (ha : a < K) (hb : b < K) (ea : nt (σ 3 f) = a) (eb : nt (σ 3 s) = b) : ConF mPhr_mostSpecial 3 [vR (43, 0, 0), vI n, vI (nI a), vI (nI b)] h (some (vI (chs σ n f s P P))) h := by
  refine c_enter (by decide +kernel) rfl rfl ?_
  refine s_bipush (v := (-4)) dPhr_mostSpecial_0 (by decide) ?_
  refine s_istore dPhr_mostSpecial_2 rfl ?_
  refine s_iconst (v := 0) dPhr_mostSpecial_4 (by decide) ?_
  refine s_istore dPhr_mostSpecial_5 rfl ?_
  exact l_mostSpecial (N := N) Ik T I P1 D ha hb ea eb ⟨rfl, rfl⟩ P 0 (by omega) (fun q z1 => by omega)
theorem c_X_choose {h : Hp} {σ : Sg} {v : Nat → Int32} {K N P : Nat} {aa vv oo tb : Int32} (n f s : Int32) (M1 : mnC h aa vv oo tb) (Ik : kC h σ K) (T : KP σ K) (Is : sC h σ v N) (S1 : SK σ N K) (I : fC h σ P) (P1 : PH σ P K) (D : PD σ P) : ConF mX_choose 4 [vR (10, 0, 0), vI n, vI f, vI s] h (some (vI (fChoose σ n f s N P))) h := by
  have M0 := M1
  unfold mnC at M1
  have e1 := I.1
  have hN := S1.1
  have hK := T.2.1
  unfold fChoose
  have key : ∀ (x y : Option Nat) (vx vy : Option Nm), (ix f N = none ∧ x = none ∧ vx = none ∨ ∃ i, i < N ∧ ix f N = some i ∧ x = some i ∧ vx = some (14, i, 0)) → (ix s N = none ∧ y = none ∧ vy = none ∨ ∃ i, i < N ∧ ix s N = some i ∧ y = some i ∧ vy = some (14, i, 0)) →
      S mX_choose 4 0 0 (fun v' h' => v' = some (vI (match ix n 10, ix f N, ix s N with | some _, some i, some j => chs σ n i j P P | _, _, _ => -1)) ∧ h' = h) 14 [some (vR (10, 0, 0)), some (vI n), some (vI f), some (vI s), some (vO vx), some (vO vy)] [] h 0 0 := by
    intro x y vx vy hx hy
    rcases iy_cases n (K := 10) (by omega) with ⟨q1, hz⟩ | ⟨j, hj, rfl, q1⟩
    · rw [q1]
      refine s_iload_n dX_choose_14 rfl rfl ?_
      refine s_t1 dX_choose_15 cs_X_274 (c_isName hz) (by first | rfl | exact Nat.ble_eq_true_of_le (by omega)) (by first | rfl | exact Nat.ble_eq_true_of_le (by omega)) (by first | rfl | exact Nat.ble_eq_true_of_le (by omega)) rfl ?_
      refine s_if_eq dX_choose_18 (fun _ => ?_) (fun q => absurd rfl q)
      refine s_iconst (v := (-1)) dX_choose_31 (by decide) ?_
      refine s_iret dX_choose_32 rfl (by first | exact Nat.le_refl _ | decide | omega) (by first | exact Nat.le_refl _ | decide | omega) ?_
      exact ⟨rfl, rfl⟩
    · rw [q1]
      rcases hx with ⟨q2, rfl, rfl⟩ | ⟨i, hi, q2, rfl, rfl⟩
      · rw [q2]
        refine s_iload_n dX_choose_14 rfl rfl ?_
        refine s_t1 dX_choose_15 cs_X_274 (c_isName (Iy1 hj)) (by first | rfl | exact Nat.ble_eq_true_of_le (by omega)) (by first | rfl | exact Nat.ble_eq_true_of_le (by omega)) (by first | rfl | exact Nat.ble_eq_true_of_le (by omega)) rfl ?_
        refine s_if_eq dX_choose_18 (fun q => absurd q (by decide)) (fun _ => ?_)
        refine s_aload dX_choose_21 rfl ?_
        refine s_ifnull dX_choose_23 (fun _ => ?_) (fun q => by obtain ⟨_, q⟩ := q; cases q)
        refine s_iconst (v := (-1)) dX_choose_31 (by decide) ?_
        refine s_iret dX_choose_32 rfl (by first | exact Nat.le_refl _ | decide | omega) (by first | exact Nat.le_refl _ | decide | omega) ?_
        exact ⟨rfl, rfl⟩
      · rw [q2]
        rcases hy with ⟨q3, rfl, rfl⟩ | ⟨i2, hi2, q3, rfl, rfl⟩
        · rw [q3]
          refine s_iload_n dX_choose_14 rfl rfl ?_
          refine s_t1 dX_choose_15 cs_X_274 (c_isName (Iy1 hj)) (by first | rfl | exact Nat.ble_eq_true_of_le (by omega)) (by first | rfl | exact Nat.ble_eq_true_of_le (by omega)) (by first | rfl | exact Nat.ble_eq_true_of_le (by omega)) rfl ?_
          refine s_if_eq dX_choose_18 (fun q => absurd q (by decide)) (fun _ => ?_)
          refine s_aload dX_choose_21 rfl ?_
          refine s_ifnull dX_choose_23 (fun q => by cases q) (fun _ => ?_)
          refine s_aload dX_choose_26 rfl ?_
          refine s_ifnonnull dX_choose_28 (fun q => by obtain ⟨_, q⟩ := q; cases q) (fun _ => ?_)
          refine s_iconst (v := (-1)) dX_choose_31 (by decide) ?_
          refine s_iret dX_choose_32 rfl (by first | exact Nat.le_refl _ | decide | omega) (by first | exact Nat.le_refl _ | decide | omega) ?_
          exact ⟨rfl, rfl⟩
        · rw [q3]
          obtain ⟨a, ha, ea⟩ := S1.2 i hi
          obtain ⟨b, hb, eb⟩ := S1.2 i2 hi2
          obtain ⟨w1, -⟩ := Is.2.1 i hi
          obtain ⟨w2, -⟩ := Is.2.1 i2 hi2
          have cm := c_mostSpecial (N := N) (n := nI j) (f := i) (s := i2) Ik T I P1 D ha hb (by rw [ea, nt_nI (by omega)]) (by rw [eb, nt_nI (by omega)])
          refine s_iload_n dX_choose_14 rfl rfl ?_
          refine s_t1 dX_choose_15 cs_X_274 (c_isName (Iy1 hj)) (by first | rfl | exact Nat.ble_eq_true_of_le (by omega)) (by first | rfl | exact Nat.ble_eq_true_of_le (by omega)) (by first | rfl | exact Nat.ble_eq_true_of_le (by omega)) rfl ?_
          refine s_if_eq dX_choose_18 (fun q => absurd q (by decide)) (fun _ => ?_)
          refine s_aload dX_choose_21 rfl ?_
          refine s_ifnull dX_choose_23 (fun q => by cases q) (fun _ => ?_)
          refine s_aload dX_choose_26 rfl ?_
          refine s_ifnonnull dX_choose_28 (fun _ => ?_) (fun q => by cases q)
          refine s_aload_n dX_choose_33 rfl rfl ?_
          refine s_get dX_choose_34 gf_X_62 (by repeat (first | exact up_self | assumption | rw [up_ne (by first | assumption | (intro q0; cases q0; done) | (intro q0; simp at q0; omega))])) ?_
          refine s_iload_n dX_choose_37 rfl rfl ?_
          refine s_aload dX_choose_38 rfl ?_
          refine s_get dX_choose_40 gf_X_280 (by repeat (first | exact up_self | assumption | rw [up_ne (by first | assumption | (intro q0; cases q0; done) | (intro q0; simp at q0; omega))])) ?_
          refine s_tv (congrArg vI ea) ?_
          refine s_aload dX_choose_43 rfl ?_
          refine s_get dX_choose_45 gf_X_280 (by repeat (first | exact up_self | assumption | rw [up_ne (by first | assumption | (intro q0; cases q0; done) | (intro q0; simp at q0; omega))])) ?_
          refine s_tv (congrArg vI eb) ?_
          refine s_v3 dX_choose_48 cv_X_283 (by repeat (first | exact up_self | assumption | rw [up_ne (by first | assumption | (intro q0; cases q0; done) | (intro q0; simp at q0; omega))])) (cm) (by first | rfl | exact Nat.ble_eq_true_of_le (by omega)) (by first | rfl | exact Nat.ble_eq_true_of_le (by omega)) (by first | rfl | exact Nat.ble_eq_true_of_le (by omega)) rfl ?_
          refine s_iret dX_choose_51 rfl (by first | exact Nat.le_refl _ | decide | omega) (by first | exact Nat.le_refl _ | decide | omega) ?_
          exact ⟨rfl, rfl⟩
  refine c_enter (by decide +kernel) rfl rfl ?_
  rcases iy_cases f (K := N) (by omega) with ⟨q1, hz1⟩ | ⟨i, hi, rfl, q1⟩
  · rcases iy_cases s (K := N) (by omega) with ⟨q2, hz2⟩ | ⟨j, hj, rfl, q2⟩
    · refine s_aload_n dX_choose_0 rfl rfl ?_
      refine s_iload_n dX_choose_1 rfl rfl ?_
      refine s_v1 dX_choose_2 cv_X_103 (by repeat (first | exact up_self | assumption | rw [up_ne (by first | assumption | (intro q0; cases q0; done) | (intro q0; simp at q0; omega))])) (c_subjNo M0 Is hN hz1) (by first | rfl | exact Nat.ble_eq_true_of_le (by omega)) (by first | rfl | exact Nat.ble_eq_true_of_le (by omega)) (by first | rfl | exact Nat.ble_eq_true_of_le (by omega)) rfl ?_
      refine s_astore dX_choose_5 rfl ?_
      refine s_aload_n dX_choose_7 rfl rfl ?_
      refine s_iload_n dX_choose_8 rfl rfl ?_
      refine s_v1 dX_choose_9 cv_X_103 (by repeat (first | exact up_self | assumption | rw [up_ne (by first | assumption | (intro q0; cases q0; done) | (intro q0; simp at q0; omega))])) (c_subjNo M0 Is hN hz2) (by first | rfl | exact Nat.ble_eq_true_of_le (by omega)) (by first | rfl | exact Nat.ble_eq_true_of_le (by omega)) (by first | rfl | exact Nat.ble_eq_true_of_le (by omega)) rfl ?_
      refine s_astore dX_choose_12 rfl ?_
      exact key none none none none (Or.inl ⟨q1, rfl, rfl⟩) (Or.inl ⟨q2, rfl, rfl⟩)
    · refine s_aload_n dX_choose_0 rfl rfl ?_
      refine s_iload_n dX_choose_1 rfl rfl ?_
      refine s_v1 dX_choose_2 cv_X_103 (by repeat (first | exact up_self | assumption | rw [up_ne (by first | assumption | (intro q0; cases q0; done) | (intro q0; simp at q0; omega))])) (c_subjNo M0 Is hN hz1) (by first | rfl | exact Nat.ble_eq_true_of_le (by omega)) (by first | rfl | exact Nat.ble_eq_true_of_le (by omega)) (by first | rfl | exact Nat.ble_eq_true_of_le (by omega)) rfl ?_
      refine s_astore dX_choose_5 rfl ?_
      refine s_aload_n dX_choose_7 rfl rfl ?_
      refine s_iload_n dX_choose_8 rfl rfl ?_
      refine s_v1 dX_choose_9 cv_X_103 (by repeat (first | exact up_self | assumption | rw [up_ne (by first | assumption | (intro q0; cases q0; done) | (intro q0; simp at q0; omega))])) (c_subjAt M0 Is hN hj) (by first | rfl | exact Nat.ble_eq_true_of_le (by omega)) (by first | rfl | exact Nat.ble_eq_true_of_le (by omega)) (by first | rfl | exact Nat.ble_eq_true_of_le (by omega)) rfl ?_
      refine s_astore dX_choose_12 rfl ?_
      exact key none (some j) none (some (14, j, 0)) (Or.inl ⟨q1, rfl, rfl⟩) (Or.inr ⟨j, hj, q2, rfl, rfl⟩)
  · rcases iy_cases s (K := N) (by omega) with ⟨q2, hz2⟩ | ⟨j, hj, rfl, q2⟩
    · refine s_aload_n dX_choose_0 rfl rfl ?_
      refine s_iload_n dX_choose_1 rfl rfl ?_
      refine s_v1 dX_choose_2 cv_X_103 (by repeat (first | exact up_self | assumption | rw [up_ne (by first | assumption | (intro q0; cases q0; done) | (intro q0; simp at q0; omega))])) (c_subjAt M0 Is hN hi) (by first | rfl | exact Nat.ble_eq_true_of_le (by omega)) (by first | rfl | exact Nat.ble_eq_true_of_le (by omega)) (by first | rfl | exact Nat.ble_eq_true_of_le (by omega)) rfl ?_
      refine s_astore dX_choose_5 rfl ?_
      refine s_aload_n dX_choose_7 rfl rfl ?_
      refine s_iload_n dX_choose_8 rfl rfl ?_
      refine s_v1 dX_choose_9 cv_X_103 (by repeat (first | exact up_self | assumption | rw [up_ne (by first | assumption | (intro q0; cases q0; done) | (intro q0; simp at q0; omega))])) (c_subjNo M0 Is hN hz2) (by first | rfl | exact Nat.ble_eq_true_of_le (by omega)) (by first | rfl | exact Nat.ble_eq_true_of_le (by omega)) (by first | rfl | exact Nat.ble_eq_true_of_le (by omega)) rfl ?_
      refine s_astore dX_choose_12 rfl ?_
      exact key (some i) none (some (14, i, 0)) none (Or.inr ⟨i, hi, q1, rfl, rfl⟩) (Or.inl ⟨q2, rfl, rfl⟩)
    · refine s_aload_n dX_choose_0 rfl rfl ?_
      refine s_iload_n dX_choose_1 rfl rfl ?_
      refine s_v1 dX_choose_2 cv_X_103 (by repeat (first | exact up_self | assumption | rw [up_ne (by first | assumption | (intro q0; cases q0; done) | (intro q0; simp at q0; omega))])) (c_subjAt M0 Is hN hi) (by first | rfl | exact Nat.ble_eq_true_of_le (by omega)) (by first | rfl | exact Nat.ble_eq_true_of_le (by omega)) (by first | rfl | exact Nat.ble_eq_true_of_le (by omega)) rfl ?_
      refine s_astore dX_choose_5 rfl ?_
      refine s_aload_n dX_choose_7 rfl rfl ?_
      refine s_iload_n dX_choose_8 rfl rfl ?_
      refine s_v1 dX_choose_9 cv_X_103 (by repeat (first | exact up_self | assumption | rw [up_ne (by first | assumption | (intro q0; cases q0; done) | (intro q0; simp at q0; omega))])) (c_subjAt M0 Is hN hj) (by first | rfl | exact Nat.ble_eq_true_of_le (by omega)) (by first | rfl | exact Nat.ble_eq_true_of_le (by omega)) (by first | rfl | exact Nat.ble_eq_true_of_le (by omega)) rfl ?_
      refine s_astore dX_choose_12 rfl ?_
      exact key (some i) (some j) (some (14, i, 0)) (some (14, j, 0)) (Or.inr ⟨i, hi, q1, rfl, rfl⟩) (Or.inr ⟨j, hj, q2, rfl, rfl⟩)
theorem c_X_count {h : Hp} {σ : Sg} {v : Nat → Int32} {own od rw0 : Nat → List Nat} {K N B R NS P n : Nat} {e r0 : Int32} (w : Int32) (M1 : mnC h (σ 33 0) (σ 35 0) (σ 37 0) (σ 46 0)) (Ik : kC h σ K) (h0 : σ 0 0 = nI K) (Is : sC h σ v N) (h2 : σ 2 0 = nI N) (Ib : bC h σ B own od rw0) (h5 : σ 5 0 = nI B) (Ir : rC h σ R) (h8 : σ 8 0 = nI R) (In : nC h σ NS) (h40 : σ 40 0 = nI NS) (Ip : fC h σ P) (h50 : σ 50 0 = nI P) (U : uC h e r0) (It : tC h (σ 28) n) (h29 : σ 29 0 = nI n) : ConF mX_count 1 [vR (10, 0, 0), vI w] h (some (vI (fCount σ w))) h := by
  unfold mnC at M1
  have ek := Ik.1
  have en := In.1.1
  have ep := Ip.1
  have eu := U.1
  have et := It.1
  have cs1 := c_size Is.1
  have cs2 := c_size Ib.1
  have cs3 := c_size Ir.1
  have cs4 := c_size In.2.1
  rw [nmL_len] at cs1 cs2 cs3 cs4
  obtain ⟨cap1, z1, f1, el1, -⟩ := id Is.1
  obtain ⟨cap2, z2, f2, el2, -⟩ := id Ib.1
  obtain ⟨cap3, z3, f3, el3, -⟩ := id Ir.1
  obtain ⟨cap4, z4, f4, el4, -⟩ := id In.2.1
  unfold fCount
  refine c_enter (by decide +kernel) rfl rfl ?_
  rcases iy_cases w (K := 11) (by omega) with ⟨q1, hz⟩ | ⟨k, hk, rfl, q1⟩
  · rw [q1]
    have h1 : w.toInt < 0 ∨ 10 < w.toInt := by
      rcases hz with ⟨z1, -⟩ | ⟨-, hz⟩
      · cases z1
      · by_cases c1 : w < 0
        · left
          have c2 := Int32.lt_iff_toInt_lt.mp c1
          have e0 : (0 : Int32).toInt = 0 := by decide
          omega
        · right
          have c3 : nI 11 ≤ w := Int32.not_lt.mp fun z1 => hz ⟨Int32.not_lt.mp c1, z1⟩
          rw [Int32.le_iff_toInt_le, nI_toInt (by omega)] at c3
          omega
    refine s_iload_n dX_count_0 rfl rfl ?_
    refine s_tabOut (tgt := 145) dX_count_1 (by rcases h1 with h1 | h1; exact Or.inl h1; exact Or.inr h1) (by decide) ?_
    refine s_iconst (v := (-1)) dX_count_145 (by decide) ?_
    refine s_iret dX_count_146 rfl (by first | exact Nat.le_refl _ | decide | omega) (by first | exact Nat.le_refl _ | decide | omega) ?_
    exact ⟨rfl, rfl⟩
  · rw [q1]
    dsimp only
    rcases (show k = 0 ∨ k = 1 ∨ k = 2 ∨ k = 3 ∨ k = 4 ∨ k = 5 ∨ k = 6 ∨ k = 7 ∨ k = 8 ∨ k = 9 ∨ k = 10 by omega) with rfl | rfl | rfl | rfl | rfl | rfl | rfl | rfl | rfl | rfl | rfl
    · refine s_iload_n dX_count_0 rfl rfl ?_
      refine s_tabIn (off := 59) (tgt := 60) dX_count_1 (by decide +kernel) (by decide +kernel) (by decide +kernel) (by decide) ?_
      refine s_aload_n dX_count_60 rfl rfl ?_
      refine s_get dX_count_61 gf_X_10 (by repeat (first | exact up_self | assumption | rw [up_ne (by first | assumption | (intro q0; cases q0; done) | (intro q0; simp at q0; omega))])) ?_
      refine s_get dX_count_64 gf_X_286 (by repeat (first | exact up_self | assumption | rw [up_ne (by first | assumption | (intro q0; cases q0; done) | (intro q0; simp at q0; omega))])) ?_
      refine s_iret dX_count_67 rfl (by first | exact Nat.le_refl _ | decide | omega) (by first | exact Nat.le_refl _ | decide | omega) ?_
      exact ⟨by rw [show cntF 0 = 0 from rfl, h0], rfl⟩
    · refine s_iload_n dX_count_0 rfl rfl ?_
      refine s_tabIn (off := 67) (tgt := 68) dX_count_1 (by decide +kernel) (by decide +kernel) (by decide +kernel) (by decide) ?_
      refine s_aload_n dX_count_68 rfl rfl ?_
      refine s_get dX_count_69 gf_X_19 (by repeat (first | exact up_self | assumption | rw [up_ne (by first | assumption | (intro q0; cases q0; done) | (intro q0; simp at q0; omega))])) ?_
      refine s_v0 dX_count_72 cv_X_91 (by repeat (first | exact up_self | assumption | rw [up_ne (by first | assumption | (intro q0; cases q0; done) | (intro q0; simp at q0; omega))])) (cs1) (by first | rfl | exact Nat.ble_eq_true_of_le (by omega)) (by first | rfl | exact Nat.ble_eq_true_of_le (by omega)) (by first | rfl | exact Nat.ble_eq_true_of_le (by omega)) rfl ?_
      refine s_iret dX_count_75 rfl (by first | exact Nat.le_refl _ | decide | omega) (by first | exact Nat.le_refl _ | decide | omega) ?_
      exact ⟨by rw [show cntF 1 = 2 from rfl, h2], rfl⟩
    · refine s_iload_n dX_count_0 rfl rfl ?_
      refine s_tabIn (off := 75) (tgt := 76) dX_count_1 (by decide +kernel) (by decide +kernel) (by decide +kernel) (by decide) ?_
      refine s_aload_n dX_count_76 rfl rfl ?_
      refine s_get dX_count_77 gf_X_23 (by repeat (first | exact up_self | assumption | rw [up_ne (by first | assumption | (intro q0; cases q0; done) | (intro q0; simp at q0; omega))])) ?_
      refine s_v0 dX_count_80 cv_X_91 (by repeat (first | exact up_self | assumption | rw [up_ne (by first | assumption | (intro q0; cases q0; done) | (intro q0; simp at q0; omega))])) (cs2) (by first | rfl | exact Nat.ble_eq_true_of_le (by omega)) (by first | rfl | exact Nat.ble_eq_true_of_le (by omega)) (by first | rfl | exact Nat.ble_eq_true_of_le (by omega)) rfl ?_
      refine s_iret dX_count_83 rfl (by first | exact Nat.le_refl _ | decide | omega) (by first | exact Nat.le_refl _ | decide | omega) ?_
      exact ⟨by rw [show cntF 2 = 5 from rfl, h5], rfl⟩
    · refine s_iload_n dX_count_0 rfl rfl ?_
      refine s_tabIn (off := 83) (tgt := 84) dX_count_1 (by decide +kernel) (by decide +kernel) (by decide +kernel) (by decide) ?_
      refine s_aload_n dX_count_84 rfl rfl ?_
      refine s_get dX_count_85 gf_X_26 (by repeat (first | exact up_self | assumption | rw [up_ne (by first | assumption | (intro q0; cases q0; done) | (intro q0; simp at q0; omega))])) ?_
      refine s_v0 dX_count_88 cv_X_91 (by repeat (first | exact up_self | assumption | rw [up_ne (by first | assumption | (intro q0; cases q0; done) | (intro q0; simp at q0; omega))])) (cs3) (by first | rfl | exact Nat.ble_eq_true_of_le (by omega)) (by first | rfl | exact Nat.ble_eq_true_of_le (by omega)) (by first | rfl | exact Nat.ble_eq_true_of_le (by omega)) rfl ?_
      refine s_iret dX_count_91 rfl (by first | exact Nat.le_refl _ | decide | omega) (by first | exact Nat.le_refl _ | decide | omega) ?_
      exact ⟨by rw [show cntF 3 = 8 from rfl, h8], rfl⟩
    · refine s_iload_n dX_count_0 rfl rfl ?_
      refine s_tabIn (off := 91) (tgt := 92) dX_count_1 (by decide +kernel) (by decide +kernel) (by decide +kernel) (by decide) ?_
      refine s_aload_n dX_count_92 rfl rfl ?_
      refine s_get dX_count_93 gf_X_219 (by repeat (first | exact up_self | assumption | rw [up_ne (by first | assumption | (intro q0; cases q0; done) | (intro q0; simp at q0; omega))])) ?_
      refine s_iret dX_count_96 rfl (by first | exact Nat.le_refl _ | decide | omega) (by first | exact Nat.le_refl _ | decide | omega) ?_
      exact ⟨rfl, rfl⟩
    · refine s_iload_n dX_count_0 rfl rfl ?_
      refine s_tabIn (off := 96) (tgt := 97) dX_count_1 (by decide +kernel) (by decide +kernel) (by decide +kernel) (by decide) ?_
      refine s_aload_n dX_count_97 rfl rfl ?_
      refine s_get dX_count_98 gf_X_232 (by repeat (first | exact up_self | assumption | rw [up_ne (by first | assumption | (intro q0; cases q0; done) | (intro q0; simp at q0; omega))])) ?_
      refine s_iret dX_count_101 rfl (by first | exact Nat.le_refl _ | decide | omega) (by first | exact Nat.le_refl _ | decide | omega) ?_
      exact ⟨rfl, rfl⟩
    · refine s_iload_n dX_count_0 rfl rfl ?_
      refine s_tabIn (off := 101) (tgt := 102) dX_count_1 (by decide +kernel) (by decide +kernel) (by decide +kernel) (by decide) ?_
      refine s_aload_n dX_count_102 rfl rfl ?_
      refine s_get dX_count_103 gf_X_235 (by repeat (first | exact up_self | assumption | rw [up_ne (by first | assumption | (intro q0; cases q0; done) | (intro q0; simp at q0; omega))])) ?_
      refine s_iret dX_count_106 rfl (by first | exact Nat.le_refl _ | decide | omega) (by first | exact Nat.le_refl _ | decide | omega) ?_
      exact ⟨rfl, rfl⟩
    · refine s_iload_n dX_count_0 rfl rfl ?_
      refine s_tabIn (off := 106) (tgt := 107) dX_count_1 (by decide +kernel) (by decide +kernel) (by decide +kernel) (by decide) ?_
      refine s_aload_n dX_count_107 rfl rfl ?_
      refine s_get dX_count_108 gf_X_49 (by repeat (first | exact up_self | assumption | rw [up_ne (by first | assumption | (intro q0; cases q0; done) | (intro q0; simp at q0; omega))])) ?_
      refine s_get dX_count_111 gf_X_289 (by repeat (first | exact up_self | assumption | rw [up_ne (by first | assumption | (intro q0; cases q0; done) | (intro q0; simp at q0; omega))])) ?_
      refine s_v0 dX_count_114 cv_X_91 (by repeat (first | exact up_self | assumption | rw [up_ne (by first | assumption | (intro q0; cases q0; done) | (intro q0; simp at q0; omega))])) (cs4) (by first | rfl | exact Nat.ble_eq_true_of_le (by omega)) (by first | rfl | exact Nat.ble_eq_true_of_le (by omega)) (by first | rfl | exact Nat.ble_eq_true_of_le (by omega)) rfl ?_
      refine s_iret dX_count_117 rfl (by first | exact Nat.le_refl _ | decide | omega) (by first | exact Nat.le_refl _ | decide | omega) ?_
      exact ⟨by rw [show cntF 7 = 40 from rfl, h40], rfl⟩
    · refine s_iload_n dX_count_0 rfl rfl ?_
      refine s_tabIn (off := 117) (tgt := 118) dX_count_1 (by decide +kernel) (by decide +kernel) (by decide +kernel) (by decide) ?_
      refine s_aload_n dX_count_118 rfl rfl ?_
      refine s_get dX_count_119 gf_X_62 (by repeat (first | exact up_self | assumption | rw [up_ne (by first | assumption | (intro q0; cases q0; done) | (intro q0; simp at q0; omega))])) ?_
      refine s_get dX_count_122 gf_X_291 (by repeat (first | exact up_self | assumption | rw [up_ne (by first | assumption | (intro q0; cases q0; done) | (intro q0; simp at q0; omega))])) ?_
      refine s_iret dX_count_125 rfl (by first | exact Nat.le_refl _ | decide | omega) (by first | exact Nat.le_refl _ | decide | omega) ?_
      exact ⟨by rw [show cntF 8 = 50 from rfl, h50], rfl⟩
    · refine s_iload_n dX_count_0 rfl rfl ?_
      refine s_tabIn (off := 125) (tgt := 126) dX_count_1 (by decide +kernel) (by decide +kernel) (by decide +kernel) (by decide) ?_
      refine s_aload_n dX_count_126 rfl rfl ?_
      refine s_get dX_count_127 gf_X_71 (by repeat (first | exact up_self | assumption | rw [up_ne (by first | assumption | (intro q0; cases q0; done) | (intro q0; simp at q0; omega))])) ?_
      refine s_get dX_count_130 gf_X_202 (by repeat (first | exact up_self | assumption | rw [up_ne (by first | assumption | (intro q0; cases q0; done) | (intro q0; simp at q0; omega))])) ?_
      refine s_get dX_count_133 gf_X_292 (by repeat (first | exact up_self | assumption | rw [up_ne (by first | assumption | (intro q0; cases q0; done) | (intro q0; simp at q0; omega))])) ?_
      refine s_iret dX_count_136 rfl (by first | exact Nat.le_refl _ | decide | omega) (by first | exact Nat.le_refl _ | decide | omega) ?_
      exact ⟨by rw [show cntF 9 = 29 from rfl, h29], rfl⟩
    · refine s_iload_n dX_count_0 rfl rfl ?_
      refine s_tabIn (off := 136) (tgt := 137) dX_count_1 (by decide +kernel) (by decide +kernel) (by decide +kernel) (by decide) ?_
      refine s_aload_n dX_count_137 rfl rfl ?_
      refine s_get dX_count_138 gf_X_49 (by repeat (first | exact up_self | assumption | rw [up_ne (by first | assumption | (intro q0; cases q0; done) | (intro q0; simp at q0; omega))])) ?_
      refine s_get dX_count_141 gf_X_295 (by repeat (first | exact up_self | assumption | rw [up_ne (by first | assumption | (intro q0; cases q0; done) | (intro q0; simp at q0; omega))])) ?_
      refine s_iret dX_count_144 rfl (by first | exact Nat.le_refl _ | decide | omega) (by first | exact Nat.le_refl _ | decide | omega) ?_
      exact ⟨rfl, rfl⟩
