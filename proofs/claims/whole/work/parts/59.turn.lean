/-! a turn of the class -/
theorem c_Scene_init {h : Hp} {s : Nat} (b : Bool) (e1 : h (41, s, 0) = some (7, 0, fl [vI 0, vI 0, vI 0, vN, vN])) (e2 : h (42, s, 0) = none) (e3 : h (42, s, 1) = none) :
    Con mScene_init 1 2 4 [vR (41, s, 0), vI (zi b)] h (fun v h' => v = none ∧ h' (41, s, 0) = some (7, 0, fl [vI (zi b), vI 0, vI 0, vR (42, s, 0), vR (42, s, 1)]) ∧ (∃ f g, h' (42, s, 0) = some (20, 2, f) ∧ h' (42, s, 1) = some (20, 2, g) ∧ ∀ e, e < 2 → f e = vI 0 ∧ g e = vI 0) ∧ ∀ n, n ≠ (41, s, 0) → n ≠ (42, s, 0) → n ≠ (42, s, 1) → h' n = h n) := by
  have fin : ∀ (z1 z2 z3 z4 z5 : PC), up (up (up (up (up (up h (42, s, 0) z1) (42, s, 0) z2) (42, s, 0) (20, 2, upf (upf (fun _ => vI 0) 0 (vI 0)) 1 (vI 0))) (41, s, 0) z3) (42, s, 1) (20, 2, fun _ => vI 0)) (41, s, 0) z4 = up (up (up h (42, s, 0) (20, 2, upf (upf (fun _ => vI 0) 0 (vI 0)) 1 (vI 0))) (42, s, 1) (20, 2, fun _ => vI 0)) (41, s, 0) z4 := fun z1 z2 z3 z4 _ => by
    rw [up_up, up_up, up_cm (n := (41, s, 0)) (m := (42, s, 1)) (fun q0 => by simp at q0), up_up]
  refine c_enter (by decide +kernel) rfl rfl ?_
  cases b with
  | true =>
    refine s_aload_n dScene_init_0 rfl rfl ?_
    refine s_objInit dScene_init_1 ob_Scene_3 rfl rfl ?_
    refine s_aload_n dScene_init_4 rfl rfl ?_
    refine s_iconst (v := nI 2) dScene_init_5 (by decide) ?_
    refine s_newa (42, s, 0) _ dScene_init_6 rfl ⟨Or.inl rfl, ac20⟩ rfl rfl e2 rfl rfl ?_
    refine s_dup dScene_init_8 rfl ?_
    refine s_iconst (v := 0) dScene_init_9 (by decide) ?_
    refine s_tv (show vI 0 = vI (nI 0) from rfl) ?_
    refine s_iconst (v := 0) dScene_init_10 (by decide) ?_
    refine s_iastN dScene_init_11 (by repeat (first | exact up_self | assumption | rw [up_ne (by first | assumption | (intro q0; cases q0; done) | (intro q0; simp at q0; omega))])) (by first | rfl | assumption) (by omega) (by omega) ?_
    refine s_dup dScene_init_12 rfl ?_
    refine s_iconst (v := 1) dScene_init_13 (by decide) ?_
    refine s_tv (show vI 1 = vI (nI 1) from rfl) ?_
    refine s_iconst (v := 0) dScene_init_14 (by decide) ?_
    refine s_iastN dScene_init_15 (by repeat (first | exact up_self | assumption | rw [up_ne (by first | assumption | (intro q0; cases q0; done) | (intro q0; simp at q0; omega))])) (by first | rfl | assumption) (by omega) (by omega) ?_
    refine s_putF dScene_init_16 gf_Scene_9 (by repeat (first | exact up_self | assumption | rw [up_ne (by first | assumption | (intro q0; cases q0; done) | (intro q0; simp at q0; omega))])) (by first | rfl | assumption) rfl (by first | exact Or.inl rfl | exact Or.inr ⟨rfl, rfl⟩) (by first | exact ⟨_, rfl⟩ | exact Or.inl rfl | exact Or.inr rfl | assumption) ?_
    refine s_aload_n dScene_init_19 rfl rfl ?_
    refine s_iconst (v := nI 2) dScene_init_20 (by decide) ?_
    refine s_newa (42, s, 1) _ dScene_init_21 rfl ⟨Or.inl rfl, ac20⟩ rfl rfl (by rw [up_ne (fun q0 => by simp at q0), up_ne (fun q0 => by simp at q0), up_ne (fun q0 => by simp at q0), up_ne (fun q0 => by simp at q0)]; exact e3) rfl rfl ?_
    refine s_putF dScene_init_23 gf_Scene_15 (by repeat (first | exact up_self | assumption | rw [up_ne (by first | assumption | (intro q0; cases q0; done) | (intro q0; simp at q0; omega))])) (by first | rfl | assumption) rfl (by first | exact Or.inl rfl | exact Or.inr ⟨rfl, rfl⟩) (by first | exact ⟨_, rfl⟩ | exact Or.inl rfl | exact Or.inr rfl | assumption) ?_
    refine s_aload_n dScene_init_26 rfl rfl ?_
    refine s_iload_n dScene_init_27 rfl rfl ?_
    refine s_putF dScene_init_28 gf_Scene_18 (by repeat (first | exact up_self | assumption | rw [up_ne (by first | assumption | (intro q0; cases q0; done) | (intro q0; simp at q0; omega))])) (by first | rfl | assumption) rfl (by first | exact Or.inl rfl | exact Or.inr ⟨rfl, rfl⟩) (by first | exact ⟨_, rfl⟩ | exact Or.inl rfl | exact Or.inr rfl | assumption) ?_
    refine s_vret dScene_init_31 rfl (by first | exact Nat.le_refl _ | decide | omega) (by first | exact Nat.le_refl _ | decide | omega) ?_
    refine ⟨rfl, up_self, ⟨upf (upf (fun _ => vI 0) 0 (vI 0)) 1 (vI 0), fun _ => vI 0, ?_, ?_, fun e q1 => ⟨?_, rfl⟩⟩, fun n a1 a2 a3 => by rw [up_ne a1, up_ne a1, up_ne a3, up_ne a1, up_ne a2, up_ne a2, up_ne a2]⟩
    · rw [up_ne (fun q0 => by simp at q0), up_ne (fun q0 => by simp at q0), up_ne (fun q0 => by simp at q0), up_ne (fun q0 => by simp at q0), up_self]
    · rw [up_ne (fun q0 => by simp at q0), up_ne (fun q0 => by simp at q0), up_self]
    · rcases (show e = 0 ∨ e = 1 by omega) with rfl | rfl <;> rfl
  | false =>
    refine s_aload_n dScene_init_0 rfl rfl ?_
    refine s_objInit dScene_init_1 ob_Scene_3 rfl rfl ?_
    refine s_aload_n dScene_init_4 rfl rfl ?_
    refine s_iconst (v := nI 2) dScene_init_5 (by decide) ?_
    refine s_newa (42, s, 0) _ dScene_init_6 rfl ⟨Or.inl rfl, ac20⟩ rfl rfl e2 rfl rfl ?_
    refine s_dup dScene_init_8 rfl ?_
    refine s_iconst (v := 0) dScene_init_9 (by decide) ?_
    refine s_tv (show vI 0 = vI (nI 0) from rfl) ?_
    refine s_iconst (v := 0) dScene_init_10 (by decide) ?_
    refine s_iastN dScene_init_11 (by repeat (first | exact up_self | assumption | rw [up_ne (by first | assumption | (intro q0; cases q0; done) | (intro q0; simp at q0; omega))])) (by first | rfl | assumption) (by omega) (by omega) ?_
    refine s_dup dScene_init_12 rfl ?_
    refine s_iconst (v := 1) dScene_init_13 (by decide) ?_
    refine s_tv (show vI 1 = vI (nI 1) from rfl) ?_
    refine s_iconst (v := 0) dScene_init_14 (by decide) ?_
    refine s_iastN dScene_init_15 (by repeat (first | exact up_self | assumption | rw [up_ne (by first | assumption | (intro q0; cases q0; done) | (intro q0; simp at q0; omega))])) (by first | rfl | assumption) (by omega) (by omega) ?_
    refine s_putF dScene_init_16 gf_Scene_9 (by repeat (first | exact up_self | assumption | rw [up_ne (by first | assumption | (intro q0; cases q0; done) | (intro q0; simp at q0; omega))])) (by first | rfl | assumption) rfl (by first | exact Or.inl rfl | exact Or.inr ⟨rfl, rfl⟩) (by first | exact ⟨_, rfl⟩ | exact Or.inl rfl | exact Or.inr rfl | assumption) ?_
    refine s_aload_n dScene_init_19 rfl rfl ?_
    refine s_iconst (v := nI 2) dScene_init_20 (by decide) ?_
    refine s_newa (42, s, 1) _ dScene_init_21 rfl ⟨Or.inl rfl, ac20⟩ rfl rfl (by rw [up_ne (fun q0 => by simp at q0), up_ne (fun q0 => by simp at q0), up_ne (fun q0 => by simp at q0), up_ne (fun q0 => by simp at q0)]; exact e3) rfl rfl ?_
    refine s_putF dScene_init_23 gf_Scene_15 (by repeat (first | exact up_self | assumption | rw [up_ne (by first | assumption | (intro q0; cases q0; done) | (intro q0; simp at q0; omega))])) (by first | rfl | assumption) rfl (by first | exact Or.inl rfl | exact Or.inr ⟨rfl, rfl⟩) (by first | exact ⟨_, rfl⟩ | exact Or.inl rfl | exact Or.inr rfl | assumption) ?_
    refine s_aload_n dScene_init_26 rfl rfl ?_
    refine s_iload_n dScene_init_27 rfl rfl ?_
    refine s_putF dScene_init_28 gf_Scene_18 (by repeat (first | exact up_self | assumption | rw [up_ne (by first | assumption | (intro q0; cases q0; done) | (intro q0; simp at q0; omega))])) (by first | rfl | assumption) rfl (by first | exact Or.inl rfl | exact Or.inr ⟨rfl, rfl⟩) (by first | exact ⟨_, rfl⟩ | exact Or.inl rfl | exact Or.inr rfl | assumption) ?_
    refine s_vret dScene_init_31 rfl (by first | exact Nat.le_refl _ | decide | omega) (by first | exact Nat.le_refl _ | decide | omega) ?_
    refine ⟨rfl, up_self, ⟨upf (upf (fun _ => vI 0) 0 (vI 0)) 1 (vI 0), fun _ => vI 0, ?_, ?_, fun e q1 => ⟨?_, rfl⟩⟩, fun n a1 a2 a3 => by rw [up_ne a1, up_ne a1, up_ne a3, up_ne a1, up_ne a2, up_ne a2, up_ne a2]⟩
    · rw [up_ne (fun q0 => by simp at q0), up_ne (fun q0 => by simp at q0), up_ne (fun q0 => by simp at q0), up_ne (fun q0 => by simp at q0), up_self]
    · rw [up_ne (fun q0 => by simp at q0), up_ne (fun q0 => by simp at q0), up_self]
    · rcases (show e = 0 ∨ e = 1 by omega) with rfl | rfl <;> rfl
theorem nC.el {h : Hp} {σ : Sg} {NS : Nat} (I : nC h σ NS) : EL (39, 0, 0) h (nmL 41 NS) := fun x hx1 => by
  obtain ⟨s, q1, rfl⟩ := nmL_mem hx1
  exact ⟨show (41 : Nat) ≠ 39 by decide, show (41 : Nat) ≠ 40 by decide, 7, _, by unfold isE; omega, (I.2.2.1 s q1).1⟩
theorem c_Scs_add {h : Hp} {σ : Sg} {NS : Nat} {a : Int32} (I : nC h σ NS) (hNS : NS ≤ 8) (h40 : σ 40 0 = nI NS) (z2 : σ 42 NS = 0) (z3 : σ 43 NS = 0) (z4 : ∀ e, e < 2 → σ 44 (2 * NS + e) = 0 ∧ σ 45 (2 * NS + e) = 0) :
    Con mScs_add 7 4 82 [vR (38, 0, 0), vI (zi (decide (a = 1)))] h (fun v h' => fT [39, 40, 41, 42] h h' ∧ (if NS = 8 then v = some (vI (-3)) ∧ h' = h else v = some (vI (nI NS)) ∧ nC h' (us (us σ 41 NS a) 40 0 (nI (NS + 1))) (NS + 1))) := by
  have I0 := I
  obtain ⟨⟨e1, fe, e2, e3⟩, e4, e5, e6⟩ := I
  have css := c_size e4
  rw [nmL_len] at css
  obtain ⟨cap, z, f0, el, -⟩ := id e4
  refine c_enter (by decide +kernel) rfl rfl ?_
  by_cases c8 : NS = 8
  · refine s_aload_n dScs_add_0 rfl rfl ?_
    refine s_get dScs_add_1 gf_Scs_12 (by repeat (first | exact up_self | assumption | rw [up_ne (by first | assumption | (intro q0; cases q0; done) | (intro q0; simp at q0; omega))])) ?_
    refine s_v0 dScs_add_4 cv_Scs_25 (by repeat (first | exact up_self | assumption | rw [up_ne (by first | assumption | (intro q0; cases q0; done) | (intro q0; simp at q0; omega))])) (css) (by first | rfl | exact Nat.ble_eq_true_of_le (by omega)) (by first | rfl | exact Nat.ble_eq_true_of_le (by omega)) (by first | rfl | exact Nat.ble_eq_true_of_le (by omega)) rfl ?_
    refine s_bipush (v := nI 8) dScs_add_7 (by decide) ?_
    refine s_icmp_lt dScs_add_9 (fun q => absurd q (nI_nlt (by omega) (by omega))) (fun _ => ?_)
    refine s_bipush (v := (-3)) dScs_add_12 (by decide) ?_
    refine s_iret dScs_add_14 rfl (by first | exact Nat.le_refl _ | decide | omega) (by first | exact Nat.le_refl _ | decide | omega) ?_
    refine ⟨fT.rf, ?_⟩
    rw [if_pos c8]
    exact ⟨rfl, rfl⟩
  · have n1 := (e6 NS (Nat.le_refl _) 0).1
    have n2 := (e6 NS (Nat.le_refl _) 0).2
    have n3 := (e6 NS (Nat.le_refl _) 1).2
    refine s_aload_n dScs_add_0 rfl rfl ?_
    refine s_get dScs_add_1 gf_Scs_12 (by repeat (first | exact up_self | assumption | rw [up_ne (by first | assumption | (intro q0; cases q0; done) | (intro q0; simp at q0; omega))])) ?_
    refine s_v0 dScs_add_4 cv_Scs_25 (by repeat (first | exact up_self | assumption | rw [up_ne (by first | assumption | (intro q0; cases q0; done) | (intro q0; simp at q0; omega))])) (css) (by first | rfl | exact Nat.ble_eq_true_of_le (by omega)) (by first | rfl | exact Nat.ble_eq_true_of_le (by omega)) (by first | rfl | exact Nat.ble_eq_true_of_le (by omega)) rfl ?_
    refine s_bipush (v := nI 8) dScs_add_7 (by decide) ?_
    refine s_icmp_lt dScs_add_9 (fun _ => ?_) (fun q => absurd (nI_lt (show NS < 8 by omega) (by omega)) q)
    refine s_aload_n dScs_add_15 rfl rfl ?_
    refine s_get dScs_add_16 gf_Scs_12 (by repeat (first | exact up_self | assumption | rw [up_ne (by first | assumption | (intro q0; cases q0; done) | (intro q0; simp at q0; omega))])) ?_
    refine s_newF ((41, NS, 0)) ([vI 0, vI 0, vI 0, vN, vN]) dScs_add_19 nw_Scs_29 rfl (by first | rfl | assumption) n1 rfl rfl ?_
    refine s_dup dScs_add_22 rfl ?_
    refine s_iload_n dScs_add_23 rfl rfl ?_
    refine s_callI (As := [_]) dScs_add_24 ci_Scs_31 (c_Scene_init (decide (a = 1)) up_self (by rw [up_ne (fun q0 => by simp at q0)]; exact n2) (by rw [up_ne (fun q0 => by simp at q0)]; exact n3)) (by first | rfl | exact Nat.ble_eq_true_of_le (by omega)) (by first | rfl | exact Nat.ble_eq_true_of_le (by omega)) (by first | rfl | exact Nat.ble_eq_true_of_le (by omega)) rfl (fun v0 h3 q0 => ?_)
    obtain ⟨rfl, g1, ⟨fa, ga, g2, g3, g4⟩, g5⟩ := q0
    have G : ∀ t r c, (t ≠ 41 ∧ t ≠ 42) ∨ r ≠ NS ∨ (c ≠ 0 ∧ c ≠ 1) → h3 (t, r, c) = h (t, r, c) := fun t r c a1 => by
      rw [g5 _ (fun q0 => by simp at q0; omega) (fun q0 => by simp at q0; omega) (fun q0 => by simp at q0; omega), up_ne (fun q0 => by simp at q0; omega)]
    have G41 : ∀ c, c ≠ 0 → h3 (41, NS, c) = h (41, NS, c) := fun c a1 => by
      rw [g5 _ (fun q0 => by simp at q0; omega) (fun q0 => by simp at q0) (fun q0 => by simp at q0), up_ne (fun q0 => by simp at q0; omega)]
    have L3 : LsT h3 (39, 0, 0) (nmL 41 NS) := e4.at (G _ _ _ (by omega)) (fun c => G _ _ _ (by omega))
    have EL3 : EL (39, 0, 0) h3 (nmL 41 NS) := fun x hx1 => by
      obtain ⟨s, q1, rfl⟩ := nmL_mem hx1
      exact ⟨show (41 : Nat) ≠ 39 by decide, show (41 : Nat) ≠ 40 by decide, 7, _, by unfold isE; omega, (G 41 s 0 (by omega)).trans (e5 s q1).1⟩
    have OB3 : OBJ (39, 0, 0) h3 (41, NS, 0) := ⟨show (41 : Nat) ≠ 39 by decide, show (41 : Nat) ≠ 40 by decide, 7, _, by unfold isE; omega, g1⟩
    have el3 : h3 (39, 0, 0) = _ := (G _ _ _ (by omega)).trans el
    have e13 : h3 (38, 0, 0) = _ := (G _ _ _ (by omega)).trans e1
    refine s_callV (As := [_]) dScs_add_27 cv_Scs_34 (by repeat (first | exact up_self | assumption | rw [up_ne (by first | assumption | (intro q0; cases q0; done) | (intro q0; simp at q0; omega))])) (c_add L3 (by rw [nmL_len]; omega) EL3 OB3 rfl) (by first | rfl | exact Nat.ble_eq_true_of_le (by omega)) (by first | rfl | exact Nat.ble_eq_true_of_le (by omega)) (by first | rfl | exact Nat.ble_eq_true_of_le (by omega)) rfl (fun v0 h4 q0 => ?_)
    obtain ⟨rfl, b1, b2⟩ := q0
    refine s_pop dScs_add_30 rfl ?_
    rw [nmL_add] at b1
    have H4 : ∀ t r c, t ≠ 39 ∧ t ≠ 40 → h4 (t, r, c) = h3 (t, r, c) := fun t r c a1 => b2.o (by omega) (by omega)
    have e14 : h4 (38, 0, 0) = _ := (H4 _ _ _ (by omega)).trans e13
    have cs4 := c_size b1
    rw [nmL_len] at cs4
    obtain ⟨cap4, z14, f04, el4, -⟩ := id b1
    refine s_aload_n dScs_add_31 rfl rfl ?_
    refine s_get dScs_add_32 gf_Scs_12 (by repeat (first | exact up_self | assumption | rw [up_ne (by first | assumption | (intro q0; cases q0; done) | (intro q0; simp at q0; omega))])) ?_
    refine s_v0 dScs_add_35 cv_Scs_25 (by repeat (first | exact up_self | assumption | rw [up_ne (by first | assumption | (intro q0; cases q0; done) | (intro q0; simp at q0; omega))])) (cs4) (by first | rfl | exact Nat.ble_eq_true_of_le (by omega)) (by first | rfl | exact Nat.ble_eq_true_of_le (by omega)) (by first | rfl | exact Nat.ble_eq_true_of_le (by omega)) rfl ?_
    refine s_iconst (v := nI 1) dScs_add_38 (by decide) ?_
    first | refine s_isubN dScs_add_39 (by omega) ?_ | refine s_isub dScs_add_39 ?_
    refine s_iret dScs_add_40 rfl (by first | exact Nat.le_refl _ | decide | omega) (by first | exact Nat.le_refl _ | decide | omega) ?_
    refine ⟨fun n q1 => ?_, ?_⟩
    · obtain ⟨t, r, c⟩ := n
      simp at q1
      rw [H4 _ _ _ (by omega), G _ _ _ (by omega)]
    · rw [if_neg c8]
      refine ⟨by rw [show NS + 1 - 1 = NS by omega], ?_⟩
      generalize hτ : us (us σ 41 NS a) 40 0 (nI (NS + 1)) = τ
      have τo : ∀ k i, (k ≠ 40 ∧ (k ≠ 41 ∨ i ≠ NS)) → τ k i = σ k i := fun k i a1 => by rw [← hτ, us_o (by omega), us_o (by omega)]
      have τ41 : τ 41 NS = a := by rw [← hτ, us_k (by decide), us_s]
      refine ⟨⟨?_, fe, ?_, fun i q1 => ?_⟩, b1, fun s q1 => ?_, fun s q1 cc => ?_⟩
      · rw [e14, τo 49 0 (by omega), τo 47 0 (by omega)]
      · rw [H4 _ _ _ (by omega), G _ _ _ (by omega)]; exact e2
      · rw [τo 49 0 (by omega)] at q1
        rw [τo 48 i (by omega)]
        exact e3 i q1
      · by_cases c1 : s = NS
        · subst c1
          refine ⟨?_, fa, ga, ?_, ?_, fun e q2 => ?_⟩
          · rw [H4 _ _ _ (by omega), g1, τ41, τo 42 s (by omega), τo 43 s (by omega), z2, z3]
          · rw [H4 _ _ _ (by omega), g2]
          · rw [H4 _ _ _ (by omega), g3]
          · rw [τo 44 _ (by omega), τo 45 _ (by omega), (z4 e q2).1, (z4 e q2).2]
            exact g4 e q2
        · obtain ⟨s1, fs, gs, s2, s3, s4⟩ := e5 s (by omega)
          refine ⟨?_, fs, gs, ?_, ?_, fun e q2 => ?_⟩
          · rw [H4 _ _ _ (by omega), G _ _ _ (by omega), τo 41 s (by omega), τo 42 s (by omega), τo 43 s (by omega)]; exact s1
          · rw [H4 _ _ _ (by omega), G _ _ _ (by omega)]; exact s2
          · rw [H4 _ _ _ (by omega), G _ _ _ (by omega)]; exact s3
          · rw [τo 44 _ (by omega), τo 45 _ (by omega)]
            exact s4 e q2
      · rw [H4 _ _ _ (by omega), H4 _ _ _ (by omega), G _ _ _ (by omega), G _ _ _ (by omega)]
        exact e6 s (by omega) cc
theorem c_X_scene {h : Hp} {σ : Sg} {NS : Nat} {aa vv oo tb : Int32} (p : Int32) (M1 : mnC h aa vv oo tb) (I : nC h σ NS) (hNS : NS ≤ 8) (h40 : σ 40 0 = nI NS) (z2 : σ 42 NS = 0) (z3 : σ 43 NS = 0) (z4 : ∀ e, e < 2 → σ 44 (2 * NS + e) = 0 ∧ σ 45 (2 * NS + e) = 0) :
    Con mX_scene 8 4 82 [vR (10, 0, 0), vI p] h (fun v h' => v = some (vI (fScene σ p NS).1) ∧ fT [39, 40, 41, 42] h h' ∧ ∃ NS', NS' ≤ 8 ∧ nC h' (fScene σ p NS).2 NS' ∧ (fScene σ p NS).2 40 0 = nI NS' ∧ NS ≤ NS' ∧ NS' ≤ NS + 1) := by
  have M0 := M1
  unfold mnC at M1
  have e1 := I.1.1
  unfold fScene
  have ca := fun a => c_Scs_add (a := a) I hNS h40 z2 z3 z4
  have fin : ∀ (h' : Hp) (v0 : Option PV), (fT [39, 40, 41, 42] h h' ∧ (if NS = 8 then v0 = some (vI (-3)) ∧ h' = h else v0 = some (vI (nI NS)) ∧ nC h' (us (us σ 41 NS p) 40 0 (nI (NS + 1))) (NS + 1))) → v0 = some (vI (if NS = 8 then ((-3 : Int32), σ) else (nI NS, us (us σ 41 NS p) 40 0 (nI (NS + 1)))).1) ∧ fT [39, 40, 41, 42] h h' ∧ ∃ NS', NS' ≤ 8 ∧ nC h' (if NS = 8 then ((-3 : Int32), σ) else (nI NS, us (us σ 41 NS p) 40 0 (nI (NS + 1)))).2 NS' ∧ (if NS = 8 then ((-3 : Int32), σ) else (nI NS, us (us σ 41 NS p) 40 0 (nI (NS + 1)))).2 40 0 = nI NS' ∧ NS ≤ NS' ∧ NS' ≤ NS + 1 := by
    intro h' v0 ⟨q1, q2⟩
    by_cases c8 : NS = 8
    · rw [if_pos c8] at q2
      simp only [if_pos c8]
      refine ⟨q2.1, q1, NS, hNS, ?_, h40, by omega, by omega⟩
      rw [q2.2]
      exact I
    · rw [if_neg c8] at q2
      simp only [if_neg c8]
      exact ⟨q2.1, q1, NS + 1, by omega, q2.2, us_s, by omega, by omega⟩
  have vv1 : ∀ (h' : Hp) (v0 : Option PV), (fT [39, 40, 41, 42] h h' ∧ (if NS = 8 then v0 = some (vI (-3)) ∧ h' = h else v0 = some (vI (nI NS)) ∧ nC h' (us (us σ 41 NS p) 40 0 (nI (NS + 1))) (NS + 1))) → ∃ y, v0 = some (vI y) := by
    intro h' v0 ⟨q1, q2⟩
    by_cases c8 : NS = 8
    · rw [if_pos c8] at q2; exact ⟨_, q2.1⟩
    · rw [if_neg c8] at q2; exact ⟨_, q2.1⟩
  refine c_enter (by decide +kernel) rfl rfl ?_
  rcases iy_cases p (K := 2) (by omega) with ⟨q2, hz⟩ | ⟨j, hj, rfl, q2⟩
  · rw [q2]
    rcases hz with ⟨z1, -⟩ | ⟨-, hz⟩
    · cases z1
    · have n0 : ¬ p = 0 := fun z1 => hz (by rw [z1]; decide)
      have n1 : ¬ p = 1 := fun z1 => hz (by rw [z1]; decide)
      refine s_iload_n dX_scene_0 rfl rfl ?_
      refine s_if_eq dX_scene_1 (fun q => absurd q n0) (fun _ => ?_)
      refine s_iload_n dX_scene_4 rfl rfl ?_
      refine s_iconst (v := 1) dX_scene_5 (by decide) ?_
      refine s_icmp_eq dX_scene_6 (fun q => absurd q n1) (fun _ => ?_)
      refine s_iconst (v := (-1)) dX_scene_9 (by decide) ?_
      refine s_iret dX_scene_10 rfl (by first | exact Nat.le_refl _ | decide | omega) (by first | exact Nat.le_refl _ | decide | omega) ?_
      exact ⟨rfl, fT.rf, NS, hNS, I, h40, by omega, by omega⟩
  · rw [q2]
    dsimp only
    rcases (show j = 0 ∨ j = 1 by omega) with rfl | rfl
    · refine s_iload_n dX_scene_0 rfl rfl ?_
      refine s_if_eq dX_scene_1 (fun _ => ?_) (fun q => absurd rfl q)
      refine s_aload_n dX_scene_11 rfl rfl ?_
      refine s_get dX_scene_12 gf_X_49 (by repeat (first | exact up_self | assumption | rw [up_ne (by first | assumption | (intro q0; cases q0; done) | (intro q0; simp at q0; omega))])) ?_
      refine s_iload_n dX_scene_15 rfl rfl ?_
      refine s_iconst (v := 1) dX_scene_16 (by decide) ?_
      refine s_icmp_ne dX_scene_17 (fun _ => ?_) (fun q => absurd q (by decide))
      refine s_iconst (v := 0) dX_scene_24 (by decide) ?_
      refine s_callV (As := [_]) dX_scene_25 cv_X_245 (by repeat (first | exact up_self | assumption | rw [up_ne (by first | assumption | (intro q0; cases q0; done) | (intro q0; simp at q0; omega))])) (ca (nI 0)) (by first | rfl | exact Nat.ble_eq_true_of_le (by omega)) (by first | rfl | exact Nat.ble_eq_true_of_le (by omega)) (by first | rfl | exact Nat.ble_eq_true_of_le (by omega)) rfl (fun v0 h2 q0 => ?_)
      have q1 := q0
      have q3 := fin _ _ q1
      obtain ⟨y, rfl⟩ := vv1 _ _ q1
      refine s_iret dX_scene_28 rfl (by first | exact Nat.le_refl _ | decide | omega) (by first | exact Nat.le_refl _ | decide | omega) ?_
      exact q3
    · refine s_iload_n dX_scene_0 rfl rfl ?_
      refine s_if_eq dX_scene_1 (fun q => absurd q (by decide)) (fun _ => ?_)
      refine s_iload_n dX_scene_4 rfl rfl ?_
      refine s_iconst (v := 1) dX_scene_5 (by decide) ?_
      refine s_icmp_eq dX_scene_6 (fun _ => ?_) (fun q => absurd rfl q)
      refine s_aload_n dX_scene_11 rfl rfl ?_
      refine s_get dX_scene_12 gf_X_49 (by repeat (first | exact up_self | assumption | rw [up_ne (by first | assumption | (intro q0; cases q0; done) | (intro q0; simp at q0; omega))])) ?_
      refine s_iload_n dX_scene_15 rfl rfl ?_
      refine s_iconst (v := 1) dX_scene_16 (by decide) ?_
      refine s_icmp_ne dX_scene_17 (fun q => absurd rfl q) (fun _ => ?_)
      refine s_iconst (v := 1) dX_scene_20 (by decide) ?_
      refine s_goto dX_scene_21 ?_
      refine s_callV (As := [_]) dX_scene_25 cv_X_245 (by repeat (first | exact up_self | assumption | rw [up_ne (by first | assumption | (intro q0; cases q0; done) | (intro q0; simp at q0; omega))])) (ca (nI 1)) (by first | rfl | exact Nat.ble_eq_true_of_le (by omega)) (by first | rfl | exact Nat.ble_eq_true_of_le (by omega)) (by first | rfl | exact Nat.ble_eq_true_of_le (by omega)) rfl (fun v0 h2 q0 => ?_)
      have q1 := q0
      have q3 := fin _ _ q1
      obtain ⟨y, rfl⟩ := vv1 _ _ q1
      refine s_iret dX_scene_28 rfl (by first | exact Nat.le_refl _ | decide | omega) (by first | exact Nat.le_refl _ | decide | omega) ?_
      exact q3
theorem c_X_event {h : Hp} {σ : Sg} {NS n : Nat} {aa vv oo tb : Int32} (i : Int32) (M1 : mnC h aa vv oo tb) (I : nC h σ NS) (h49 : σ 49 0 = nI n) (hn : n ≤ 16) : ConF mX_event 0 [vR (10, 0, 0), vI i] h (some (vI (fEvent σ i n))) h := by
  unfold mnC at M1
  obtain ⟨⟨e1, fe, e2, e3⟩, -⟩ := I
  rw [h49] at e1 e3
  rw [nt_nI (by omega)] at e3
  unfold fEvent
  refine c_enter (by decide +kernel) rfl rfl ?_
  rcases iy_cases i (K := n) (by omega) with ⟨q1, hz⟩ | ⟨j, hj, rfl, q1⟩
  · rw [q1]
    rcases hz with ⟨z1, -⟩ | ⟨-, hn1⟩
    · cases z1
    · by_cases c1 : i < 0
      · refine s_iload_n dX_event_0 rfl rfl ?_
        refine s_if_lt dX_event_1 (fun _ => ?_) (fun q => absurd c1 q)
        refine s_bipush (v := (-4)) dX_event_15 (by decide) ?_
        refine s_iret dX_event_17 rfl (by first | exact Nat.le_refl _ | decide | omega) (by first | exact Nat.le_refl _ | decide | omega) ?_
        exact ⟨rfl, rfl⟩
      · refine s_iload_n dX_event_0 rfl rfl ?_
        refine s_if_lt dX_event_1 (fun q => absurd q c1) (fun _ => ?_)
        refine s_iload_n dX_event_4 rfl rfl ?_
        refine s_aload_n dX_event_5 rfl rfl ?_
        refine s_get dX_event_6 gf_X_49 (by repeat (first | exact up_self | assumption | rw [up_ne (by first | assumption | (intro q0; cases q0; done) | (intro q0; simp at q0; omega))])) ?_
        refine s_get dX_event_9 gf_X_262 (by repeat (first | exact up_self | assumption | rw [up_ne (by first | assumption | (intro q0; cases q0; done) | (intro q0; simp at q0; omega))])) ?_
        refine s_icmp_lt dX_event_12 (fun q => absurd q (fun z1 => hn1 ⟨Int32.not_lt.mp c1, z1⟩)) (fun _ => ?_)
        refine s_bipush (v := (-4)) dX_event_15 (by decide) ?_
        refine s_iret dX_event_17 rfl (by first | exact Nat.le_refl _ | decide | omega) (by first | exact Nat.le_refl _ | decide | omega) ?_
        exact ⟨rfl, rfl⟩
  · rw [q1]
    refine s_iload_n dX_event_0 rfl rfl ?_
    refine s_if_lt dX_event_1 (fun q => absurd q (nI_nlt (b := 0) (by omega) (by omega))) (fun _ => ?_)
    refine s_iload_n dX_event_4 rfl rfl ?_
    refine s_aload_n dX_event_5 rfl rfl ?_
    refine s_get dX_event_6 gf_X_49 (by repeat (first | exact up_self | assumption | rw [up_ne (by first | assumption | (intro q0; cases q0; done) | (intro q0; simp at q0; omega))])) ?_
    refine s_get dX_event_9 gf_X_262 (by repeat (first | exact up_self | assumption | rw [up_ne (by first | assumption | (intro q0; cases q0; done) | (intro q0; simp at q0; omega))])) ?_
    refine s_icmp_lt dX_event_12 (fun _ => ?_) (fun q => absurd (nI_lt hj (by omega)) q)
    refine s_aload_n dX_event_18 rfl rfl ?_
    refine s_get dX_event_19 gf_X_49 (by repeat (first | exact up_self | assumption | rw [up_ne (by first | assumption | (intro q0; cases q0; done) | (intro q0; simp at q0; omega))])) ?_
    refine s_get dX_event_22 gf_X_265 (by repeat (first | exact up_self | assumption | rw [up_ne (by first | assumption | (intro q0; cases q0; done) | (intro q0; simp at q0; omega))])) ?_
    refine s_iload_n dX_event_25 rfl rfl ?_
    refine s_ialdN dX_event_26 (by repeat (first | exact up_self | assumption | rw [up_ne (by first | assumption | (intro q0; cases q0; done) | (intro q0; simp at q0; omega))])) (by omega) (by omega) ?_
    refine s_tv (e3 j hj) ?_
    refine s_iret dX_event_27 rfl (by first | exact Nat.le_refl _ | decide | omega) (by first | exact Nat.le_refl _ | decide | omega) ?_
    exact ⟨rfl, rfl⟩
theorem c_began {h : Hp} {σ : Sg} {NS x : Nat} (I : nC h σ NS) (hx : x < NS) : ConF mScs_beganOften 3 [vR (38, 0, 0), vI (nI x)] h (some (vI (σ 43 x))) h := by
  have e1 := I.1.1
  obtain ⟨a1, -⟩ := I.2.2.1 x hx
  obtain ⟨cap, z, f, e2, -⟩ := id I.2.1
  refine c_enter (by decide +kernel) rfl rfl ?_
  refine s_aload_n dScs_beganOften_0 rfl rfl ?_
  refine s_get dScs_beganOften_1 gf_Scs_12 (by repeat (first | exact up_self | assumption | rw [up_ne (by first | assumption | (intro q0; cases q0; done) | (intro q0; simp at q0; omega))])) ?_
  refine s_iload_n dScs_beganOften_4 rfl rfl ?_
  refine s_v1 dScs_beganOften_5 cv_Scs_38 (by repeat (first | exact up_self | assumption | rw [up_ne (by first | assumption | (intro q0; cases q0; done) | (intro q0; simp at q0; omega))])) (c_get I.2.1 (nmL_get hx)) (by first | rfl | exact Nat.ble_eq_true_of_le (by omega)) (by first | rfl | exact Nat.ble_eq_true_of_le (by omega)) (by first | rfl | exact Nat.ble_eq_true_of_le (by omega)) rfl ?_
  refine s_cast dScs_beganOften_8 (by decide) (nw_Scs_29).2.1 (by repeat (first | exact up_self | assumption | rw [up_ne (by first | assumption | (intro q0; cases q0; done) | (intro q0; simp at q0; omega))])) ?_
  refine s_get dScs_beganOften_11 gf_Scs_46 (by repeat (first | exact up_self | assumption | rw [up_ne (by first | assumption | (intro q0; cases q0; done) | (intro q0; simp at q0; omega))])) ?_
  refine s_iret dScs_beganOften_14 rfl (by first | exact Nat.le_refl _ | decide | omega) (by first | exact Nat.le_refl _ | decide | omega) ?_
  exact ⟨rfl, rfl⟩
theorem c_X_happens {h : Hp} {σ : Sg} {NS : Nat} {aa vv oo tb : Int32} (s w : Int32) (M1 : mnC h aa vv oo tb) (I : nC h σ NS) (hNS : NS ≤ 8) (h42 : ∀ x, x < NS → σ 42 x = 0 ∨ σ 42 x = 1) : ConF mX_happens 4 [vR (10, 0, 0), vI s, vI w] h (some (vI (fHappens σ s w NS))) h := by
  unfold mnC at M1
  have e1 := I.1.1
  unfold fHappens
  refine c_enter (by decide +kernel) rfl rfl ?_
  rcases iy_cases s (K := NS) (by omega) with ⟨q1, hz⟩ | ⟨j, hj, rfl, q1⟩
  · rw [q1]
    refine s_aload_n dX_happens_0 rfl rfl ?_
    refine s_get dX_happens_1 gf_X_49 (by repeat (first | exact up_self | assumption | rw [up_ne (by first | assumption | (intro q0; cases q0; done) | (intro q0; simp at q0; omega))])) ?_
    refine s_iload_n dX_happens_4 rfl rfl ?_
    refine s_v1 dX_happens_5 cv_X_164 (by repeat (first | exact up_self | assumption | rw [up_ne (by first | assumption | (intro q0; cases q0; done) | (intro q0; simp at q0; omega))])) (c_Scs_has I hNS hz) (by first | rfl | exact Nat.ble_eq_true_of_le (by omega)) (by first | rfl | exact Nat.ble_eq_true_of_le (by omega)) (by first | rfl | exact Nat.ble_eq_true_of_le (by omega)) rfl ?_
    refine s_if_eq dX_happens_8 (fun _ => ?_) (fun q => absurd rfl q)
    refine s_iconst (v := (-1)) dX_happens_20 (by decide) ?_
    refine s_iret dX_happens_21 rfl (by first | exact Nat.le_refl _ | decide | omega) (by first | exact Nat.le_refl _ | decide | omega) ?_
    exact ⟨rfl, rfl⟩
  · rw [q1]
    have ch := c_Scs_has I hNS (Iy1 hj)
    rcases iy_cases w (K := 2) (by omega) with ⟨q2, hz⟩ | ⟨k, hk, rfl, q2⟩
    · rw [q2]
      rcases hz with ⟨z1, -⟩ | ⟨-, hz⟩
      · cases z1
      · have n0 : ¬ w = 0 := fun z1 => hz (by rw [z1]; decide)
        have n1 : ¬ w = 1 := fun z1 => hz (by rw [z1]; decide)
        refine s_aload_n dX_happens_0 rfl rfl ?_
        refine s_get dX_happens_1 gf_X_49 (by repeat (first | exact up_self | assumption | rw [up_ne (by first | assumption | (intro q0; cases q0; done) | (intro q0; simp at q0; omega))])) ?_
        refine s_iload_n dX_happens_4 rfl rfl ?_
        refine s_v1 dX_happens_5 cv_X_164 (by repeat (first | exact up_self | assumption | rw [up_ne (by first | assumption | (intro q0; cases q0; done) | (intro q0; simp at q0; omega))])) (ch) (by first | rfl | exact Nat.ble_eq_true_of_le (by omega)) (by first | rfl | exact Nat.ble_eq_true_of_le (by omega)) (by first | rfl | exact Nat.ble_eq_true_of_le (by omega)) rfl ?_
        refine s_if_eq dX_happens_8 (fun q => absurd q (by decide)) (fun _ => ?_)
        refine s_iload_n dX_happens_11 rfl rfl ?_
        refine s_if_eq dX_happens_12 (fun q => absurd q n0) (fun _ => ?_)
        refine s_iload_n dX_happens_15 rfl rfl ?_
        refine s_iconst (v := 1) dX_happens_16 (by decide) ?_
        refine s_icmp_eq dX_happens_17 (fun q => absurd q n1) (fun _ => ?_)
        refine s_iconst (v := (-1)) dX_happens_20 (by decide) ?_
        refine s_iret dX_happens_21 rfl (by first | exact Nat.le_refl _ | decide | omega) (by first | exact Nat.le_refl _ | decide | omega) ?_
        exact ⟨rfl, rfl⟩
    · rw [q2]
      dsimp only
      rcases (show k = 0 ∨ k = 1 by omega) with rfl | rfl
      · rw [if_neg (by decide)]
        have co := c_isOn I hNS h42 hj
        have cn := c_asN (h := h) (b := decide (σ 42 j = 1))
        refine s_aload_n dX_happens_0 rfl rfl ?_
        refine s_get dX_happens_1 gf_X_49 (by repeat (first | exact up_self | assumption | rw [up_ne (by first | assumption | (intro q0; cases q0; done) | (intro q0; simp at q0; omega))])) ?_
        refine s_iload_n dX_happens_4 rfl rfl ?_
        refine s_v1 dX_happens_5 cv_X_164 (by repeat (first | exact up_self | assumption | rw [up_ne (by first | assumption | (intro q0; cases q0; done) | (intro q0; simp at q0; omega))])) (ch) (by first | rfl | exact Nat.ble_eq_true_of_le (by omega)) (by first | rfl | exact Nat.ble_eq_true_of_le (by omega)) (by first | rfl | exact Nat.ble_eq_true_of_le (by omega)) rfl ?_
        refine s_if_eq dX_happens_8 (fun q => absurd q (by decide)) (fun _ => ?_)
        refine s_iload_n dX_happens_11 rfl rfl ?_
        refine s_if_eq dX_happens_12 (fun _ => ?_) (fun q => absurd rfl q)
        refine s_iload_n dX_happens_22 rfl rfl ?_
        refine s_if_ne dX_happens_23 (fun q => absurd rfl q) (fun _ => ?_)
        refine s_aload_n dX_happens_26 rfl rfl ?_
        refine s_get dX_happens_27 gf_X_49 (by repeat (first | exact up_self | assumption | rw [up_ne (by first | assumption | (intro q0; cases q0; done) | (intro q0; simp at q0; omega))])) ?_
        refine s_iload_n dX_happens_30 rfl rfl ?_
        refine s_v1 dX_happens_31 cv_X_268 (by repeat (first | exact up_self | assumption | rw [up_ne (by first | assumption | (intro q0; cases q0; done) | (intro q0; simp at q0; omega))])) (co) (by first | rfl | exact Nat.ble_eq_true_of_le (by omega)) (by first | rfl | exact Nat.ble_eq_true_of_le (by omega)) (by first | rfl | exact Nat.ble_eq_true_of_le (by omega)) rfl ?_
        refine s_t1 dX_happens_34 cs_X_87 (cn) (by first | rfl | exact Nat.ble_eq_true_of_le (by omega)) (by first | rfl | exact Nat.ble_eq_true_of_le (by omega)) (by first | rfl | exact Nat.ble_eq_true_of_le (by omega)) rfl ?_
        refine s_goto dX_happens_37 ?_
        refine s_iret dX_happens_48 rfl (by first | exact Nat.le_refl _ | decide | omega) (by first | exact Nat.le_refl _ | decide | omega) ?_
        refine ⟨?_, rfl⟩
        rcases h42 j hj with z1 | z1
        · rw [if_pos z1, zi_dec.2 (by rw [z1]; decide)]
        · rw [if_neg (by rw [z1]; decide), zi_dec.1 z1]
      · rw [if_pos rfl]
        refine s_aload_n dX_happens_0 rfl rfl ?_
        refine s_get dX_happens_1 gf_X_49 (by repeat (first | exact up_self | assumption | rw [up_ne (by first | assumption | (intro q0; cases q0; done) | (intro q0; simp at q0; omega))])) ?_
        refine s_iload_n dX_happens_4 rfl rfl ?_
        refine s_v1 dX_happens_5 cv_X_164 (by repeat (first | exact up_self | assumption | rw [up_ne (by first | assumption | (intro q0; cases q0; done) | (intro q0; simp at q0; omega))])) (ch) (by first | rfl | exact Nat.ble_eq_true_of_le (by omega)) (by first | rfl | exact Nat.ble_eq_true_of_le (by omega)) (by first | rfl | exact Nat.ble_eq_true_of_le (by omega)) rfl ?_
        refine s_if_eq dX_happens_8 (fun q => absurd q (by decide)) (fun _ => ?_)
        refine s_iload_n dX_happens_11 rfl rfl ?_
        refine s_if_eq dX_happens_12 (fun q => absurd q (by decide)) (fun _ => ?_)
        refine s_iload_n dX_happens_15 rfl rfl ?_
        refine s_iconst (v := 1) dX_happens_16 (by decide) ?_
        refine s_icmp_eq dX_happens_17 (fun _ => ?_) (fun q => absurd rfl q)
        refine s_iload_n dX_happens_22 rfl rfl ?_
        refine s_if_ne dX_happens_23 (fun _ => ?_) (fun q => absurd q (by decide))
        refine s_aload_n dX_happens_40 rfl rfl ?_
        refine s_get dX_happens_41 gf_X_49 (by repeat (first | exact up_self | assumption | rw [up_ne (by first | assumption | (intro q0; cases q0; done) | (intro q0; simp at q0; omega))])) ?_
        refine s_iload_n dX_happens_44 rfl rfl ?_
        refine s_v1 dX_happens_45 cv_X_271 (by repeat (first | exact up_self | assumption | rw [up_ne (by first | assumption | (intro q0; cases q0; done) | (intro q0; simp at q0; omega))])) (c_began I hj) (by first | rfl | exact Nat.ble_eq_true_of_le (by omega)) (by first | rfl | exact Nat.ble_eq_true_of_le (by omega)) (by first | rfl | exact Nat.ble_eq_true_of_le (by omega)) rfl ?_
        refine s_iret dX_happens_48 rfl (by first | exact Nat.le_refl _ | decide | omega) (by first | exact Nat.le_refl _ | decide | omega) ?_
        exact ⟨rfl, rfl⟩
/-- values that anchors wait for are there -/
def AQ (σ : Sg) (A N : Nat) : Prop := ∀ a, a < A → σ 44 a = nI 4 → ∃ x, x < 4 * N ∧ σ 45 a = nI x
theorem c_isMet {h : Hp} {σ : Sg} {NS N n a : Nat} (I : nC h σ NS) (Is : sC h σ (σ 4) N) (hN : N ≤ 20) (h49 : σ 49 0 = nI n) (hn : n ≤ 16) (P : AP σ (2 * NS) NS) (Q0 : AQ σ (2 * NS) N) (ha : a < 2 * NS) : ConF mScs_isMet 3 [vR (38, 0, 0), vI (σ 44 a), vI (σ 45 a)] h (some (vI (zi (met σ a n)))) h := by
  have ev := c_evAt (h := h) P ha
  obtain ⟨hNS, hA, P⟩ := P
  obtain ⟨c, hc, ec, h23, h4⟩ := P a ha
  have e1 := I.1.1
  have ent : nt (σ 44 a) = c := by rw [ec, nt_nI (by omega)]
  unfold met
  rw [ent]
  rw [ec] at ev
  rw [ec]
  refine c_enter (by decide +kernel) rfl rfl ?_
  rcases (show c = 0 ∨ c = 1 ∨ c = 2 ∨ c = 3 ∨ c = 4 by omega) with rfl | rfl | rfl | rfl | rfl
  · refine s_iload_n dScs_isMet_0 rfl rfl ?_
    refine s_tabOut (tgt := 85) dScs_isMet_1 (by left; decide +kernel) (by decide) ?_
    refine s_iconst (v := 0) dScs_isMet_85 (by decide) ?_
    refine s_zret dScs_isMet_86 rfl (by first | exact Or.inl rfl | exact Or.inr rfl | assumption) (by first | exact Nat.le_refl _ | decide | omega) (by first | exact Nat.le_refl _ | decide | omega) ?_
    exact ⟨rfl, rfl⟩
  · by_cases c1 : σ 47 0 < σ 45 a
    · refine s_iload_n dScs_isMet_0 rfl rfl ?_
      refine s_tabIn (off := 31) (tgt := 32) dScs_isMet_1 (by decide +kernel) (by decide +kernel) (by decide +kernel) (by decide) ?_
      refine s_aload_n dScs_isMet_32 rfl rfl ?_
      refine s_get dScs_isMet_33 gf_Scs_64 (by repeat (first | exact up_self | assumption | rw [up_ne (by first | assumption | (intro q0; cases q0; done) | (intro q0; simp at q0; omega))])) ?_
      refine s_iload_n dScs_isMet_36 rfl rfl ?_
      refine s_icmp_lt dScs_isMet_37 (fun _ => ?_) (fun q => absurd c1 q)
      refine s_iconst (v := 0) dScs_isMet_44 (by decide) ?_
      refine s_zret dScs_isMet_45 rfl (by first | exact Or.inl rfl | exact Or.inr rfl | assumption) (by first | exact Nat.le_refl _ | decide | omega) (by first | exact Nat.le_refl _ | decide | omega) ?_
      exact ⟨by simp [Int32.not_le.mpr c1], rfl⟩
    · refine s_iload_n dScs_isMet_0 rfl rfl ?_
      refine s_tabIn (off := 31) (tgt := 32) dScs_isMet_1 (by decide +kernel) (by decide +kernel) (by decide +kernel) (by decide) ?_
      refine s_aload_n dScs_isMet_32 rfl rfl ?_
      refine s_get dScs_isMet_33 gf_Scs_64 (by repeat (first | exact up_self | assumption | rw [up_ne (by first | assumption | (intro q0; cases q0; done) | (intro q0; simp at q0; omega))])) ?_
      refine s_iload_n dScs_isMet_36 rfl rfl ?_
      refine s_icmp_lt dScs_isMet_37 (fun q => absurd q c1) (fun _ => ?_)
      refine s_iconst (v := 1) dScs_isMet_40 (by decide) ?_
      refine s_goto dScs_isMet_41 ?_
      refine s_zret dScs_isMet_45 rfl (by first | exact Or.inl rfl | exact Or.inr rfl | assumption) (by first | exact Nat.le_refl _ | decide | omega) (by first | exact Nat.le_refl _ | decide | omega) ?_
      exact ⟨by simp [Int32.not_lt.mp c1], rfl⟩
  · obtain ⟨x, hx, ex⟩ := h23 (Or.inl rfl)
    have z1 : evI (nI 2) (σ 45 a) = nI (2 * nt (σ 45 a)) := evI_s (by unfold evO; rw [if_pos rfl])
    rw [z1] at ev
    have cw := c_wasIn (e1 := nI (2 * nt (σ 45 a))) I h49 hn
    have hb1 := zi_b (isEv σ (nI (2 * nt (σ 45 a))) n)
    refine s_iload_n dScs_isMet_0 rfl rfl ?_
    refine s_tabIn (off := 45) (tgt := 46) dScs_isMet_1 (by decide +kernel) (by decide +kernel) (by decide +kernel) (by decide) ?_
    refine s_aload_n dScs_isMet_46 rfl rfl ?_
    refine s_iload_n dScs_isMet_47 rfl rfl ?_
    refine s_iload_n dScs_isMet_48 rfl rfl ?_
    refine s_t2 dScs_isMet_49 cs_Scs_60 (ev) (by first | rfl | exact Nat.ble_eq_true_of_le (by omega)) (by first | rfl | exact Nat.ble_eq_true_of_le (by omega)) (by first | rfl | exact Nat.ble_eq_true_of_le (by omega)) rfl ?_
    refine s_v1 dScs_isMet_52 cv_Scs_84 (by repeat (first | exact up_self | assumption | rw [up_ne (by first | assumption | (intro q0; cases q0; done) | (intro q0; simp at q0; omega))])) (cw) (by first | rfl | exact Nat.ble_eq_true_of_le (by omega)) (by first | rfl | exact Nat.ble_eq_true_of_le (by omega)) (by first | rfl | exact Nat.ble_eq_true_of_le (by omega)) rfl ?_
    refine s_zret dScs_isMet_55 rfl (by first | exact Or.inl rfl | exact Or.inr rfl | assumption) (by first | exact Nat.le_refl _ | decide | omega) (by first | exact Nat.le_refl _ | decide | omega) ?_
    exact ⟨rfl, rfl⟩
  · obtain ⟨x, hx, ex⟩ := h23 (Or.inr rfl)
    have z1 : evI (nI 3) (σ 45 a) = nI (2 * nt (σ 45 a) + 1) := evI_s (by unfold evO; rw [if_neg (by decide), if_pos rfl])
    rw [z1] at ev
    have cw := c_wasIn (e1 := nI (2 * nt (σ 45 a) + 1)) I h49 hn
    have hb1 := zi_b (isEv σ (nI (2 * nt (σ 45 a) + 1)) n)
    refine s_iload_n dScs_isMet_0 rfl rfl ?_
    refine s_tabIn (off := 45) (tgt := 46) dScs_isMet_1 (by decide +kernel) (by decide +kernel) (by decide +kernel) (by decide) ?_
    refine s_aload_n dScs_isMet_46 rfl rfl ?_
    refine s_iload_n dScs_isMet_47 rfl rfl ?_
    refine s_iload_n dScs_isMet_48 rfl rfl ?_
    refine s_t2 dScs_isMet_49 cs_Scs_60 (ev) (by first | rfl | exact Nat.ble_eq_true_of_le (by omega)) (by first | rfl | exact Nat.ble_eq_true_of_le (by omega)) (by first | rfl | exact Nat.ble_eq_true_of_le (by omega)) rfl ?_
    refine s_v1 dScs_isMet_52 cv_Scs_84 (by repeat (first | exact up_self | assumption | rw [up_ne (by first | assumption | (intro q0; cases q0; done) | (intro q0; simp at q0; omega))])) (cw) (by first | rfl | exact Nat.ble_eq_true_of_le (by omega)) (by first | rfl | exact Nat.ble_eq_true_of_le (by omega)) (by first | rfl | exact Nat.ble_eq_true_of_le (by omega)) rfl ?_
    refine s_zret dScs_isMet_55 rfl (by first | exact Or.inl rfl | exact Or.inr rfl | assumption) (by first | exact Nat.le_refl _ | decide | omega) (by first | exact Nat.le_refl _ | decide | omega) ?_
    exact ⟨rfl, rfl⟩
  · obtain ⟨x, hx, ex⟩ := Q0 a ha ec
    obtain ⟨a1, f, a2, a3⟩ := Is.2.1 (x / 4) (by omega)
    have b1 := a3 (x % 4) (by omega)
    rw [show 4 * (x / 4) + x % 4 = x by omega] at b1
    obtain ⟨cap, z, f0, el, -⟩ := id Is.1
    rw [ex, nt_nI (by omega)]
    by_cases c1 : σ 4 x ≤ 0
    · refine s_iload_n dScs_isMet_0 rfl rfl ?_
      refine s_tabIn (off := 55) (tgt := 56) dScs_isMet_1 (by decide +kernel) (by decide +kernel) (by decide +kernel) (by decide) ?_
      refine s_aload_n dScs_isMet_56 rfl rfl ?_
      refine s_get dScs_isMet_57 gf_Scs_22 (by repeat (first | exact up_self | assumption | rw [up_ne (by first | assumption | (intro q0; cases q0; done) | (intro q0; simp at q0; omega))])) ?_
      refine s_iload_n dScs_isMet_60 rfl rfl ?_
      refine s_iconst (v := nI 4) dScs_isMet_61 (by decide) ?_
      refine s_idiv dScs_isMet_62 (by decide) ?_
      refine s_tv (congrArg vI (nI_div (by omega) (by omega))) ?_
      refine s_v1 dScs_isMet_63 cv_Scs_38 (by repeat (first | exact up_self | assumption | rw [up_ne (by first | assumption | (intro q0; cases q0; done) | (intro q0; simp at q0; omega))])) (c_get Is.1 (nmL_get (t := 14) (show x / 4 < N by omega))) (by first | rfl | exact Nat.ble_eq_true_of_le (by omega)) (by first | rfl | exact Nat.ble_eq_true_of_le (by omega)) (by first | rfl | exact Nat.ble_eq_true_of_le (by omega)) rfl ?_
      refine s_cast dScs_isMet_66 (by decide) (nw_Scs_90).2.1 (by repeat (first | exact up_self | assumption | rw [up_ne (by first | assumption | (intro q0; cases q0; done) | (intro q0; simp at q0; omega))])) ?_
      refine s_get dScs_isMet_69 gf_Scs_92 (by repeat (first | exact up_self | assumption | rw [up_ne (by first | assumption | (intro q0; cases q0; done) | (intro q0; simp at q0; omega))])) ?_
      refine s_iload_n dScs_isMet_72 rfl rfl ?_
      refine s_iconst (v := nI 4) dScs_isMet_73 (by decide) ?_
      refine s_irem dScs_isMet_74 (by decide) ?_
      refine s_tv (congrArg vI (nI_rem (by omega) (by omega))) ?_
      refine s_ialdN dScs_isMet_75 (by repeat (first | exact up_self | assumption | rw [up_ne (by first | assumption | (intro q0; cases q0; done) | (intro q0; simp at q0; omega))])) (by omega) (by omega) ?_
      refine s_tv b1 ?_
      refine s_if_le dScs_isMet_76 (fun _ => ?_) (fun q => absurd c1 q)
      refine s_iconst (v := 0) dScs_isMet_83 (by decide) ?_
      refine s_zret dScs_isMet_84 rfl (by first | exact Or.inl rfl | exact Or.inr rfl | assumption) (by first | exact Nat.le_refl _ | decide | omega) (by first | exact Nat.le_refl _ | decide | omega) ?_
      exact ⟨by simp [Int32.not_lt.mpr c1], rfl⟩
    · refine s_iload_n dScs_isMet_0 rfl rfl ?_
      refine s_tabIn (off := 55) (tgt := 56) dScs_isMet_1 (by decide +kernel) (by decide +kernel) (by decide +kernel) (by decide) ?_
      refine s_aload_n dScs_isMet_56 rfl rfl ?_
      refine s_get dScs_isMet_57 gf_Scs_22 (by repeat (first | exact up_self | assumption | rw [up_ne (by first | assumption | (intro q0; cases q0; done) | (intro q0; simp at q0; omega))])) ?_
      refine s_iload_n dScs_isMet_60 rfl rfl ?_
      refine s_iconst (v := nI 4) dScs_isMet_61 (by decide) ?_
      refine s_idiv dScs_isMet_62 (by decide) ?_
      refine s_tv (congrArg vI (nI_div (by omega) (by omega))) ?_
      refine s_v1 dScs_isMet_63 cv_Scs_38 (by repeat (first | exact up_self | assumption | rw [up_ne (by first | assumption | (intro q0; cases q0; done) | (intro q0; simp at q0; omega))])) (c_get Is.1 (nmL_get (t := 14) (show x / 4 < N by omega))) (by first | rfl | exact Nat.ble_eq_true_of_le (by omega)) (by first | rfl | exact Nat.ble_eq_true_of_le (by omega)) (by first | rfl | exact Nat.ble_eq_true_of_le (by omega)) rfl ?_
      refine s_cast dScs_isMet_66 (by decide) (nw_Scs_90).2.1 (by repeat (first | exact up_self | assumption | rw [up_ne (by first | assumption | (intro q0; cases q0; done) | (intro q0; simp at q0; omega))])) ?_
      refine s_get dScs_isMet_69 gf_Scs_92 (by repeat (first | exact up_self | assumption | rw [up_ne (by first | assumption | (intro q0; cases q0; done) | (intro q0; simp at q0; omega))])) ?_
      refine s_iload_n dScs_isMet_72 rfl rfl ?_
      refine s_iconst (v := nI 4) dScs_isMet_73 (by decide) ?_
      refine s_irem dScs_isMet_74 (by decide) ?_
      refine s_tv (congrArg vI (nI_rem (by omega) (by omega))) ?_
      refine s_ialdN dScs_isMet_75 (by repeat (first | exact up_self | assumption | rw [up_ne (by first | assumption | (intro q0; cases q0; done) | (intro q0; simp at q0; omega))])) (by omega) (by omega) ?_
      refine s_tv b1 ?_
      refine s_if_le dScs_isMet_76 (fun q => absurd q c1) (fun _ => ?_)
      refine s_iconst (v := 1) dScs_isMet_79 (by decide) ?_
      refine s_goto dScs_isMet_80 ?_
      refine s_zret dScs_isMet_84 rfl (by first | exact Or.inl rfl | exact Or.inr rfl | assumption) (by first | exact Nat.le_refl _ | decide | omega) (by first | exact Nat.le_refl _ | decide | omega) ?_
      exact ⟨by simp [Int32.not_le.mp c1], rfl⟩
theorem c_mayChange {h : Hp} {σ : Sg} {NS n s j : Nat} (I : nC h σ NS) (hNS : NS ≤ 8) (h49 : σ 49 0 = nI n) (hn : n ≤ 16) (hs : s < NS) (hj : (σ 42 s = 1 ∧ j = 1) ∨ (¬ σ 42 s = 1 ∧ j = 0)) :
    ConF mScs_mayChange 3 [vR (38, 0, 0), vI (nI s), vI (nI j)] h (some (vI (zi (!isEv σ (nI (2 * s + j)) n && decide (σ 42 s = 1 ∨ σ 43 s = 0 ∨ σ 41 s = 1))))) h := by
  have e1 := I.1.1
  obtain ⟨a1, -⟩ := I.2.2.1 s hs
  obtain ⟨cap, z, f, e2, -⟩ := id I.2.1
  have cw := c_wasIn (e1 := nI (2 * s + j)) I h49 hn
  have cg := c_get I.2.1 (nmL_get hs)
  refine c_enter (by decide +kernel) rfl rfl ?_
  cases hev : isEv σ (nI (2 * s + j)) n with
  | true =>
    rw [hev] at cw
    refine s_aload_n dScs_mayChange_0 rfl rfl ?_
    refine s_iconst (v := nI 2) dScs_mayChange_1 (by decide) ?_
    refine s_iload_n dScs_mayChange_2 rfl rfl ?_
    first | refine s_imulN dScs_mayChange_3 ?_ | refine s_imul dScs_mayChange_3 ?_
    refine s_iload_n dScs_mayChange_4 rfl rfl ?_
    first | refine s_iaddN dScs_mayChange_5 ?_ | refine s_iadd dScs_mayChange_5 ?_
    refine s_v1 dScs_mayChange_6 cv_Scs_84 (by repeat (first | exact up_self | assumption | rw [up_ne (by first | assumption | (intro q0; cases q0; done) | (intro q0; simp at q0; omega))])) (cw) (by first | rfl | exact Nat.ble_eq_true_of_le (by omega)) (by first | rfl | exact Nat.ble_eq_true_of_le (by omega)) (by first | rfl | exact Nat.ble_eq_true_of_le (by omega)) rfl ?_
    refine s_if_eq dScs_mayChange_9 (fun q => absurd q (by decide)) (fun _ => ?_)
    refine s_iconst (v := 0) dScs_mayChange_12 (by decide) ?_
    refine s_zret dScs_mayChange_13 rfl (by first | exact Or.inl rfl | exact Or.inr rfl | assumption) (by first | exact Nat.le_refl _ | decide | omega) (by first | exact Nat.le_refl _ | decide | omega) ?_
    exact ⟨rfl, rfl⟩
  | false =>
    rw [hev] at cw
    rcases hj with ⟨h1, rfl⟩ | ⟨h1, rfl⟩
    · refine s_aload_n dScs_mayChange_0 rfl rfl ?_
      refine s_iconst (v := nI 2) dScs_mayChange_1 (by decide) ?_
      refine s_iload_n dScs_mayChange_2 rfl rfl ?_
      first | refine s_imulN dScs_mayChange_3 ?_ | refine s_imul dScs_mayChange_3 ?_
      refine s_iload_n dScs_mayChange_4 rfl rfl ?_
      first | refine s_iaddN dScs_mayChange_5 ?_ | refine s_iadd dScs_mayChange_5 ?_
      refine s_v1 dScs_mayChange_6 cv_Scs_84 (by repeat (first | exact up_self | assumption | rw [up_ne (by first | assumption | (intro q0; cases q0; done) | (intro q0; simp at q0; omega))])) (cw) (by first | rfl | exact Nat.ble_eq_true_of_le (by omega)) (by first | rfl | exact Nat.ble_eq_true_of_le (by omega)) (by first | rfl | exact Nat.ble_eq_true_of_le (by omega)) rfl ?_
      refine s_if_eq dScs_mayChange_9 (fun _ => ?_) (fun q => absurd rfl q)
      refine s_aload_n dScs_mayChange_14 rfl rfl ?_
      refine s_get dScs_mayChange_15 gf_Scs_12 (by repeat (first | exact up_self | assumption | rw [up_ne (by first | assumption | (intro q0; cases q0; done) | (intro q0; simp at q0; omega))])) ?_
      refine s_iload_n dScs_mayChange_18 rfl rfl ?_
      refine s_v1 dScs_mayChange_19 cv_Scs_38 (by repeat (first | exact up_self | assumption | rw [up_ne (by first | assumption | (intro q0; cases q0; done) | (intro q0; simp at q0; omega))])) (cg) (by first | rfl | exact Nat.ble_eq_true_of_le (by omega)) (by first | rfl | exact Nat.ble_eq_true_of_le (by omega)) (by first | rfl | exact Nat.ble_eq_true_of_le (by omega)) rfl ?_
      refine s_cast dScs_mayChange_22 (by decide) (nw_Scs_29).2.1 (by repeat (first | exact up_self | assumption | rw [up_ne (by first | assumption | (intro q0; cases q0; done) | (intro q0; simp at q0; omega))])) ?_
      refine s_astore_n dScs_mayChange_25 rfl rfl ?_
      refine s_iload_n dScs_mayChange_26 rfl rfl ?_
      refine s_iconst (v := 1) dScs_mayChange_27 (by decide) ?_
      refine s_icmp_eq dScs_mayChange_28 (fun _ => ?_) (fun q => absurd rfl q)
      refine s_iconst (v := 1) dScs_mayChange_45 (by decide) ?_
      refine s_goto dScs_mayChange_46 ?_
      refine s_zret dScs_mayChange_50 rfl (by first | exact Or.inl rfl | exact Or.inr rfl | assumption) (by first | exact Nat.le_refl _ | decide | omega) (by first | exact Nat.le_refl _ | decide | omega) ?_
      exact ⟨by simp [h1], rfl⟩
    · by_cases c1 : σ 43 s = 0
      · refine s_aload_n dScs_mayChange_0 rfl rfl ?_
        refine s_iconst (v := nI 2) dScs_mayChange_1 (by decide) ?_
        refine s_iload_n dScs_mayChange_2 rfl rfl ?_
        first | refine s_imulN dScs_mayChange_3 ?_ | refine s_imul dScs_mayChange_3 ?_
        refine s_iload_n dScs_mayChange_4 rfl rfl ?_
        first | refine s_iaddN dScs_mayChange_5 ?_ | refine s_iadd dScs_mayChange_5 ?_
        refine s_v1 dScs_mayChange_6 cv_Scs_84 (by repeat (first | exact up_self | assumption | rw [up_ne (by first | assumption | (intro q0; cases q0; done) | (intro q0; simp at q0; omega))])) (cw) (by first | rfl | exact Nat.ble_eq_true_of_le (by omega)) (by first | rfl | exact Nat.ble_eq_true_of_le (by omega)) (by first | rfl | exact Nat.ble_eq_true_of_le (by omega)) rfl ?_
        refine s_if_eq dScs_mayChange_9 (fun _ => ?_) (fun q => absurd rfl q)
        refine s_aload_n dScs_mayChange_14 rfl rfl ?_
        refine s_get dScs_mayChange_15 gf_Scs_12 (by repeat (first | exact up_self | assumption | rw [up_ne (by first | assumption | (intro q0; cases q0; done) | (intro q0; simp at q0; omega))])) ?_
        refine s_iload_n dScs_mayChange_18 rfl rfl ?_
        refine s_v1 dScs_mayChange_19 cv_Scs_38 (by repeat (first | exact up_self | assumption | rw [up_ne (by first | assumption | (intro q0; cases q0; done) | (intro q0; simp at q0; omega))])) (cg) (by first | rfl | exact Nat.ble_eq_true_of_le (by omega)) (by first | rfl | exact Nat.ble_eq_true_of_le (by omega)) (by first | rfl | exact Nat.ble_eq_true_of_le (by omega)) rfl ?_
        refine s_cast dScs_mayChange_22 (by decide) (nw_Scs_29).2.1 (by repeat (first | exact up_self | assumption | rw [up_ne (by first | assumption | (intro q0; cases q0; done) | (intro q0; simp at q0; omega))])) ?_
        refine s_astore_n dScs_mayChange_25 rfl rfl ?_
        refine s_iload_n dScs_mayChange_26 rfl rfl ?_
        refine s_iconst (v := 1) dScs_mayChange_27 (by decide) ?_
        refine s_icmp_eq dScs_mayChange_28 (fun q => absurd q (by decide)) (fun _ => ?_)
        refine s_aload_n dScs_mayChange_31 rfl rfl ?_
        refine s_get dScs_mayChange_32 gf_Scs_46 (by repeat (first | exact up_self | assumption | rw [up_ne (by first | assumption | (intro q0; cases q0; done) | (intro q0; simp at q0; omega))])) ?_
        refine s_if_eq dScs_mayChange_35 (fun _ => ?_) (fun q => absurd c1 q)
        refine s_iconst (v := 1) dScs_mayChange_45 (by decide) ?_
        refine s_goto dScs_mayChange_46 ?_
        refine s_zret dScs_mayChange_50 rfl (by first | exact Or.inl rfl | exact Or.inr rfl | assumption) (by first | exact Nat.le_refl _ | decide | omega) (by first | exact Nat.le_refl _ | decide | omega) ?_
        exact ⟨by simp [c1], rfl⟩
      · by_cases c2 : σ 41 s = 1
        · rw [zi_dec.1 c2] at a1
          refine s_aload_n dScs_mayChange_0 rfl rfl ?_
          refine s_iconst (v := nI 2) dScs_mayChange_1 (by decide) ?_
          refine s_iload_n dScs_mayChange_2 rfl rfl ?_
          first | refine s_imulN dScs_mayChange_3 ?_ | refine s_imul dScs_mayChange_3 ?_
          refine s_iload_n dScs_mayChange_4 rfl rfl ?_
          first | refine s_iaddN dScs_mayChange_5 ?_ | refine s_iadd dScs_mayChange_5 ?_
          refine s_v1 dScs_mayChange_6 cv_Scs_84 (by repeat (first | exact up_self | assumption | rw [up_ne (by first | assumption | (intro q0; cases q0; done) | (intro q0; simp at q0; omega))])) (cw) (by first | rfl | exact Nat.ble_eq_true_of_le (by omega)) (by first | rfl | exact Nat.ble_eq_true_of_le (by omega)) (by first | rfl | exact Nat.ble_eq_true_of_le (by omega)) rfl ?_
          refine s_if_eq dScs_mayChange_9 (fun _ => ?_) (fun q => absurd rfl q)
          refine s_aload_n dScs_mayChange_14 rfl rfl ?_
          refine s_get dScs_mayChange_15 gf_Scs_12 (by repeat (first | exact up_self | assumption | rw [up_ne (by first | assumption | (intro q0; cases q0; done) | (intro q0; simp at q0; omega))])) ?_
          refine s_iload_n dScs_mayChange_18 rfl rfl ?_
          refine s_v1 dScs_mayChange_19 cv_Scs_38 (by repeat (first | exact up_self | assumption | rw [up_ne (by first | assumption | (intro q0; cases q0; done) | (intro q0; simp at q0; omega))])) (cg) (by first | rfl | exact Nat.ble_eq_true_of_le (by omega)) (by first | rfl | exact Nat.ble_eq_true_of_le (by omega)) (by first | rfl | exact Nat.ble_eq_true_of_le (by omega)) rfl ?_
          refine s_cast dScs_mayChange_22 (by decide) (nw_Scs_29).2.1 (by repeat (first | exact up_self | assumption | rw [up_ne (by first | assumption | (intro q0; cases q0; done) | (intro q0; simp at q0; omega))])) ?_
          refine s_astore_n dScs_mayChange_25 rfl rfl ?_
          refine s_iload_n dScs_mayChange_26 rfl rfl ?_
          refine s_iconst (v := 1) dScs_mayChange_27 (by decide) ?_
          refine s_icmp_eq dScs_mayChange_28 (fun q => absurd q (by decide)) (fun _ => ?_)
          refine s_aload_n dScs_mayChange_31 rfl rfl ?_
          refine s_get dScs_mayChange_32 gf_Scs_46 (by repeat (first | exact up_self | assumption | rw [up_ne (by first | assumption | (intro q0; cases q0; done) | (intro q0; simp at q0; omega))])) ?_
          refine s_if_eq dScs_mayChange_35 (fun q => absurd q c1) (fun _ => ?_)
          refine s_aload_n dScs_mayChange_38 rfl rfl ?_
          refine s_get dScs_mayChange_39 gf_Scs_87 (by repeat (first | exact up_self | assumption | rw [up_ne (by first | assumption | (intro q0; cases q0; done) | (intro q0; simp at q0; omega))])) ?_
          refine s_if_eq dScs_mayChange_42 (fun q => absurd q (by decide)) (fun _ => ?_)
          refine s_iconst (v := 1) dScs_mayChange_45 (by decide) ?_
          refine s_goto dScs_mayChange_46 ?_
          refine s_zret dScs_mayChange_50 rfl (by first | exact Or.inl rfl | exact Or.inr rfl | assumption) (by first | exact Nat.le_refl _ | decide | omega) (by first | exact Nat.le_refl _ | decide | omega) ?_
          exact ⟨by simp [c2], rfl⟩
        · rw [zi_dec.2 c2] at a1
          refine s_aload_n dScs_mayChange_0 rfl rfl ?_
          refine s_iconst (v := nI 2) dScs_mayChange_1 (by decide) ?_
          refine s_iload_n dScs_mayChange_2 rfl rfl ?_
          first | refine s_imulN dScs_mayChange_3 ?_ | refine s_imul dScs_mayChange_3 ?_
          refine s_iload_n dScs_mayChange_4 rfl rfl ?_
          first | refine s_iaddN dScs_mayChange_5 ?_ | refine s_iadd dScs_mayChange_5 ?_
          refine s_v1 dScs_mayChange_6 cv_Scs_84 (by repeat (first | exact up_self | assumption | rw [up_ne (by first | assumption | (intro q0; cases q0; done) | (intro q0; simp at q0; omega))])) (cw) (by first | rfl | exact Nat.ble_eq_true_of_le (by omega)) (by first | rfl | exact Nat.ble_eq_true_of_le (by omega)) (by first | rfl | exact Nat.ble_eq_true_of_le (by omega)) rfl ?_
          refine s_if_eq dScs_mayChange_9 (fun _ => ?_) (fun q => absurd rfl q)
          refine s_aload_n dScs_mayChange_14 rfl rfl ?_
          refine s_get dScs_mayChange_15 gf_Scs_12 (by repeat (first | exact up_self | assumption | rw [up_ne (by first | assumption | (intro q0; cases q0; done) | (intro q0; simp at q0; omega))])) ?_
          refine s_iload_n dScs_mayChange_18 rfl rfl ?_
          refine s_v1 dScs_mayChange_19 cv_Scs_38 (by repeat (first | exact up_self | assumption | rw [up_ne (by first | assumption | (intro q0; cases q0; done) | (intro q0; simp at q0; omega))])) (cg) (by first | rfl | exact Nat.ble_eq_true_of_le (by omega)) (by first | rfl | exact Nat.ble_eq_true_of_le (by omega)) (by first | rfl | exact Nat.ble_eq_true_of_le (by omega)) rfl ?_
          refine s_cast dScs_mayChange_22 (by decide) (nw_Scs_29).2.1 (by repeat (first | exact up_self | assumption | rw [up_ne (by first | assumption | (intro q0; cases q0; done) | (intro q0; simp at q0; omega))])) ?_
          refine s_astore_n dScs_mayChange_25 rfl rfl ?_
          refine s_iload_n dScs_mayChange_26 rfl rfl ?_
          refine s_iconst (v := 1) dScs_mayChange_27 (by decide) ?_
          refine s_icmp_eq dScs_mayChange_28 (fun q => absurd q (by decide)) (fun _ => ?_)
          refine s_aload_n dScs_mayChange_31 rfl rfl ?_
          refine s_get dScs_mayChange_32 gf_Scs_46 (by repeat (first | exact up_self | assumption | rw [up_ne (by first | assumption | (intro q0; cases q0; done) | (intro q0; simp at q0; omega))])) ?_
          refine s_if_eq dScs_mayChange_35 (fun q => absurd q c1) (fun _ => ?_)
          refine s_aload_n dScs_mayChange_38 rfl rfl ?_
          refine s_get dScs_mayChange_39 gf_Scs_87 (by repeat (first | exact up_self | assumption | rw [up_ne (by first | assumption | (intro q0; cases q0; done) | (intro q0; simp at q0; omega))])) ?_
          refine s_if_eq dScs_mayChange_42 (fun _ => ?_) (fun q => absurd rfl q)
          refine s_iconst (v := 0) dScs_mayChange_49 (by decide) ?_
          refine s_zret dScs_mayChange_50 rfl (by first | exact Or.inl rfl | exact Or.inr rfl | assumption) (by first | exact Nat.le_refl _ | decide | omega) (by first | exact Nat.le_refl _ | decide | omega) ?_
          exact ⟨by simp [h1, c1, c2], rfl⟩
abbrev chS (σ : Sg) (s e n : Nat) (g o : Int32) : Sg := us (us (us (us σ 48 n (nI e)) 49 0 (nI (n + 1))) 43 s g) 42 s o
theorem nC.chg {h h' : Hp} {σ : Sg} {NS s e n : Nat} {g o : Int32} {f : Nat → PV} (I : nC h σ NS) (hs : s < NS) (h49 : σ 49 0 = nI n) (hn : n < 16) (ef : h (38, 1, 0) = some (20, 16, f))
    (h1 : h' (41, s, 0) = some (7, 0, fl [vI (zi (decide (σ 41 s = 1))), vI o, vI g, vR (42, s, 0), vR (42, s, 1)])) (h2 : h' (38, 0, 0) = some (8, 0, fl [vR (12, 0, 0), vR (39, 0, 0), vR (38, 1, 0), vI (nI (n + 1)), vI (σ 47 0)])) (h3 : h' (38, 1, 0) = some (20, 16, upf f n (vI (nI e)))) (h4 : ∀ m, m ≠ (41, s, 0) → m ≠ (38, 0, 0) → m ≠ (38, 1, 0) → h' m = h m) : nC h' (chS σ s e n g o) NS := by
  obtain ⟨⟨e1, fe, e2, e3⟩, e4, e5, e6⟩ := I
  rw [ef] at e2
  cases e2
  rw [h49, nt_nI (by omega)] at e3
  have H : ∀ t r c, (t ≠ 41 ∧ t ≠ 38) ∨ (t = 41 ∧ (r ≠ s ∨ c ≠ 0)) → h' (t, r, c) = h (t, r, c) := fun t r c a1 => h4 _ (fun q0 => by simp at q0; omega) (fun q0 => by simp at q0; omega) (fun q0 => by simp at q0; omega)
  have t49 : chS σ s e n g o 49 0 = nI (n + 1) := by unfold chS; rw [us_k (by decide), us_k (by decide), us_s]
  have t47 : chS σ s e n g o 47 0 = σ 47 0 := by unfold chS; rw [us_k (by decide), us_k (by decide), us_k (by decide), us_k (by decide)]
  have to : ∀ k i, k = 41 ∨ k = 44 ∨ k = 45 → chS σ s e n g o k i = σ k i := fun k i a1 => by unfold chS; rw [us_o (by omega), us_o (by omega), us_o (by omega), us_o (by omega)]
  have t42 : chS σ s e n g o 42 s = o := by unfold chS; rw [us_s]
  have t43 : chS σ s e n g o 43 s = g := by unfold chS; rw [us_k (by decide), us_s]
  have t423 : ∀ s', s' ≠ s → chS σ s e n g o 42 s' = σ 42 s' ∧ chS σ s e n g o 43 s' = σ 43 s' := fun s' a1 => by unfold chS; exact ⟨by rw [us_o (by omega), us_o (by omega), us_o (by omega), us_o (by omega)], by rw [us_o (by omega), us_o (by omega), us_o (by omega), us_o (by omega)]⟩
  have t48 : ∀ i, chS σ s e n g o 48 i = if i = n then nI e else σ 48 i := fun i => by
    unfold chS
    rw [us_k (by decide), us_k (by decide), us_k (by decide)]
    by_cases c1 : i = n
    · subst c1; rw [us_s, if_pos rfl]
    · rw [us_j c1, if_neg c1]
  refine ⟨⟨?_, upf f n (vI (nI e)), h3, fun i q1 => ?_⟩, e4.at (H _ _ _ (by omega)) (fun c => H _ _ _ (by omega)), fun s' q1 => ?_, fun s' q1 c => ?_⟩
  · rw [t49, t47]; exact h2
  · rw [t49, nt_nI (by omega)] at q1
    rw [t48]
    unfold upf
    by_cases c1 : i = n
    · rw [if_pos c1, if_pos c1]
    · rw [if_neg c1, if_neg c1]; exact e3 i (by omega)
  · obtain ⟨s1, fs, gs, s2, s3, s4⟩ := e5 s' q1
    refine ⟨?_, fs, gs, by rw [H _ _ _ (by omega)]; exact s2, by rw [H _ _ _ (by omega)]; exact s3, fun e0 q2 => by rw [to 44 _ (by omega), to 45 _ (by omega)]; exact s4 e0 q2⟩
    by_cases c1 : s' = s
    · subst c1
      rw [h1, to 41 _ (by omega), t42, t43]
    · rw [H _ _ _ (by omega), to 41 _ (by omega), (t423 s' c1).1, (t423 s' c1).2]; exact s1
  · rw [H _ _ _ (by omega), H _ _ _ (by omega)]
    exact e6 s' q1 c
theorem c_change1 {h : Hp} {σ : Sg} {NS n s : Nat} (I : nC h σ NS) (hNS : NS ≤ 8) (h49 : σ 49 0 = nI n) (hn : n < 16) (hs : s < NS) : Con mScs_change 3 0 0 [vR (38, 0, 0), vI (nI s), vI (nI 1)] h (fun v h' => v = none ∧ fT [38, 41] h h' ∧ nC h' (chS σ s (2 * s + 1) n (σ 43 s + 0) 0) NS) := by
  have I0 := I
  obtain ⟨⟨e1, fe, e2, e3⟩, e4, e5, e6⟩ := I
  rw [h49] at e1
  obtain ⟨a1, -⟩ := e5 s hs
  obtain ⟨cap, z, f, el, -⟩ := id e4
  have cg := c_get e4 (nmL_get hs)
  refine c_enter (by decide +kernel) rfl rfl ?_
  refine s_aload_n dScs_change_0 rfl rfl ?_
  refine s_get dScs_change_1 gf_Scs_12 (by repeat (first | exact up_self | assumption | rw [up_ne (by first | assumption | (intro q0; cases q0; done) | (intro q0; simp at q0; omega))])) ?_
  refine s_iload_n dScs_change_4 rfl rfl ?_
  refine s_v1 dScs_change_5 cv_Scs_38 (by repeat (first | exact up_self | assumption | rw [up_ne (by first | assumption | (intro q0; cases q0; done) | (intro q0; simp at q0; omega))])) (cg) (by first | rfl | exact Nat.ble_eq_true_of_le (by omega)) (by first | rfl | exact Nat.ble_eq_true_of_le (by omega)) (by first | rfl | exact Nat.ble_eq_true_of_le (by omega)) rfl ?_
  refine s_cast dScs_change_8 (by decide) (nw_Scs_29).2.1 (by repeat (first | exact up_self | assumption | rw [up_ne (by first | assumption | (intro q0; cases q0; done) | (intro q0; simp at q0; omega))])) ?_
  refine s_astore_n dScs_change_11 rfl rfl ?_
  refine s_aload_n dScs_change_12 rfl rfl ?_
  refine s_iload_n dScs_change_13 rfl rfl ?_
  refine s_if_ne dScs_change_14 (fun _ => ?_) (fun q => absurd q (by decide))
  refine s_iconst (v := 0) dScs_change_21 (by decide) ?_
  refine s_putF dScs_change_22 gf_Scs_42 (by repeat (first | exact up_self | assumption | rw [up_ne (by first | assumption | (intro q0; cases q0; done) | (intro q0; simp at q0; omega))])) (by first | rfl | assumption) rfl (by first | exact Or.inl rfl | exact Or.inr ⟨rfl, rfl⟩) (by first | exact ⟨_, rfl⟩ | exact Or.inl rfl | exact Or.inr rfl | assumption) ?_
  refine s_aload_n dScs_change_25 rfl rfl ?_
  refine s_get dScs_change_26 gf_Scs_42 (by repeat (first | exact up_self | assumption | rw [up_ne (by first | assumption | (intro q0; cases q0; done) | (intro q0; simp at q0; omega))])) ?_
  refine s_if_eq dScs_change_29 (fun _ => ?_) (fun q => absurd rfl q)
  refine s_aload_n dScs_change_42 rfl rfl ?_
  refine s_get dScs_change_43 gf_Scs_18 (by repeat (first | exact up_self | assumption | rw [up_ne (by first | assumption | (intro q0; cases q0; done) | (intro q0; simp at q0; omega))])) ?_
  refine s_aload_n dScs_change_46 rfl rfl ?_
  refine s_get dScs_change_47 gf_Scs_67 (by repeat (first | exact up_self | assumption | rw [up_ne (by first | assumption | (intro q0; cases q0; done) | (intro q0; simp at q0; omega))])) ?_
  refine s_iconst (v := nI 2) dScs_change_50 (by decide) ?_
  refine s_iload_n dScs_change_51 rfl rfl ?_
  first | refine s_imulN dScs_change_52 ?_ | refine s_imul dScs_change_52 ?_
  refine s_iload_n dScs_change_53 rfl rfl ?_
  first | refine s_iaddN dScs_change_54 ?_ | refine s_iadd dScs_change_54 ?_
  refine s_iastN dScs_change_55 (by repeat (first | exact up_self | assumption | rw [up_ne (by first | assumption | (intro q0; cases q0; done) | (intro q0; simp at q0; omega))])) (by first | rfl | assumption) (by omega) (by omega) ?_
  refine s_aload_n dScs_change_56 rfl rfl ?_
  refine s_dup dScs_change_57 rfl ?_
  refine s_get dScs_change_58 gf_Scs_67 (by repeat (first | exact up_self | assumption | rw [up_ne (by first | assumption | (intro q0; cases q0; done) | (intro q0; simp at q0; omega))])) ?_
  refine s_iconst (v := nI 1) dScs_change_61 (by decide) ?_
  first | refine s_iaddN dScs_change_62 ?_ | refine s_iadd dScs_change_62 ?_
  refine s_putF dScs_change_63 gf_Scs_67 (by repeat (first | exact up_self | assumption | rw [up_ne (by first | assumption | (intro q0; cases q0; done) | (intro q0; simp at q0; omega))])) (by first | rfl | assumption) rfl (by first | exact Or.inl rfl | exact Or.inr ⟨rfl, rfl⟩) (by first | exact ⟨_, rfl⟩ | exact Or.inl rfl | exact Or.inr rfl | assumption) ?_
  refine s_vret dScs_change_66 rfl (by first | exact Nat.le_refl _ | decide | omega) (by first | exact Nat.le_refl _ | decide | omega) ?_
  refine ⟨rfl, ((fT.rf.v).v).v, I0.chg hs h49 hn e2 ?_ up_self ?_ (fun m b1 b2 b3 => by rw [up_ne b2, up_ne b3, up_ne b1])⟩
  · rw [up_ne (fun q0 => by simp at q0), up_ne (fun q0 => by simp at q0), up_self, Int32.add_zero]
    rfl
  · rw [up_ne (fun q0 => by simp at q0), up_self]
theorem c_change0 {h : Hp} {σ : Sg} {NS n s : Nat} (I : nC h σ NS) (hNS : NS ≤ 8) (h49 : σ 49 0 = nI n) (hn : n < 16) (hs : s < NS) : Con mScs_change 3 0 0 [vR (38, 0, 0), vI (nI s), vI (nI 0)] h (fun v h' => v = none ∧ fT [38, 41] h h' ∧ nC h' (chS σ s (2 * s) n (σ 43 s + nI 1) 1) NS) := by
  have I0 := I
  obtain ⟨⟨e1, fe, e2, e3⟩, e4, e5, e6⟩ := I
  rw [h49] at e1
  obtain ⟨a1, -⟩ := e5 s hs
  obtain ⟨cap, z, f, el, -⟩ := id e4
  have cg := c_get e4 (nmL_get hs)
  refine c_enter (by decide +kernel) rfl rfl ?_
  refine s_aload_n dScs_change_0 rfl rfl ?_
  refine s_get dScs_change_1 gf_Scs_12 (by repeat (first | exact up_self | assumption | rw [up_ne (by first | assumption | (intro q0; cases q0; done) | (intro q0; simp at q0; omega))])) ?_
  refine s_iload_n dScs_change_4 rfl rfl ?_
  refine s_v1 dScs_change_5 cv_Scs_38 (by repeat (first | exact up_self | assumption | rw [up_ne (by first | assumption | (intro q0; cases q0; done) | (intro q0; simp at q0; omega))])) (cg) (by first | rfl | exact Nat.ble_eq_true_of_le (by omega)) (by first | rfl | exact Nat.ble_eq_true_of_le (by omega)) (by first | rfl | exact Nat.ble_eq_true_of_le (by omega)) rfl ?_
  refine s_cast dScs_change_8 (by decide) (nw_Scs_29).2.1 (by repeat (first | exact up_self | assumption | rw [up_ne (by first | assumption | (intro q0; cases q0; done) | (intro q0; simp at q0; omega))])) ?_
  refine s_astore_n dScs_change_11 rfl rfl ?_
  refine s_aload_n dScs_change_12 rfl rfl ?_
  refine s_iload_n dScs_change_13 rfl rfl ?_
  refine s_if_ne dScs_change_14 (fun q => absurd rfl q) (fun _ => ?_)
  refine s_iconst (v := 1) dScs_change_17 (by decide) ?_
  refine s_goto dScs_change_18 ?_
  refine s_putF dScs_change_22 gf_Scs_42 (by repeat (first | exact up_self | assumption | rw [up_ne (by first | assumption | (intro q0; cases q0; done) | (intro q0; simp at q0; omega))])) (by first | rfl | assumption) rfl (by first | exact Or.inl rfl | exact Or.inr ⟨rfl, rfl⟩) (by first | exact ⟨_, rfl⟩ | exact Or.inl rfl | exact Or.inr rfl | assumption) ?_
  refine s_aload_n dScs_change_25 rfl rfl ?_
  refine s_get dScs_change_26 gf_Scs_42 (by repeat (first | exact up_self | assumption | rw [up_ne (by first | assumption | (intro q0; cases q0; done) | (intro q0; simp at q0; omega))])) ?_
  refine s_if_eq dScs_change_29 (fun q => absurd q (by decide)) (fun _ => ?_)
  refine s_aload_n dScs_change_32 rfl rfl ?_
  refine s_dup dScs_change_33 rfl ?_
  refine s_get dScs_change_34 gf_Scs_46 (by repeat (first | exact up_self | assumption | rw [up_ne (by first | assumption | (intro q0; cases q0; done) | (intro q0; simp at q0; omega))])) ?_
  refine s_iconst (v := nI 1) dScs_change_37 (by decide) ?_
  first | refine s_iaddN dScs_change_38 ?_ | refine s_iadd dScs_change_38 ?_
  refine s_putF dScs_change_39 gf_Scs_46 (by repeat (first | exact up_self | assumption | rw [up_ne (by first | assumption | (intro q0; cases q0; done) | (intro q0; simp at q0; omega))])) (by first | rfl | assumption) rfl (by first | exact Or.inl rfl | exact Or.inr ⟨rfl, rfl⟩) (by first | exact ⟨_, rfl⟩ | exact Or.inl rfl | exact Or.inr rfl | assumption) ?_
  refine s_aload_n dScs_change_42 rfl rfl ?_
  refine s_get dScs_change_43 gf_Scs_18 (by repeat (first | exact up_self | assumption | rw [up_ne (by first | assumption | (intro q0; cases q0; done) | (intro q0; simp at q0; omega))])) ?_
  refine s_aload_n dScs_change_46 rfl rfl ?_
  refine s_get dScs_change_47 gf_Scs_67 (by repeat (first | exact up_self | assumption | rw [up_ne (by first | assumption | (intro q0; cases q0; done) | (intro q0; simp at q0; omega))])) ?_
  refine s_iconst (v := nI 2) dScs_change_50 (by decide) ?_
  refine s_iload_n dScs_change_51 rfl rfl ?_
  first | refine s_imulN dScs_change_52 ?_ | refine s_imul dScs_change_52 ?_
  refine s_iload_n dScs_change_53 rfl rfl ?_
  first | refine s_iaddN dScs_change_54 ?_ | refine s_iadd dScs_change_54 ?_
  refine s_iastN dScs_change_55 (by repeat (first | exact up_self | assumption | rw [up_ne (by first | assumption | (intro q0; cases q0; done) | (intro q0; simp at q0; omega))])) (by first | rfl | assumption) (by omega) (by omega) ?_
  refine s_aload_n dScs_change_56 rfl rfl ?_
  refine s_dup dScs_change_57 rfl ?_
  refine s_get dScs_change_58 gf_Scs_67 (by repeat (first | exact up_self | assumption | rw [up_ne (by first | assumption | (intro q0; cases q0; done) | (intro q0; simp at q0; omega))])) ?_
  refine s_iconst (v := nI 1) dScs_change_61 (by decide) ?_
  first | refine s_iaddN dScs_change_62 ?_ | refine s_iadd dScs_change_62 ?_
  refine s_putF dScs_change_63 gf_Scs_67 (by repeat (first | exact up_self | assumption | rw [up_ne (by first | assumption | (intro q0; cases q0; done) | (intro q0; simp at q0; omega))])) (by first | rfl | assumption) rfl (by first | exact Or.inl rfl | exact Or.inr ⟨rfl, rfl⟩) (by first | exact ⟨_, rfl⟩ | exact Or.inl rfl | exact Or.inr rfl | assumption) ?_
  refine s_vret dScs_change_66 rfl (by first | exact Nat.le_refl _ | decide | omega) (by first | exact Nat.le_refl _ | decide | omega) ?_
  refine ⟨rfl, ?_⟩
  simp only [up_up]
  refine ⟨((fT.rf.v).v).v, I0.chg hs h49 hn e2 ?_ up_self ?_ (fun m b1 b2 b3 => by rw [up_ne b2, up_ne b3, up_ne b1])⟩
  · rw [up_ne (fun q0 => by simp at q0), up_ne (fun q0 => by simp at q0), up_self]
    rfl
  · rw [up_ne (fun q0 => by simp at q0), up_self]
    rfl
