/-! kinds and subjects of the class -/
theorem dpt_step {σ : Sg} {K a p : Nat} (P : KP σ K) (h0 : a ≠ 0) (ha : a < K) (ep : σ 1 a = nI p) (hp : p < a) : dpt σ 20 a = dpt σ 20 p + 1 := by
  have p2 := P.2.1
  show (if a = 0 then 0 else dpt σ 19 (nt (σ 1 a)) + 1) = _
  rw [if_neg h0, ep, nt_nI (by omega), dpt_fuel P 19 20 p (by omega) (by omega) (by omega)]
theorem und_low {σ : Sg} {K o : Nat} (P : KP σ K) : ∀ n a, a ≤ n → a < K → dpt σ 20 a < dpt σ 20 o → und σ n a o = false := by
  intro n
  induction n with
  | zero =>
    intro a h1 h2 h3
    have c1 : a ≠ o := fun z1 => by rw [z1] at h3; omega
    simp [und, c1]
  | succ n ih1 =>
    intro a h1 h2 h3
    have p2 := P.2.1
    have c1 : a ≠ o := fun z1 => by rw [z1] at h3; omega
    by_cases c0 : a = 0
    · simp [und, c1, c0]
      rw [← c0]; exact c1
    · obtain ⟨p, hp, ep⟩ := P.2.2.2 a (by omega) h2
      have := dpt_step P c0 h2 ep hp
      simp only [und, c1, decide_false, Bool.false_or, ep, nt_nI (a := p) (by omega)]
      rw [ih1 p (by omega) (by omega) (by omega), Bool.and_false]
theorem und_flat {σ : Sg} {K a o : Nat} (P : KP σ K) (n : Nat) (h1 : a ≤ n) (h2 : a < K) (h3 : dpt σ 20 a ≤ dpt σ 20 o) : und σ n a o = decide (a = o) := by
  have p2 := P.2.1
  cases n with
  | zero => rfl
  | succ n =>
    by_cases c0 : a = 0
    · simp [und, c0]
    · obtain ⟨p, hp, ep⟩ := P.2.2.2 a (by omega) h2
      have := dpt_step P c0 h2 ep hp
      simp only [und, ep, nt_nI (a := p) (by omega)]
      rw [und_low P n p (by omega) (by omega) (by omega), Bool.and_false, Bool.or_false]
theorem und_fuel {σ : Sg} {K o : Nat} (P : KP σ K) : ∀ n m a, a ≤ n → a ≤ m → a < K → und σ n a o = und σ m a o := by
  intro n
  induction n with
  | zero =>
    intro m a h1 h2 h3
    have : a = 0 := by omega
    subst this
    cases m <;> simp [und]
  | succ n ih1 =>
    intro m a h1 h2 h3
    by_cases c1 : a = 0
    · subst c1
      cases m <;> simp [und]
    · obtain ⟨q, hq, eq⟩ := P.2.2.2 a (by omega) h3
      have p2 := P.2.1
      cases m with
      | zero => omega
      | succ m =>
        simp only [und, eq, nt_nI (a := q) (by omega)]
        rw [ih1 m q (by omega) (by omega) (by omega)]
theorem und_up {σ : Sg} {K a p o : Nat} (P : KP σ K) (h0 : a ≠ 0) (ha : a < K) (ep : σ 1 a = nI p) (hp : p < a) (hne : a ≠ o) : und σ 20 a o = und σ 20 p o := by
  have p2 := P.2.1
  show (decide (a = o) || (decide (a ≠ 0) && und σ 19 (nt (σ 1 a)) o)) = _
  rw [ep, nt_nI (by omega), und_fuel P 19 20 p (by omega) (by omega) (by omega)]
  simp [hne, h0]
theorem nI_dec (n : Nat) : nI (n + 1) + Int32.ofInt (-1) = nI n := by
  rw [← nI_1, show Int32.ofInt (-1) = (-1 : Int32) by decide, Int32.add_assoc, show (1 : Int32) + -1 = 0 by decide, Int32.add_zero]
theorem l_isUnder {h : Hp} {σ : Sg} {K o k0 : Nat} {Q : Option PV → Hp → Prop} (I : kC h σ K) (P : KP σ K) (ho : o < K) : ∀ (n a : Nat) (c : Int32), a < K → ((n = 0 ∧ c ≤ 0 ∧ dpt σ 20 a ≤ dpt σ 20 o) ∨ (c = nI n ∧ dpt σ 20 a = dpt σ 20 o + n)) → Q (some (vI (zi (und σ 20 a o)))) h →
    S mKinds_isUnder 0 0 0 Q 17 [some (vR (11, 0, 0)), some (vI (nI k0)), some (vI (nI o)), some (vI (nI a)), some (vI c)] [] h 0 0 := by
  obtain ⟨e1, f, g, e2, e3, e4, e5⟩ := I
  have p2 := P.2.1
  intro n
  induction n with
  | zero =>
    intro a c ha hc hq
    have hc0 : c ≤ 0 := by
      rcases hc with ⟨-, q1, -⟩ | ⟨q1, -⟩
      · exact q1
      · rw [q1]; exact Int32.le_refl 0
    have hd : dpt σ 20 a ≤ dpt σ 20 o := by rcases hc with ⟨-, -, q1⟩ | ⟨-, q1⟩ <;> omega
    rw [und_flat P 20 (by omega) ha hd] at hq
    by_cases c1 : a = o
    · subst c1
      refine s_iload dKinds_isUnder_17 rfl ?_
      refine s_if_le dKinds_isUnder_19 (fun _ => ?_) (fun q => absurd hc0 q)
      refine s_iload_n dKinds_isUnder_35 rfl rfl ?_
      refine s_iload_n dKinds_isUnder_36 rfl rfl ?_
      refine s_icmp_ne dKinds_isUnder_37 (fun q => absurd rfl q) (fun _ => ?_)
      refine s_iconst (v := 1) dKinds_isUnder_40 (by decide) ?_
      refine s_goto dKinds_isUnder_41 ?_
      refine s_zret dKinds_isUnder_45 rfl (by first | exact Or.inl rfl | exact Or.inr rfl | assumption) (by first | exact Nat.le_refl _ | decide | omega) (by first | exact Nat.le_refl _ | decide | omega) ?_
      rw [zi_dec.1 rfl] at hq
      exact hq
    · refine s_iload dKinds_isUnder_17 rfl ?_
      refine s_if_le dKinds_isUnder_19 (fun _ => ?_) (fun q => absurd hc0 q)
      refine s_iload_n dKinds_isUnder_35 rfl rfl ?_
      refine s_iload_n dKinds_isUnder_36 rfl rfl ?_
      refine s_icmp_ne dKinds_isUnder_37 (fun _ => ?_) (fun q => absurd q (nI_ne c1 (by omega) (by omega)))
      refine s_iconst (v := 0) dKinds_isUnder_44 (by decide) ?_
      refine s_zret dKinds_isUnder_45 rfl (by first | exact Or.inl rfl | exact Or.inr rfl | assumption) (by first | exact Nat.le_refl _ | decide | omega) (by first | exact Nat.le_refl _ | decide | omega) ?_
      rw [zi_dec.2 c1] at hq
      exact hq
  | succ n ih1 =>
    intro a c ha hc hq
    rcases hc with ⟨q1, -⟩ | ⟨rfl, q1⟩
    · omega
    · have hdl := dpt_le P 20 a ha
      have h0 : a ≠ 0 := fun z1 => by rw [z1] at hdl q1; omega
      have hne : a ≠ o := fun z1 => by rw [z1] at q1; omega
      obtain ⟨p, hp, ep⟩ := P.2.2.2 a (by omega) ha
      have hs := dpt_step P h0 ha ep hp
      rw [und_up P h0 ha ep hp hne] at hq
      refine s_iload dKinds_isUnder_17 rfl ?_
      refine s_if_le dKinds_isUnder_19 (fun q => absurd q (nI_ge (a := 0) (by omega) (by omega))) (fun _ => ?_)
      refine s_aload_n dKinds_isUnder_22 rfl rfl ?_
      refine s_get dKinds_isUnder_23 gf_Kinds_9 (by repeat (first | exact up_self | assumption | rw [up_ne (by first | assumption | (intro q0; cases q0; done) | (intro q0; simp at q0; omega))])) ?_
      refine s_iload_n dKinds_isUnder_26 rfl rfl ?_
      refine s_ialdN dKinds_isUnder_27 (by repeat (first | exact up_self | assumption | rw [up_ne (by first | assumption | (intro q0; cases q0; done) | (intro q0; simp at q0; omega))])) (by omega) (by omega) ?_
      refine s_tv ((e4 a (by omega) ha).trans (by rw [ep])) ?_
      refine s_istore_n dKinds_isUnder_28 rfl rfl ?_
      refine s_iinc dKinds_isUnder_29 rfl rfl ?_
      rw [nI_dec]
      refine s_goto dKinds_isUnder_32 ?_
      exact ih1 p (nI n) (by omega) (Or.inr ⟨rfl, by omega⟩) hq
theorem c_isUnder {h : Hp} {σ : Sg} {K k o : Nat} (I : kC h σ K) (P : KP σ K) (hk : k < K) (ho : o < K) : ConF mKinds_isUnder 0 [vR (11, 0, 0), vI (nI k), vI (nI o)] h (some (vI (zi (und σ 20 k o)))) h := by
  have I0 := I
  obtain ⟨e1, f, g, e2, e3, e4, e5⟩ := I
  have p2 := P.2.1
  have d1 := dpt_le P 20 k hk
  have d2 := dpt_le P 20 o ho
  refine c_enter (by decide +kernel) rfl rfl ?_
  by_cases c1 : dpt σ 20 o ≤ dpt σ 20 k
  · refine s_iload_n dKinds_isUnder_0 rfl rfl ?_
    refine s_istore_n dKinds_isUnder_1 rfl rfl ?_
    refine s_aload_n dKinds_isUnder_2 rfl rfl ?_
    refine s_get dKinds_isUnder_3 gf_Kinds_15 (by repeat (first | exact up_self | assumption | rw [up_ne (by first | assumption | (intro q0; cases q0; done) | (intro q0; simp at q0; omega))])) ?_
    refine s_iload_n dKinds_isUnder_6 rfl rfl ?_
    refine s_ialdN dKinds_isUnder_7 (by repeat (first | exact up_self | assumption | rw [up_ne (by first | assumption | (intro q0; cases q0; done) | (intro q0; simp at q0; omega))])) (by omega) (by omega) ?_
    refine s_tv (e5 k hk) ?_
    refine s_aload_n dKinds_isUnder_8 rfl rfl ?_
    refine s_get dKinds_isUnder_9 gf_Kinds_15 (by repeat (first | exact up_self | assumption | rw [up_ne (by first | assumption | (intro q0; cases q0; done) | (intro q0; simp at q0; omega))])) ?_
    refine s_iload_n dKinds_isUnder_12 rfl rfl ?_
    refine s_ialdN dKinds_isUnder_13 (by repeat (first | exact up_self | assumption | rw [up_ne (by first | assumption | (intro q0; cases q0; done) | (intro q0; simp at q0; omega))])) (by omega) (by omega) ?_
    refine s_tv (e5 o ho) ?_
    refine s_isubN dKinds_isUnder_14 c1 ?_
    refine s_istore dKinds_isUnder_15 rfl ?_
    exact l_isUnder I0 P ho (dpt σ 20 k - dpt σ 20 o) k _ hk (Or.inr ⟨rfl, by omega⟩) ⟨rfl, rfl⟩
  · refine s_iload_n dKinds_isUnder_0 rfl rfl ?_
    refine s_istore_n dKinds_isUnder_1 rfl rfl ?_
    refine s_aload_n dKinds_isUnder_2 rfl rfl ?_
    refine s_get dKinds_isUnder_3 gf_Kinds_15 (by repeat (first | exact up_self | assumption | rw [up_ne (by first | assumption | (intro q0; cases q0; done) | (intro q0; simp at q0; omega))])) ?_
    refine s_iload_n dKinds_isUnder_6 rfl rfl ?_
    refine s_ialdN dKinds_isUnder_7 (by repeat (first | exact up_self | assumption | rw [up_ne (by first | assumption | (intro q0; cases q0; done) | (intro q0; simp at q0; omega))])) (by omega) (by omega) ?_
    refine s_tv (e5 k hk) ?_
    refine s_aload_n dKinds_isUnder_8 rfl rfl ?_
    refine s_get dKinds_isUnder_9 gf_Kinds_15 (by repeat (first | exact up_self | assumption | rw [up_ne (by first | assumption | (intro q0; cases q0; done) | (intro q0; simp at q0; omega))])) ?_
    refine s_iload_n dKinds_isUnder_12 rfl rfl ?_
    refine s_ialdN dKinds_isUnder_13 (by repeat (first | exact up_self | assumption | rw [up_ne (by first | assumption | (intro q0; cases q0; done) | (intro q0; simp at q0; omega))])) (by omega) (by omega) ?_
    refine s_tv (e5 o ho) ?_
    refine s_isub dKinds_isUnder_14 ?_
    refine s_istore dKinds_isUnder_15 rfl ?_
    refine l_isUnder I0 P ho 0 k _ hk (Or.inl ⟨rfl, ?_, by omega⟩) ⟨rfl, rfl⟩
    rw [Int32.le_iff_toInt_le, pk_sub_toInt (by omega) (by omega)]
    show _ ≤ (0 : Int)
    omega
theorem c_asN {h : Hp} {b : Bool} : ConF mX_asNumber 0 [vI (zi b)] h (some (vI (zi b))) h := by
  refine c_enter (by decide +kernel) rfl rfl ?_
  cases b with
  | true =>
    refine s_iload_n dX_asNumber_0 rfl rfl ?_
    refine s_if_eq dX_asNumber_1 (fun q => absurd q (by decide)) (fun _ => ?_)
    refine s_iconst (v := 1) dX_asNumber_4 (by decide) ?_
    refine s_goto dX_asNumber_5 ?_
    refine s_iret dX_asNumber_9 rfl (by first | exact Nat.le_refl _ | decide | omega) (by first | exact Nat.le_refl _ | decide | omega) ?_
    exact ⟨rfl, rfl⟩
  | false =>
    refine s_iload_n dX_asNumber_0 rfl rfl ?_
    refine s_if_eq dX_asNumber_1 (fun _ => ?_) (fun q => absurd rfl q)
    refine s_iconst (v := 0) dX_asNumber_8 (by decide) ?_
    refine s_iret dX_asNumber_9 rfl (by first | exact Nat.le_refl _ | decide | omega) (by first | exact Nat.le_refl _ | decide | omega) ?_
    exact ⟨rfl, rfl⟩
theorem c_X_kind {h : Hp} {σ : Sg} {K : Nat} {a v o tb : Int32} (p : Int32) (M1 : mnC h a v o tb) (I : kC h σ K) (P : KP σ K) (hK : σ 0 0 = nI K) :
    Con mX_kind 1 0 0 [vR (10, 0, 0), vI p] h (fun v h' => v = some (vI (fKind σ p K).1) ∧ fT [11] h h' ∧ ∃ K', kC h' (fKind σ p K).2 K' ∧ KP (fKind σ p K).2 K' ∧ (fKind σ p K).2 0 0 = nI K' ∧ K ≤ K') := by
  have p2 := P.2.1
  unfold mnC at M1
  have e1 := I.1
  unfold fKind
  refine c_enter (by decide +kernel) rfl rfl ?_
  rcases iy_cases p (K := K) (by omega) with ⟨q1, hz⟩ | ⟨j, hj, rfl, q1⟩
  · rw [q1]
    refine s_aload_n dX_kind_0 rfl rfl ?_
    refine s_get dX_kind_1 gf_X_10 (by repeat (first | exact up_self | assumption | rw [up_ne (by first | assumption | (intro q0; cases q0; done) | (intro q0; simp at q0; omega))])) ?_
    refine s_iload_n dX_kind_4 rfl rfl ?_
    refine s_v1 dX_kind_5 cv_X_75 (by repeat (first | exact up_self | assumption | rw [up_ne (by first | assumption | (intro q0; cases q0; done) | (intro q0; simp at q0; omega))])) (c_has I p2 hz) rfl rfl rfl rfl ?_
    refine s_if_ne dX_kind_8 (fun q => absurd rfl q) (fun _ => ?_)
    refine s_iconst (v := (-1)) dX_kind_11 (by decide) ?_
    refine s_iret dX_kind_12 rfl (by first | exact Nat.le_refl _ | decide | omega) (by first | exact Nat.le_refl _ | decide | omega) ?_
    exact ⟨rfl, fT.rf, K, I, P, hK, Nat.le_refl _⟩
  · rw [q1]
    refine s_aload_n dX_kind_0 rfl rfl ?_
    refine s_get dX_kind_1 gf_X_10 (by repeat (first | exact up_self | assumption | rw [up_ne (by first | assumption | (intro q0; cases q0; done) | (intro q0; simp at q0; omega))])) ?_
    refine s_iload_n dX_kind_4 rfl rfl ?_
    refine s_v1 dX_kind_5 cv_X_75 (by repeat (first | exact up_self | assumption | rw [up_ne (by first | assumption | (intro q0; cases q0; done) | (intro q0; simp at q0; omega))])) (c_has I p2 (Iy1 hj)) rfl rfl rfl rfl ?_
    refine s_if_ne dX_kind_8 (fun _ => ?_) (fun q => absurd q (by decide))
    refine s_aload_n dX_kind_13 rfl rfl ?_
    refine s_get dX_kind_14 gf_X_10 (by repeat (first | exact up_self | assumption | rw [up_ne (by first | assumption | (intro q0; cases q0; done) | (intro q0; simp at q0; omega))])) ?_
    refine s_iload_n dX_kind_17 rfl rfl ?_
    refine s_callV (As := [_]) dX_kind_18 cv_X_79 e1 (c_kAdd I P hj) rfl rfl rfl rfl (fun v0 h2 q0 => ?_)
    dsimp only at q0 ⊢
    by_cases c1 : K = 20
    · rw [if_pos c1] at q0
      obtain ⟨-, rfl, rfl⟩ := q0
      refine s_iret dX_kind_21 rfl (by first | exact Nat.le_refl _ | decide | omega) (by first | exact Nat.le_refl _ | decide | omega) ?_
      rw [if_pos c1]
      exact ⟨rfl, fT.rf, K, I, P, hK, Nat.le_refl _⟩
    · rw [if_neg c1] at q0
      obtain ⟨a1, rfl, a2⟩ := q0
      refine s_iret dX_kind_21 rfl (by first | exact Nat.le_refl _ | decide | omega) (by first | exact Nat.le_refl _ | decide | omega) ?_
      rw [if_neg c1]
      exact ⟨rfl, a1, K + 1, a2, P.add hj (by omega), (show us (us σ 1 K (nI j)) 0 0 (nI (K + 1)) 0 0 = _ from us_s), by omega⟩
theorem c_X_under {h : Hp} {σ : Sg} {K : Nat} {a v o tb : Int32} (p q : Int32) (M1 : mnC h a v o tb) (I : kC h σ K) (P : KP σ K) : ConF mX_under 1 [vR (10, 0, 0), vI p, vI q] h (some (vI (fUnder σ p q K))) h := by
  have p2 := P.2.1
  unfold mnC at M1
  have e1 := I.1
  unfold fUnder
  refine c_enter (by decide +kernel) rfl rfl ?_
  rcases iy_cases p (K := K) (by omega) with ⟨q1, hz⟩ | ⟨j, hj, rfl, q1⟩
  · rw [q1]
    refine s_aload_n dX_under_0 rfl rfl ?_
    refine s_get dX_under_1 gf_X_10 (by repeat (first | exact up_self | assumption | rw [up_ne (by first | assumption | (intro q0; cases q0; done) | (intro q0; simp at q0; omega))])) ?_
    refine s_iload_n dX_under_4 rfl rfl ?_
    refine s_v1 dX_under_5 cv_X_75 (by repeat (first | exact up_self | assumption | rw [up_ne (by first | assumption | (intro q0; cases q0; done) | (intro q0; simp at q0; omega))])) (c_has I p2 hz) rfl rfl rfl rfl ?_
    refine s_if_eq dX_under_8 (fun _ => ?_) (fun q => absurd rfl q)
    refine s_iconst (v := (-1)) dX_under_22 (by decide) ?_
    refine s_iret dX_under_23 rfl (by first | exact Nat.le_refl _ | decide | omega) (by first | exact Nat.le_refl _ | decide | omega) ?_
    exact ⟨rfl, rfl⟩
  · rw [q1]
    rcases iy_cases q (K := K) (by omega) with ⟨q2, hz⟩ | ⟨i, hi, rfl, q2⟩
    · rw [q2]
      refine s_aload_n dX_under_0 rfl rfl ?_
      refine s_get dX_under_1 gf_X_10 (by repeat (first | exact up_self | assumption | rw [up_ne (by first | assumption | (intro q0; cases q0; done) | (intro q0; simp at q0; omega))])) ?_
      refine s_iload_n dX_under_4 rfl rfl ?_
      refine s_v1 dX_under_5 cv_X_75 (by repeat (first | exact up_self | assumption | rw [up_ne (by first | assumption | (intro q0; cases q0; done) | (intro q0; simp at q0; omega))])) (c_has I p2 (Iy1 hj)) rfl rfl rfl rfl ?_
      refine s_if_eq dX_under_8 (fun q => absurd q (by decide)) (fun _ => ?_)
      refine s_aload_n dX_under_11 rfl rfl ?_
      refine s_get dX_under_12 gf_X_10 (by repeat (first | exact up_self | assumption | rw [up_ne (by first | assumption | (intro q0; cases q0; done) | (intro q0; simp at q0; omega))])) ?_
      refine s_iload_n dX_under_15 rfl rfl ?_
      refine s_v1 dX_under_16 cv_X_75 (by repeat (first | exact up_self | assumption | rw [up_ne (by first | assumption | (intro q0; cases q0; done) | (intro q0; simp at q0; omega))])) (c_has I p2 hz) rfl rfl rfl rfl ?_
      refine s_if_ne dX_under_19 (fun q => absurd rfl q) (fun _ => ?_)
      refine s_iconst (v := (-1)) dX_under_22 (by decide) ?_
      refine s_iret dX_under_23 rfl (by first | exact Nat.le_refl _ | decide | omega) (by first | exact Nat.le_refl _ | decide | omega) ?_
      exact ⟨rfl, rfl⟩
    · rw [q2]
      refine s_aload_n dX_under_0 rfl rfl ?_
      refine s_get dX_under_1 gf_X_10 (by repeat (first | exact up_self | assumption | rw [up_ne (by first | assumption | (intro q0; cases q0; done) | (intro q0; simp at q0; omega))])) ?_
      refine s_iload_n dX_under_4 rfl rfl ?_
      refine s_v1 dX_under_5 cv_X_75 (by repeat (first | exact up_self | assumption | rw [up_ne (by first | assumption | (intro q0; cases q0; done) | (intro q0; simp at q0; omega))])) (c_has I p2 (Iy1 hj)) rfl rfl rfl rfl ?_
      refine s_if_eq dX_under_8 (fun q => absurd q (by decide)) (fun _ => ?_)
      refine s_aload_n dX_under_11 rfl rfl ?_
      refine s_get dX_under_12 gf_X_10 (by repeat (first | exact up_self | assumption | rw [up_ne (by first | assumption | (intro q0; cases q0; done) | (intro q0; simp at q0; omega))])) ?_
      refine s_iload_n dX_under_15 rfl rfl ?_
      refine s_v1 dX_under_16 cv_X_75 (by repeat (first | exact up_self | assumption | rw [up_ne (by first | assumption | (intro q0; cases q0; done) | (intro q0; simp at q0; omega))])) (c_has I p2 (Iy1 hi)) rfl rfl rfl rfl ?_
      refine s_if_ne dX_under_19 (fun _ => ?_) (fun q => absurd q (by decide))
      refine s_aload_n dX_under_24 rfl rfl ?_
      refine s_get dX_under_25 gf_X_10 (by repeat (first | exact up_self | assumption | rw [up_ne (by first | assumption | (intro q0; cases q0; done) | (intro q0; simp at q0; omega))])) ?_
      refine s_iload_n dX_under_28 rfl rfl ?_
      refine s_iload_n dX_under_29 rfl rfl ?_
      refine s_v2 dX_under_30 cv_X_83 (by repeat (first | exact up_self | assumption | rw [up_ne (by first | assumption | (intro q0; cases q0; done) | (intro q0; simp at q0; omega))])) (c_isUnder I P hj hi) rfl rfl rfl rfl ?_
      refine s_t1 dX_under_33 cs_X_87 (c_asN) rfl rfl rfl rfl ?_
      refine s_iret dX_under_36 rfl (by first | exact Nat.le_refl _ | decide | omega) (by first | exact Nat.le_refl _ | decide | omega) ?_
      exact ⟨rfl, rfl⟩
/-! subjects -/
theorem c_subjAt {h : Hp} {σ : Sg} {w : Nat → Int32} {N j : Nat} {a v o tb : Int32} (M1 : mnC h a v o tb) (I : sC h σ w N) (hN : N ≤ 20) (hj : j < N) : ConF mX_subjectAt 3 [vR (10, 0, 0), vI (nI j)] h (some (vR (14, j, 0))) h := by
  unfold mnC at M1
  have e1 := (I.2.1 j hj).1
  obtain ⟨cap, z, f, e2, -⟩ := id I.1
  have cs := c_size I.1
  rw [nmL_len] at cs
  refine c_enter (by decide +kernel) rfl rfl ?_
  refine s_iload_n dX_subjectAt_0 rfl rfl ?_
  refine s_if_lt dX_subjectAt_1 (fun q => absurd q (nI_nlt (b := 0) (by omega) (by omega))) (fun _ => ?_)
  refine s_iload_n dX_subjectAt_4 rfl rfl ?_
  refine s_aload_n dX_subjectAt_5 rfl rfl ?_
  refine s_get dX_subjectAt_6 gf_X_19 (by repeat (first | exact up_self | assumption | rw [up_ne (by first | assumption | (intro q0; cases q0; done) | (intro q0; simp at q0; omega))])) ?_
  refine s_v0 dX_subjectAt_9 cv_X_91 (by repeat (first | exact up_self | assumption | rw [up_ne (by first | assumption | (intro q0; cases q0; done) | (intro q0; simp at q0; omega))])) (cs) rfl rfl rfl rfl ?_
  refine s_icmp_ge dX_subjectAt_12 (fun q => absurd q (nI_ge hj (by omega))) (fun _ => ?_)
  refine s_aload_n dX_subjectAt_15 rfl rfl ?_
  refine s_get dX_subjectAt_16 gf_X_19 (by repeat (first | exact up_self | assumption | rw [up_ne (by first | assumption | (intro q0; cases q0; done) | (intro q0; simp at q0; omega))])) ?_
  refine s_iload_n dX_subjectAt_19 rfl rfl ?_
  refine s_v1 dX_subjectAt_20 cv_X_194 (by repeat (first | exact up_self | assumption | rw [up_ne (by first | assumption | (intro q0; cases q0; done) | (intro q0; simp at q0; omega))])) (c_get I.1 (nmL_get hj)) rfl rfl rfl rfl ?_
  refine s_cast dX_subjectAt_23 (by decide) (nw_X_95).2.1 (by repeat (first | exact up_self | assumption | rw [up_ne (by first | assumption | (intro q0; cases q0; done) | (intro q0; simp at q0; omega))])) ?_
  refine s_goto dX_subjectAt_26 ?_
  refine s_aret dX_subjectAt_30 rfl (by first | exact Or.inl ⟨_, rfl⟩ | exact Or.inr ⟨_, rfl⟩) (by first | exact Nat.le_refl _ | decide | omega) (by first | exact Nat.le_refl _ | decide | omega) ?_
  exact ⟨rfl, rfl⟩
theorem c_subjNo {h : Hp} {σ : Sg} {w : Nat → Int32} {N : Nat} {p a v o tb : Int32} (M1 : mnC h a v o tb) (I : sC h σ w N) (hN : N ≤ 20) (hz : Iy 0 p N) : ConF mX_subjectAt 3 [vR (10, 0, 0), vI p] h (some vN) h := by
  unfold mnC at M1
  obtain ⟨cap, z, f, e2, -⟩ := id I.1
  have cs := c_size I.1
  rw [nmL_len] at cs
  rcases hz with ⟨z1, -⟩ | ⟨-, hn⟩
  · cases z1
  · refine c_enter (by decide +kernel) rfl rfl ?_
    by_cases c1 : p < 0
    · refine s_iload_n dX_subjectAt_0 rfl rfl ?_
      refine s_if_lt dX_subjectAt_1 (fun _ => ?_) (fun q => absurd c1 q)
      refine s_null dX_subjectAt_29 ?_
      refine s_aret dX_subjectAt_30 rfl (by first | exact Or.inl ⟨_, rfl⟩ | exact Or.inr ⟨_, rfl⟩) (by first | exact Nat.le_refl _ | decide | omega) (by first | exact Nat.le_refl _ | decide | omega) ?_
      exact ⟨rfl, rfl⟩
    · refine s_iload_n dX_subjectAt_0 rfl rfl ?_
      refine s_if_lt dX_subjectAt_1 (fun q => absurd q c1) (fun _ => ?_)
      refine s_iload_n dX_subjectAt_4 rfl rfl ?_
      refine s_aload_n dX_subjectAt_5 rfl rfl ?_
      refine s_get dX_subjectAt_6 gf_X_19 (by repeat (first | exact up_self | assumption | rw [up_ne (by first | assumption | (intro q0; cases q0; done) | (intro q0; simp at q0; omega))])) ?_
      refine s_v0 dX_subjectAt_9 cv_X_91 (by repeat (first | exact up_self | assumption | rw [up_ne (by first | assumption | (intro q0; cases q0; done) | (intro q0; simp at q0; omega))])) (cs) rfl rfl rfl rfl ?_
      refine s_icmp_ge dX_subjectAt_12 (fun _ => ?_) (fun q => absurd (Int32.not_lt.mp fun z1 => hn ⟨Int32.not_lt.mp c1, z1⟩) q)
      refine s_null dX_subjectAt_29 ?_
      refine s_aret dX_subjectAt_30 rfl (by first | exact Or.inl ⟨_, rfl⟩ | exact Or.inr ⟨_, rfl⟩) (by first | exact Nat.le_refl _ | decide | omega) (by first | exact Nat.le_refl _ | decide | omega) ?_
      exact ⟨rfl, rfl⟩
theorem c_isSlot {h : Hp} {r p : Int32} (hz : Iy r p 4) : ConF mX_isSlot 0 [vI p] h (some (vI r)) h := by
  refine c_enter (by decide +kernel) rfl rfl ?_
  rcases hz with ⟨rfl, j, hj, rfl⟩ | ⟨rfl, hn⟩
  · refine s_iload_n dX_isSlot_0 rfl rfl ?_
    refine s_if_lt dX_isSlot_1 (fun q => absurd q (nI_nlt (b := 0) (by omega) (by omega))) (fun _ => ?_)
    refine s_iload_n dX_isSlot_4 rfl rfl ?_
    refine s_iconst (v := nI 4) dX_isSlot_5 (by decide) ?_
    refine s_icmp_ge dX_isSlot_6 (fun q => absurd q (nI_ge hj (by omega))) (fun _ => ?_)
    refine s_iconst (v := 1) dX_isSlot_9 (by decide) ?_
    refine s_goto dX_isSlot_10 ?_
    refine s_zret dX_isSlot_14 rfl (by first | exact Or.inl rfl | exact Or.inr rfl | assumption) (by first | exact Nat.le_refl _ | decide | omega) (by first | exact Nat.le_refl _ | decide | omega) ?_
    exact ⟨rfl, rfl⟩
  · by_cases c1 : p < 0
    · refine s_iload_n dX_isSlot_0 rfl rfl ?_
      refine s_if_lt dX_isSlot_1 (fun _ => ?_) (fun q => absurd c1 q)
      refine s_iconst (v := 0) dX_isSlot_13 (by decide) ?_
      refine s_zret dX_isSlot_14 rfl (by first | exact Or.inl rfl | exact Or.inr rfl | assumption) (by first | exact Nat.le_refl _ | decide | omega) (by first | exact Nat.le_refl _ | decide | omega) ?_
      exact ⟨rfl, rfl⟩
    · refine s_iload_n dX_isSlot_0 rfl rfl ?_
      refine s_if_lt dX_isSlot_1 (fun q => absurd q c1) (fun _ => ?_)
      refine s_iload_n dX_isSlot_4 rfl rfl ?_
      refine s_iconst (v := nI 4) dX_isSlot_5 (by decide) ?_
      refine s_icmp_ge dX_isSlot_6 (fun _ => ?_) (fun q => absurd (Int32.not_lt.mp fun z1 => hn ⟨Int32.not_lt.mp c1, z1⟩) q)
      refine s_iconst (v := 0) dX_isSlot_13 (by decide) ?_
      refine s_zret dX_isSlot_14 rfl (by first | exact Or.inl rfl | exact Or.inr rfl | assumption) (by first | exact Nat.le_refl _ | decide | omega) (by first | exact Nat.le_refl _ | decide | omega) ?_
      exact ⟨rfl, rfl⟩
theorem c_Subj_init {h : Hp} {N : Nat} {k : Int32} (e1 : h (14, N, 0) = some (9, 0, fl [vI 0, vN])) (e2 : h (15, N, 0) = none) : Con mSubj_init 1 1 4 [vR (14, N, 0), vI k] h (fun v h' => v = none ∧ h' = up (up h (15, N, 0) (20, 4, fun _ => vI 0)) (14, N, 0) (9, 0, fl [vI k, vR (15, N, 0)])) := by
  refine c_enter (by decide +kernel) rfl rfl ?_
  refine s_aload_n dSubj_init_0 rfl rfl ?_
  refine s_objInit dSubj_init_1 ob_Subj_3 rfl rfl ?_
  refine s_aload_n dSubj_init_4 rfl rfl ?_
  refine s_iconst (v := nI 4) dSubj_init_5 (by decide) ?_
  refine s_newa (15, N, 0) _ dSubj_init_6 rfl ⟨Or.inl rfl, ac20⟩ rfl rfl e2 rfl rfl ?_
  refine s_putF dSubj_init_8 gf_Subj_9 (by repeat (first | exact up_self | assumption | rw [up_ne (by first | assumption | (intro q0; cases q0; done) | (intro q0; simp at q0; omega))])) (by first | rfl | assumption) rfl (by first | exact Or.inl rfl | exact Or.inr ⟨rfl, rfl⟩) (by first | exact ⟨_, rfl⟩ | exact Or.inl rfl | exact Or.inr rfl | assumption) ?_
  refine s_aload_n dSubj_init_11 rfl rfl ?_
  refine s_iload_n dSubj_init_12 rfl rfl ?_
  refine s_putF dSubj_init_13 gf_Subj_15 (by repeat (first | exact up_self | assumption | rw [up_ne (by first | assumption | (intro q0; cases q0; done) | (intro q0; simp at q0; omega))])) (by first | rfl | assumption) rfl (by first | exact Or.inl rfl | exact Or.inr ⟨rfl, rfl⟩) (by first | exact ⟨_, rfl⟩ | exact Or.inl rfl | exact Or.inr rfl | assumption) ?_
  refine s_vret dSubj_init_16 rfl (by first | exact Nat.le_refl _ | decide | omega) (by first | exact Nat.le_refl _ | decide | omega) ?_
  exact ⟨rfl, by rw [up_up]; rfl⟩
theorem c_X_subject {h : Hp} {σ : Sg} {K N : Nat} {a v o tb : Int32} (p : Int32) (M1 : mnC h a v o tb) (I : kC h σ K) (hK : K ≤ 20) (J : sC h σ (σ 4) N) (hN : N ≤ 20) (hN2 : σ 2 0 = nI N) (hz : ∀ i, 4 * N ≤ i → σ 4 i = 0) :
    Con mX_subject 7 3 79 [vR (10, 0, 0), vI p] h (fun v h' => v = some (vI (fSubject σ p K N).1) ∧ fT [12, 13, 14, 15] h h' ∧ ∃ N', N ≤ N' ∧ N' ≤ 20 ∧ sC h' (fSubject σ p K N).2 ((fSubject σ p K N).2 4) N' ∧ (fSubject σ p K N).2 2 0 = nI N' ∧ (∀ i, 4 * N' ≤ i → (fSubject σ p K N).2 4 i = 0)) := by
  unfold mnC at M1
  have e1 := I.1
  obtain ⟨cap, z, f, e2, -⟩ := id J.1
  have cs := c_size J.1
  rw [nmL_len] at cs
  unfold fSubject
  refine c_enter (by decide +kernel) rfl rfl ?_
  rcases iy_cases p (K := K) (by omega) with ⟨q1, hz1⟩ | ⟨j, hj, rfl, q1⟩
  · rw [q1]
    refine s_aload_n dX_subject_0 rfl rfl ?_
    refine s_get dX_subject_1 gf_X_10 (by repeat (first | exact up_self | assumption | rw [up_ne (by first | assumption | (intro q0; cases q0; done) | (intro q0; simp at q0; omega))])) ?_
    refine s_iload_n dX_subject_4 rfl rfl ?_
    refine s_v1 dX_subject_5 cv_X_75 (by repeat (first | exact up_self | assumption | rw [up_ne (by first | assumption | (intro q0; cases q0; done) | (intro q0; simp at q0; omega))])) (c_has I hK hz1) rfl rfl rfl rfl ?_
    refine s_if_ne dX_subject_8 (fun q => absurd rfl q) (fun _ => ?_)
    refine s_iconst (v := (-1)) dX_subject_11 (by decide) ?_
    refine s_iret dX_subject_12 rfl (by first | exact Nat.le_refl _ | decide | omega) (by first | exact Nat.le_refl _ | decide | omega) ?_
    exact ⟨rfl, fT.rf, N, Nat.le_refl _, hN, J, hN2, hz⟩
  · rw [q1]
    by_cases c1 : N = 20
    · refine s_aload_n dX_subject_0 rfl rfl ?_
      refine s_get dX_subject_1 gf_X_10 (by repeat (first | exact up_self | assumption | rw [up_ne (by first | assumption | (intro q0; cases q0; done) | (intro q0; simp at q0; omega))])) ?_
      refine s_iload_n dX_subject_4 rfl rfl ?_
      refine s_v1 dX_subject_5 cv_X_75 (by repeat (first | exact up_self | assumption | rw [up_ne (by first | assumption | (intro q0; cases q0; done) | (intro q0; simp at q0; omega))])) (c_has I hK (Iy1 hj)) rfl rfl rfl rfl ?_
      refine s_if_ne dX_subject_8 (fun _ => ?_) (fun q => absurd q (by decide))
      refine s_aload_n dX_subject_13 rfl rfl ?_
      refine s_get dX_subject_14 gf_X_19 (by repeat (first | exact up_self | assumption | rw [up_ne (by first | assumption | (intro q0; cases q0; done) | (intro q0; simp at q0; omega))])) ?_
      refine s_v0 dX_subject_17 cv_X_91 (by repeat (first | exact up_self | assumption | rw [up_ne (by first | assumption | (intro q0; cases q0; done) | (intro q0; simp at q0; omega))])) (cs) rfl rfl rfl rfl ?_
      refine s_bipush (v := nI 20) dX_subject_20 (by decide) ?_
      refine s_icmp_lt dX_subject_22 (fun q => absurd q (nI_nlt (by omega) (by omega))) (fun _ => ?_)
      refine s_bipush (v := (-3)) dX_subject_25 (by decide) ?_
      refine s_iret dX_subject_27 rfl (by first | exact Nat.le_refl _ | decide | omega) (by first | exact Nat.le_refl _ | decide | omega) ?_
      dsimp only
      rw [if_pos c1]
      exact ⟨rfl, fT.rf, N, Nat.le_refl _, hN, J, hN2, hz⟩
    · obtain ⟨n1, n2⟩ := J.2.2 N (Nat.le_refl _)
      have n2b : up h (14, N, 0) (9, 0, fl [vI 0, vN]) (15, N, 0) = none := by rw [up_ne (fun q0 => by cases q0)]; exact n2
      refine s_aload_n dX_subject_0 rfl rfl ?_
      refine s_get dX_subject_1 gf_X_10 (by repeat (first | exact up_self | assumption | rw [up_ne (by first | assumption | (intro q0; cases q0; done) | (intro q0; simp at q0; omega))])) ?_
      refine s_iload_n dX_subject_4 rfl rfl ?_
      refine s_v1 dX_subject_5 cv_X_75 (by repeat (first | exact up_self | assumption | rw [up_ne (by first | assumption | (intro q0; cases q0; done) | (intro q0; simp at q0; omega))])) (c_has I hK (Iy1 hj)) rfl rfl rfl rfl ?_
      refine s_if_ne dX_subject_8 (fun _ => ?_) (fun q => absurd q (by decide))
      refine s_aload_n dX_subject_13 rfl rfl ?_
      refine s_get dX_subject_14 gf_X_19 (by repeat (first | exact up_self | assumption | rw [up_ne (by first | assumption | (intro q0; cases q0; done) | (intro q0; simp at q0; omega))])) ?_
      refine s_v0 dX_subject_17 cv_X_91 (by repeat (first | exact up_self | assumption | rw [up_ne (by first | assumption | (intro q0; cases q0; done) | (intro q0; simp at q0; omega))])) (cs) rfl rfl rfl rfl ?_
      refine s_bipush (v := nI 20) dX_subject_20 (by decide) ?_
      refine s_icmp_lt dX_subject_22 (fun _ => ?_) (fun q => absurd (nI_lt (show N < 20 by omega) (by omega)) q)
      refine s_aload_n dX_subject_28 rfl rfl ?_
      refine s_get dX_subject_29 gf_X_19 (by repeat (first | exact up_self | assumption | rw [up_ne (by first | assumption | (intro q0; cases q0; done) | (intro q0; simp at q0; omega))])) ?_
      refine s_newF ((14, N, 0)) ([vI 0, vN]) dX_subject_32 nw_X_95 rfl (by first | rfl | assumption) n1 rfl rfl ?_
      refine s_dup dX_subject_35 rfl ?_
      refine s_iload_n dX_subject_36 rfl rfl ?_
      refine s_callI (As := [_]) dX_subject_37 ci_X_97 (c_Subj_init (k := nI j) up_self n2b) (by first | rfl | exact Nat.ble_eq_true_of_le (by omega)) (by first | rfl | exact Nat.ble_eq_true_of_le (by omega)) (by first | rfl | exact Nat.ble_eq_true_of_le (by omega)) rfl (fun v0 h2 q0 => ?_)
      obtain ⟨rfl, rfl⟩ := q0
      have fr1 : fT [14, 15] h (up (up (up h (14, N, 0) (9, 0, fl [vI 0, vN])) (15, N, 0) (20, 4, fun _ => vI 0)) (14, N, 0) (9, 0, fl [vI (nI j), vR (15, N, 0)])) := fT.rf.v.v.v
      have L1 : LsT (up (up (up h (14, N, 0) (9, 0, fl [vI 0, vN])) (15, N, 0) (20, 4, fun _ => vI 0)) (14, N, 0) (9, 0, fl [vI (nI j), vR (15, N, 0)])) (12, 0, 0) (nmL 14 N) := J.1.ag (fr1.ag (by decide))
      have oth : ∀ s, s ≠ N → ∀ t, t = 14 ∨ t = 15 → (up (up (up h (14, N, 0) (9, 0, fl [vI 0, vN])) (15, N, 0) (20, 4, fun _ => vI 0)) (14, N, 0) (9, 0, fl [vI (nI j), vR (15, N, 0)])) (t, s, 0) = h (t, s, 0) := by
        intro s q2 t q3
        rw [up_ne (fun q0 => by simp at q0; omega), up_ne (fun q0 => by simp at q0; omega), up_ne (fun q0 => by simp at q0; omega)]
      have EL1 : EL (12, 0, 0) (up (up (up h (14, N, 0) (9, 0, fl [vI 0, vN])) (15, N, 0) (20, 4, fun _ => vI 0)) (14, N, 0) (9, 0, fl [vI (nI j), vR (15, N, 0)])) (nmL 14 N) := fun x hx1 => by
        obtain ⟨s, q2, rfl⟩ := nmL_mem hx1
        exact ⟨show (14 : Nat) ≠ 12 by decide, show (14 : Nat) ≠ 13 by decide, 9, _, by unfold isE; omega, (oth s (by omega) 14 (Or.inl rfl)).trans (J.2.1 s q2).1⟩
      have OB1 : OBJ (12, 0, 0) (up (up (up h (14, N, 0) (9, 0, fl [vI 0, vN])) (15, N, 0) (20, 4, fun _ => vI 0)) (14, N, 0) (9, 0, fl [vI (nI j), vR (15, N, 0)])) (14, N, 0) := ⟨show (14 : Nat) ≠ 12 by decide, show (14 : Nat) ≠ 13 by decide, 9, _, by unfold isE; omega, up_self⟩
      have VA : up (up (up h (14, N, 0) (9, 0, fl [vI 0, vN])) (15, N, 0) (20, 4, fun _ => vI 0)) (14, N, 0) (9, 0, fl [vI (nI j), vR (15, N, 0)]) (15, N, 0) = some (20, 4, fun _ => vI 0) := by rw [up_ne (fun q0 => by cases q0), up_self]
      have SB : up (up (up h (14, N, 0) (9, 0, fl [vI 0, vN])) (15, N, 0) (20, 4, fun _ => vI 0)) (14, N, 0) (9, 0, fl [vI (nI j), vR (15, N, 0)]) (14, N, 0) = some (9, 0, fl [vI (nI j), vR (15, N, 0)]) := up_self
      have MA : up (up (up h (14, N, 0) (9, 0, fl [vI 0, vN])) (15, N, 0) (20, 4, fun _ => vI 0)) (14, N, 0) (9, 0, fl [vI (nI j), vR (15, N, 0)]) (10, 0, 0) = some (11, 0, fl (mnL a v o tb)) := (fr1 _ (by decide)).trans M1
      refine s_hp rfl ?_
      generalize up (up (up h (14, N, 0) (9, 0, fl [vI 0, vN])) (15, N, 0) (20, 4, fun _ => vI 0)) (14, N, 0) (9, 0, fl [vI (nI j), vR (15, N, 0)]) = h3 at fr1 L1 oth EL1 OB1 VA SB MA ⊢
      obtain ⟨cap3, z3, f3, e3, -⟩ := id L1
      refine s_callV (As := [_]) dX_subject_40 cv_X_100 (by repeat (first | exact up_self | assumption | rw [up_ne (by first | assumption | (intro q0; cases q0; done) | (intro q0; simp at q0; omega))])) (c_add L1 (by rw [nmL_len]; omega) EL1 OB1 rfl) (by first | rfl | exact Nat.ble_eq_true_of_le (by omega)) (by first | rfl | exact Nat.ble_eq_true_of_le (by omega)) (by first | rfl | exact Nat.ble_eq_true_of_le (by omega)) rfl (fun v0 h4 q0 => ?_)
      obtain ⟨rfl, b1, b2⟩ := q0
      refine s_pop dX_subject_43 rfl ?_
      rw [nmL_add] at b1
      have fr2 : fT [12, 13, 14, 15] h h4 := (fr1.mo (by decide)).tr (b2.t.mo (by decide))
      have MB : h4 (10, 0, 0) = some (11, 0, fl (mnL a v o tb)) := (fr2 _ (by decide)).trans M1
      obtain ⟨cap4, z4, f4, e4, -⟩ := id b1
      have cs4 := c_size b1
      rw [nmL_len] at cs4
      have k4 : ∀ t i, t = 14 ∨ t = 15 → h4 (t, i, 0) = h3 (t, i, 0) := fun t i q2 => b2 _ (fun q0 => by simp at q0; omega) (fun c q0 => by simp [eld] at q0; omega)
      refine s_aload_n dX_subject_44 rfl rfl ?_
      refine s_get dX_subject_45 gf_X_19 (by repeat (first | exact up_self | assumption | rw [up_ne (by first | assumption | (intro q0; cases q0; done) | (intro q0; simp at q0; omega))])) ?_
      refine s_v0 dX_subject_48 cv_X_91 (by repeat (first | exact up_self | assumption | rw [up_ne (by first | assumption | (intro q0; cases q0; done) | (intro q0; simp at q0; omega))])) (cs4) rfl rfl rfl rfl ?_
      refine s_iconst (v := nI 1) dX_subject_51 (by decide) ?_
      first | refine s_isubN dX_subject_52 (by omega) ?_ | refine s_isub dX_subject_52 ?_
      refine s_iret dX_subject_53 rfl (by first | exact Nat.le_refl _ | decide | omega) (by first | exact Nat.le_refl _ | decide | omega) ?_
      dsimp only
      rw [if_neg c1]
      dsimp only
      refine ⟨rfl, fr2, N + 1, by omega, by omega, ⟨b1, fun s q2 => ?_, fun s q2 => ?_⟩, (show us (us σ 3 N (nI j)) 2 0 (nI (N + 1)) 2 0 = _ from us_s), fun i q2 => (show us (us σ 3 N (nI j)) 2 0 (nI (N + 1)) 4 i = 0 by rw [us_k (by decide), us_k (by decide)]; exact hz i (by omega))⟩
      · have c4 : ∀ i, us (us σ 3 N (nI j)) 2 0 (nI (N + 1)) 4 i = σ 4 i := fun i => by rw [us_k (by decide), us_k (by decide)]
        by_cases c2 : s = N
        · subst c2
          refine ⟨?_, fun _ => vI 0, ?_, fun x q3 => ?_⟩
          · rw [k4 14 s (Or.inl rfl), SB, us_k (by decide), us_s]
          · rw [k4 15 s (Or.inr rfl), VA]
          · rw [c4, hz _ (by omega)]
        · obtain ⟨d1, fx, d2, d3⟩ := J.2.1 s (by omega)
          refine ⟨?_, fx, ?_, fun x q3 => ?_⟩
          · rw [k4 14 s (Or.inl rfl), oth s c2 14 (Or.inl rfl), us_k (by decide), us_j c2]; exact d1
          · rw [k4 15 s (Or.inr rfl), oth s c2 15 (Or.inr rfl)]; exact d2
          · rw [c4]; exact d3 x q3
      · rw [k4 14 s (Or.inl rfl), k4 15 s (Or.inr rfl), oth s (by omega) 14 (Or.inl rfl), oth s (by omega) 15 (Or.inr rfl)]
        exact J.2.2 s (by omega)
theorem c_X_value {h : Hp} {σ : Sg} {N : Nat} {a v o tb : Int32} (p x : Int32) (M1 : mnC h a v o tb) (J : sC h σ (σ 4) N) (hN : N ≤ 20) : ConF mX_value 4 [vR (10, 0, 0), vI p, vI x] h (some (vI (fValue σ p x N))) h := by
  have M0 := M1
  unfold mnC at M1
  unfold fValue
  refine c_enter (by decide +kernel) rfl rfl ?_
  rcases iy_cases p (K := N) (by omega) with ⟨q1, hz1⟩ | ⟨j, hj, rfl, q1⟩
  · rw [q1]
    refine s_aload_n dX_value_0 rfl rfl ?_
    refine s_iload_n dX_value_1 rfl rfl ?_
    refine s_v1 dX_value_2 cv_X_103 (by repeat (first | exact up_self | assumption | rw [up_ne (by first | assumption | (intro q0; cases q0; done) | (intro q0; simp at q0; omega))])) (c_subjNo M0 J hN hz1) rfl rfl rfl rfl ?_
    refine s_astore_n dX_value_5 rfl rfl ?_
    refine s_aload_n dX_value_6 rfl rfl ?_
    refine s_ifnull dX_value_7 (fun _ => ?_) (fun q => by obtain ⟨_, q⟩ := q; cases q)
    refine s_iconst (v := (-1)) dX_value_17 (by decide) ?_
    refine s_iret dX_value_18 rfl (by first | exact Nat.le_refl _ | decide | omega) (by first | exact Nat.le_refl _ | decide | omega) ?_
    exact ⟨rfl, rfl⟩
  · rw [q1]
    obtain ⟨d1, fx, d2, d3⟩ := J.2.1 j hj
    rcases iy_cases x (K := 4) (by omega) with ⟨q2, hz1⟩ | ⟨i, hi, rfl, q2⟩
    · rw [q2]
      refine s_aload_n dX_value_0 rfl rfl ?_
      refine s_iload_n dX_value_1 rfl rfl ?_
      refine s_v1 dX_value_2 cv_X_103 (by repeat (first | exact up_self | assumption | rw [up_ne (by first | assumption | (intro q0; cases q0; done) | (intro q0; simp at q0; omega))])) (c_subjAt M0 J hN hj) rfl rfl rfl rfl ?_
      refine s_astore_n dX_value_5 rfl rfl ?_
      refine s_aload_n dX_value_6 rfl rfl ?_
      refine s_ifnull dX_value_7 (fun q => by cases q) (fun _ => ?_)
      refine s_iload_n dX_value_10 rfl rfl ?_
      refine s_t1 dX_value_11 cs_X_107 (c_isSlot hz1) rfl rfl rfl rfl ?_
      refine s_if_ne dX_value_14 (fun q => absurd rfl q) (fun _ => ?_)
      refine s_iconst (v := (-1)) dX_value_17 (by decide) ?_
      refine s_iret dX_value_18 rfl (by first | exact Nat.le_refl _ | decide | omega) (by first | exact Nat.le_refl _ | decide | omega) ?_
      exact ⟨rfl, rfl⟩
    · rw [q2]
      refine s_aload_n dX_value_0 rfl rfl ?_
      refine s_iload_n dX_value_1 rfl rfl ?_
      refine s_v1 dX_value_2 cv_X_103 (by repeat (first | exact up_self | assumption | rw [up_ne (by first | assumption | (intro q0; cases q0; done) | (intro q0; simp at q0; omega))])) (c_subjAt M0 J hN hj) rfl rfl rfl rfl ?_
      refine s_astore_n dX_value_5 rfl rfl ?_
      refine s_aload_n dX_value_6 rfl rfl ?_
      refine s_ifnull dX_value_7 (fun q => by cases q) (fun _ => ?_)
      refine s_iload_n dX_value_10 rfl rfl ?_
      refine s_t1 dX_value_11 cs_X_107 (c_isSlot (Iy1 hi)) rfl rfl rfl rfl ?_
      refine s_if_ne dX_value_14 (fun _ => ?_) (fun q => absurd q (by decide))
      refine s_aload_n dX_value_19 rfl rfl ?_
      refine s_get dX_value_20 gf_X_110 (by repeat (first | exact up_self | assumption | rw [up_ne (by first | assumption | (intro q0; cases q0; done) | (intro q0; simp at q0; omega))])) ?_
      refine s_iload_n dX_value_23 rfl rfl ?_
      refine s_ialdN dX_value_24 (by repeat (first | exact up_self | assumption | rw [up_ne (by first | assumption | (intro q0; cases q0; done) | (intro q0; simp at q0; omega))])) (by omega) (by omega) ?_
      refine s_tv (d3 i hi) ?_
      refine s_iret dX_value_25 rfl (by first | exact Nat.le_refl _ | decide | omega) (by first | exact Nat.le_refl _ | decide | omega) ?_
      exact ⟨rfl, rfl⟩
theorem c_X_set {h : Hp} {σ : Sg} {N : Nat} {a v o tb : Int32} (p x w : Int32) (M1 : mnC h a v o tb) (J : sC h σ (σ 4) N) (hN : N ≤ 20) : Con mX_set 4 0 0 [vR (10, 0, 0), vI p, vI x, vI w] h (fun v h' => v = some (vI (fSet σ p x w N).1) ∧ fT [15] h h' ∧ sC h' (fSet σ p x w N).2 ((fSet σ p x w N).2 4) N) := by
  have M0 := M1
  unfold mnC at M1
  unfold fSet
  refine c_enter (by decide +kernel) rfl rfl ?_
  rcases iy_cases p (K := N) (by omega) with ⟨q1, hz1⟩ | ⟨j, hj, rfl, q1⟩
  · rw [q1]
    refine s_aload_n dX_set_0 rfl rfl ?_
    refine s_iload_n dX_set_1 rfl rfl ?_
    refine s_v1 dX_set_2 cv_X_103 (by repeat (first | exact up_self | assumption | rw [up_ne (by first | assumption | (intro q0; cases q0; done) | (intro q0; simp at q0; omega))])) (c_subjNo M0 J hN hz1) rfl rfl rfl rfl ?_
    refine s_astore dX_set_5 rfl ?_
    refine s_aload dX_set_7 rfl ?_
    refine s_ifnull dX_set_9 (fun _ => ?_) (fun q => by obtain ⟨_, q⟩ := q; cases q)
    refine s_iconst (v := (-1)) dX_set_19 (by decide) ?_
    refine s_iret dX_set_20 rfl (by first | exact Nat.le_refl _ | decide | omega) (by first | exact Nat.le_refl _ | decide | omega) ?_
    exact ⟨rfl, fT.rf, J⟩
  · rw [q1]
    obtain ⟨d1, fx, d2, d3⟩ := J.2.1 j hj
    rcases iy_cases x (K := 4) (by omega) with ⟨q2, hz1⟩ | ⟨i, hi, rfl, q2⟩
    · rw [q2]
      refine s_aload_n dX_set_0 rfl rfl ?_
      refine s_iload_n dX_set_1 rfl rfl ?_
      refine s_v1 dX_set_2 cv_X_103 (by repeat (first | exact up_self | assumption | rw [up_ne (by first | assumption | (intro q0; cases q0; done) | (intro q0; simp at q0; omega))])) (c_subjAt M0 J hN hj) rfl rfl rfl rfl ?_
      refine s_astore dX_set_5 rfl ?_
      refine s_aload dX_set_7 rfl ?_
      refine s_ifnull dX_set_9 (fun q => by cases q) (fun _ => ?_)
      refine s_iload_n dX_set_12 rfl rfl ?_
      refine s_t1 dX_set_13 cs_X_107 (c_isSlot hz1) rfl rfl rfl rfl ?_
      refine s_if_ne dX_set_16 (fun q => absurd rfl q) (fun _ => ?_)
      refine s_iconst (v := (-1)) dX_set_19 (by decide) ?_
      refine s_iret dX_set_20 rfl (by first | exact Nat.le_refl _ | decide | omega) (by first | exact Nat.le_refl _ | decide | omega) ?_
      exact ⟨rfl, fT.rf, J⟩
    · rw [q2]
      refine s_aload_n dX_set_0 rfl rfl ?_
      refine s_iload_n dX_set_1 rfl rfl ?_
      refine s_v1 dX_set_2 cv_X_103 (by repeat (first | exact up_self | assumption | rw [up_ne (by first | assumption | (intro q0; cases q0; done) | (intro q0; simp at q0; omega))])) (c_subjAt M0 J hN hj) rfl rfl rfl rfl ?_
      refine s_astore dX_set_5 rfl ?_
      refine s_aload dX_set_7 rfl ?_
      refine s_ifnull dX_set_9 (fun q => by cases q) (fun _ => ?_)
      refine s_iload_n dX_set_12 rfl rfl ?_
      refine s_t1 dX_set_13 cs_X_107 (c_isSlot (Iy1 hi)) rfl rfl rfl rfl ?_
      refine s_if_ne dX_set_16 (fun _ => ?_) (fun q => absurd q (by decide))
      refine s_aload dX_set_21 rfl ?_
      refine s_get dX_set_23 gf_X_110 (by repeat (first | exact up_self | assumption | rw [up_ne (by first | assumption | (intro q0; cases q0; done) | (intro q0; simp at q0; omega))])) ?_
      refine s_iload_n dX_set_26 rfl rfl ?_
      refine s_ialdN dX_set_27 (by repeat (first | exact up_self | assumption | rw [up_ne (by first | assumption | (intro q0; cases q0; done) | (intro q0; simp at q0; omega))])) (by omega) (by omega) ?_
      refine s_tv (d3 i hi) ?_
      refine s_istore dX_set_28 rfl ?_
      refine s_aload dX_set_30 rfl ?_
      refine s_get dX_set_32 gf_X_110 (by repeat (first | exact up_self | assumption | rw [up_ne (by first | assumption | (intro q0; cases q0; done) | (intro q0; simp at q0; omega))])) ?_
      refine s_iload_n dX_set_35 rfl rfl ?_
      refine s_iload_n dX_set_36 rfl rfl ?_
      refine s_iastN dX_set_37 (by repeat (first | exact up_self | assumption | rw [up_ne (by first | assumption | (intro q0; cases q0; done) | (intro q0; simp at q0; omega))])) (by first | rfl | assumption) (by omega) (by omega) ?_
      refine s_iload dX_set_38 rfl ?_
      refine s_iret dX_set_40 rfl (by first | exact Nat.le_refl _ | decide | omega) (by first | exact Nat.le_refl _ | decide | omega) ?_
      have fr1 : fT [15] h (up h (15, j, 0) (20, 4, upf fx i (vI w))) := fT.rf.v
      dsimp only
      refine ⟨rfl, fr1, J.1.ag (fr1.ag (by decide)), fun s q3 => ?_, fun s q3 => ?_⟩
      · obtain ⟨g1, gx, g2, g3⟩ := J.2.1 s q3
        by_cases c1 : s = j
        · subst c1
          refine ⟨(fr1 _ (show (14 : Nat) ∉ [15] by decide)).trans g1, upf fx i (vI w), up_self, fun y q4 => ?_⟩
          show upf fx i (vI w) y = vI (us σ 4 (4 * s + i) w 4 (4 * s + y))
          unfold upf
          by_cases c2 : y = i
          · subst c2; rw [if_pos rfl, us_s]
          · rw [if_neg c2, us_j (by omega)]; exact d3 y q4
        · refine ⟨(fr1 _ (show (14 : Nat) ∉ [15] by decide)).trans g1, gx, by rw [up_ne (fun q0 => by simp at q0; omega)]; exact g2, fun y q4 => ?_⟩
          show gx y = vI (us σ 4 (4 * j + i) w 4 (4 * s + y))
          rw [us_j (by omega)]; exact g3 y q4
      · rw [fr1 _ (show (14 : Nat) ∉ [15] by decide), up_ne (fun q0 => by simp at q0; omega)]
        exact J.2.2 s q3
