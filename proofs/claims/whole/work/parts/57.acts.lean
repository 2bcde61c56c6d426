/-! actions, activities -/
section CA
variable {M : MD} {lvl mc ms : Nat} {Q : Option PV → Hp → Prop} {pc pc' tgt : Nat} {lv : List (Option PV)} {st : List PV} {h : Hp} {k n : Nat}
theorem s_aastAN {len ln j : Nat} {f fv : Nat → PV} {nm vn : Nm} (d : Dc M pc .aastore 1 pc') (hc : h nm = some (23, len, f)) (h3 : Nat.ble 2 nm.1 = true) (hv : h vn = some (20, ln, fv)) (hj : j < len) (hb : len ≤ 1000) (kk : S M lvl mc ms Q pc' lv st (up h nm (23, len, upf f j (vR vn))) k n) : S M lvl mc ms Q pc lv (vR vn :: vI (nI j) :: vR nm :: st) h k n := by
  refine s_aastA d hc h3 hv (vp_in_nI hj (by omega)) ?_
  rw [nI_clamp (by omega)]
  exact kk
end CA
theorem c_isBN {h : Hp} {σ : Sg} {B : Nat} {own od rw0 : Nat → List Nat} {a v o tb : Int32} (p : Int32) (M1 : mnC h a v o tb) (Ib : bC h σ B own od rw0) (hB : B ≤ 12) : ConF mX_isBookOrNone 4 [vR (10, 0, 0), vI p] h (some (vI (zi (bN p B)))) h := by
  have M0 := M1
  unfold mnC at M1
  refine c_enter (by decide +kernel) rfl rfl ?_
  by_cases c1 : p = -4
  · have e1 : bN p B = true := by simp [bN, c1]
    rw [e1]
    refine s_iload_n dX_isBookOrNone_0 rfl rfl ?_
    refine s_bipush (v := (-4)) dX_isBookOrNone_1 (by decide) ?_
    refine s_icmp_eq dX_isBookOrNone_3 (fun _ => ?_) (fun q => absurd c1 q)
    refine s_iconst (v := 1) dX_isBookOrNone_14 (by decide) ?_
    refine s_goto dX_isBookOrNone_15 ?_
    refine s_zret dX_isBookOrNone_19 rfl (by first | exact Or.inl rfl | exact Or.inr rfl | assumption) (by first | exact Nat.le_refl _ | decide | omega) (by first | exact Nat.le_refl _ | decide | omega) ?_
    exact ⟨rfl, rfl⟩
  · rcases iy_cases p (K := B) (by omega) with ⟨q1, hz⟩ | ⟨j, hj, rfl, q1⟩
    · have e1 : bN p B = false := by simp [bN, c1, q1]
      rw [e1]
      refine s_iload_n dX_isBookOrNone_0 rfl rfl ?_
      refine s_bipush (v := (-4)) dX_isBookOrNone_1 (by decide) ?_
      refine s_icmp_eq dX_isBookOrNone_3 (fun q => absurd q c1) (fun _ => ?_)
      refine s_aload_n dX_isBookOrNone_6 rfl rfl ?_
      refine s_iload_n dX_isBookOrNone_7 rfl rfl ?_
      refine s_v1 dX_isBookOrNone_8 cv_X_116 (by repeat (first | exact up_self | assumption | rw [up_ne (by first | assumption | (intro q0; cases q0; done) | (intro q0; simp at q0; omega))])) (c_bookNo M0 Ib hB hz) (by first | rfl | exact Nat.ble_eq_true_of_le (by omega)) (by first | rfl | exact Nat.ble_eq_true_of_le (by omega)) (by first | rfl | exact Nat.ble_eq_true_of_le (by omega)) rfl ?_
      refine s_ifnull dX_isBookOrNone_11 (fun _ => ?_) (fun q => by obtain ⟨_, q⟩ := q; cases q)
      refine s_iconst (v := 0) dX_isBookOrNone_18 (by decide) ?_
      refine s_zret dX_isBookOrNone_19 rfl (by first | exact Or.inl rfl | exact Or.inr rfl | assumption) (by first | exact Nat.le_refl _ | decide | omega) (by first | exact Nat.le_refl _ | decide | omega) ?_
      exact ⟨rfl, rfl⟩
    · have e1 : bN (nI j) B = true := by simp [bN, q1]
      rw [e1]
      refine s_iload_n dX_isBookOrNone_0 rfl rfl ?_
      refine s_bipush (v := (-4)) dX_isBookOrNone_1 (by decide) ?_
      refine s_icmp_eq dX_isBookOrNone_3 (fun q => absurd q c1) (fun _ => ?_)
      refine s_aload_n dX_isBookOrNone_6 rfl rfl ?_
      refine s_iload_n dX_isBookOrNone_7 rfl rfl ?_
      refine s_v1 dX_isBookOrNone_8 cv_X_116 (by repeat (first | exact up_self | assumption | rw [up_ne (by first | assumption | (intro q0; cases q0; done) | (intro q0; simp at q0; omega))])) (c_bookAt M0 Ib hB hj) (by first | rfl | exact Nat.ble_eq_true_of_le (by omega)) (by first | rfl | exact Nat.ble_eq_true_of_le (by omega)) (by first | rfl | exact Nat.ble_eq_true_of_le (by omega)) rfl ?_
      refine s_ifnull dX_isBookOrNone_11 (fun q => by cases q) (fun _ => ?_)
      refine s_iconst (v := 1) dX_isBookOrNone_14 (by decide) ?_
      refine s_goto dX_isBookOrNone_15 ?_
      refine s_zret dX_isBookOrNone_19 rfl (by first | exact Or.inl rfl | exact Or.inr rfl | assumption) (by first | exact Nat.le_refl _ | decide | omega) (by first | exact Nat.le_refl _ | decide | omega) ?_
      exact ⟨rfl, rfl⟩
theorem c_X_everyTurn {h : Hp} {σ : Sg} {B : Nat} {own od rw0 : Nat → List Nat} {a v o tb : Int32} (p : Int32) (M1 : mnC h a v o tb) (Ib : bC h σ B own od rw0) (hB : B ≤ 12) (h46 : σ 46 0 = tb) : Con mX_everyTurn 5 0 0 [vR (10, 0, 0), vI p] h (fun r h' => r = some (vI (fEvery σ p B).1) ∧ fT [10] h h' ∧ mnC h' a v o ((fEvery σ p B).2 46 0)) := by
  have M0 := M1
  unfold mnC at M1
  have cb := c_isBN p M0 Ib hB
  unfold fEvery
  refine c_enter (by decide +kernel) rfl rfl ?_
  cases e1 : bN p B with
  | true =>
    rw [e1] at cb
    rw [if_pos rfl]
    refine s_aload_n dX_everyTurn_0 rfl rfl ?_
    refine s_iload_n dX_everyTurn_1 rfl rfl ?_
    refine s_v1 dX_everyTurn_2 cv_X_256 (by repeat (first | exact up_self | assumption | rw [up_ne (by first | assumption | (intro q0; cases q0; done) | (intro q0; simp at q0; omega))])) (cb) (by first | rfl | exact Nat.ble_eq_true_of_le (by omega)) (by first | rfl | exact Nat.ble_eq_true_of_le (by omega)) (by first | rfl | exact Nat.ble_eq_true_of_le (by omega)) rfl ?_
    refine s_if_ne dX_everyTurn_5 (fun _ => ?_) (fun q => absurd q (by decide))
    refine s_aload_n dX_everyTurn_10 rfl rfl ?_
    refine s_iload_n dX_everyTurn_11 rfl rfl ?_
    refine s_putF dX_everyTurn_12 gf_X_53 (by repeat (first | exact up_self | assumption | rw [up_ne (by first | assumption | (intro q0; cases q0; done) | (intro q0; simp at q0; omega))])) (by first | rfl | assumption) rfl (by first | exact Or.inl rfl | exact Or.inr ⟨rfl, rfl⟩) (by first | exact ⟨_, rfl⟩ | exact Or.inl rfl | exact Or.inr rfl | assumption) ?_
    refine s_iconst (v := 0) dX_everyTurn_15 (by decide) ?_
    refine s_iret dX_everyTurn_16 rfl (by first | exact Nat.le_refl _ | decide | omega) (by first | exact Nat.le_refl _ | decide | omega) ?_
    refine ⟨rfl, fT.rf.v, ?_⟩
    unfold mnC
    dsimp only
    rw [up_self, us_s]
    rfl
  | false =>
    rw [e1] at cb
    rw [if_neg (by decide)]
    refine s_aload_n dX_everyTurn_0 rfl rfl ?_
    refine s_iload_n dX_everyTurn_1 rfl rfl ?_
    refine s_v1 dX_everyTurn_2 cv_X_256 (by repeat (first | exact up_self | assumption | rw [up_ne (by first | assumption | (intro q0; cases q0; done) | (intro q0; simp at q0; omega))])) (cb) (by first | rfl | exact Nat.ble_eq_true_of_le (by omega)) (by first | rfl | exact Nat.ble_eq_true_of_le (by omega)) (by first | rfl | exact Nat.ble_eq_true_of_le (by omega)) rfl ?_
    refine s_if_ne dX_everyTurn_5 (fun q => absurd rfl q) (fun _ => ?_)
    refine s_iconst (v := (-1)) dX_everyTurn_8 (by decide) ?_
    refine s_iret dX_everyTurn_9 rfl (by first | exact Nat.le_refl _ | decide | omega) (by first | exact Nat.le_refl _ | decide | omega) ?_
    refine ⟨rfl, fT.rf, ?_⟩
    dsimp only
    rw [h46]
    exact M0
def ball (x : Nat → Int32) (B : Nat) : Nat → Bool
  | 0 => true
  | k + 1 => ball x B k && bN (x k) B
theorem ball_f {x : Nat → Int32} {B k : Nat} (h1 : bN (x k) B = false) : ∀ m, k < m → ball x B m = false := by
  intro m
  induction m with
  | zero => intro z1; omega
  | succ m ih1 =>
    intro z1
    by_cases c1 : k = m
    · subst c1; simp [ball, h1]
    · simp [ball, ih1 (by omega)]
theorem l_areBN {h : Hp} {σ : Sg} {B m : Nat} {own od rw0 : Nat → List Nat} {a v o tb : Int32} {nm : Nm} {f : Nat → PV} {x : Nat → Int32} {Q : Option PV → Hp → Prop} (M1 : mnC h a v o tb) (Ib : bC h σ B own od rw0) (hB : B ≤ 12) (en : h nm = some (20, m, f)) (hm : m ≤ 6) (hf : ∀ k, k < m → f k = vI (x k)) (hq : Q (some (vI (zi (ball x B m)))) h) :
    ∀ (n k : Nat), k + n = m → ball x B k = true → S mX_areBooksOrNone 5 0 0 Q 2 [some (vR (10, 0, 0)), some (vR nm), some (vI (nI k))] [] h 0 0 := by
  have M0 := M1
  unfold mnC at M1
  intro n
  induction n with
  | zero =>
    intro k hk1 ht1
    have ek : k = m := by omega
    subst ek
    refine s_iload_n dX_areBooksOrNone_2 rfl rfl ?_
    refine s_aload_n dX_areBooksOrNone_3 rfl rfl ?_
    refine s_alen dX_areBooksOrNone_4 (by repeat (first | exact up_self | assumption | rw [up_ne (by first | assumption | (intro q0; cases q0; done) | (intro q0; simp at q0; omega))])) rfl (by first | exact Or.inl rfl | exact Or.inr (Or.inl rfl)) ?_
    refine s_icmp_ge dX_areBooksOrNone_5 (fun _ => ?_) (fun q => absurd (nI_le (Nat.le_refl _) (by omega)) q)
    refine s_iconst (v := 1) dX_areBooksOrNone_26 (by decide) ?_
    refine s_zret dX_areBooksOrNone_27 rfl (by first | exact Or.inl rfl | exact Or.inr rfl | assumption) (by first | exact Nat.le_refl _ | decide | omega) (by first | exact Nat.le_refl _ | decide | omega) ?_
    rw [ht1] at hq
    exact hq
  | succ n ih1 =>
    intro k hk1 ht1
    have hkm : k < m := by omega
    have cb := c_isBN (x k) M0 Ib hB
    cases e1 : bN (x k) B with
    | true =>
      rw [e1] at cb
      refine s_iload_n dX_areBooksOrNone_2 rfl rfl ?_
      refine s_aload_n dX_areBooksOrNone_3 rfl rfl ?_
      refine s_alen dX_areBooksOrNone_4 (by repeat (first | exact up_self | assumption | rw [up_ne (by first | assumption | (intro q0; cases q0; done) | (intro q0; simp at q0; omega))])) rfl (by first | exact Or.inl rfl | exact Or.inr (Or.inl rfl)) ?_
      refine s_icmp_ge dX_areBooksOrNone_5 (fun q => absurd q (nI_ge hkm (by omega))) (fun _ => ?_)
      refine s_aload_n dX_areBooksOrNone_8 rfl rfl ?_
      refine s_aload_n dX_areBooksOrNone_9 rfl rfl ?_
      refine s_iload_n dX_areBooksOrNone_10 rfl rfl ?_
      refine s_ialdN dX_areBooksOrNone_11 (by repeat (first | exact up_self | assumption | rw [up_ne (by first | assumption | (intro q0; cases q0; done) | (intro q0; simp at q0; omega))])) (by omega) (by omega) ?_
      refine s_tv (hf k hkm) ?_
      refine s_v1 dX_areBooksOrNone_12 cv_X_256 (by repeat (first | exact up_self | assumption | rw [up_ne (by first | assumption | (intro q0; cases q0; done) | (intro q0; simp at q0; omega))])) (cb) (by first | rfl | exact Nat.ble_eq_true_of_le (by omega)) (by first | rfl | exact Nat.ble_eq_true_of_le (by omega)) (by first | rfl | exact Nat.ble_eq_true_of_le (by omega)) rfl ?_
      refine s_if_ne dX_areBooksOrNone_15 (fun _ => ?_) (fun q => absurd q (by decide))
      first | refine s_iincN dX_areBooksOrNone_20 rfl rfl ?_ | refine s_iinc dX_areBooksOrNone_20 rfl rfl ?_
      refine s_goto dX_areBooksOrNone_23 ?_
      exact ih1 (k + 1) (by omega) (by simp [ball, ht1, e1])
    | false =>
      rw [e1] at cb
      refine s_iload_n dX_areBooksOrNone_2 rfl rfl ?_
      refine s_aload_n dX_areBooksOrNone_3 rfl rfl ?_
      refine s_alen dX_areBooksOrNone_4 (by repeat (first | exact up_self | assumption | rw [up_ne (by first | assumption | (intro q0; cases q0; done) | (intro q0; simp at q0; omega))])) rfl (by first | exact Or.inl rfl | exact Or.inr (Or.inl rfl)) ?_
      refine s_icmp_ge dX_areBooksOrNone_5 (fun q => absurd q (nI_ge hkm (by omega))) (fun _ => ?_)
      refine s_aload_n dX_areBooksOrNone_8 rfl rfl ?_
      refine s_aload_n dX_areBooksOrNone_9 rfl rfl ?_
      refine s_iload_n dX_areBooksOrNone_10 rfl rfl ?_
      refine s_ialdN dX_areBooksOrNone_11 (by repeat (first | exact up_self | assumption | rw [up_ne (by first | assumption | (intro q0; cases q0; done) | (intro q0; simp at q0; omega))])) (by omega) (by omega) ?_
      refine s_tv (hf k hkm) ?_
      refine s_v1 dX_areBooksOrNone_12 cv_X_256 (by repeat (first | exact up_self | assumption | rw [up_ne (by first | assumption | (intro q0; cases q0; done) | (intro q0; simp at q0; omega))])) (cb) (by first | rfl | exact Nat.ble_eq_true_of_le (by omega)) (by first | rfl | exact Nat.ble_eq_true_of_le (by omega)) (by first | rfl | exact Nat.ble_eq_true_of_le (by omega)) rfl ?_
      refine s_if_ne dX_areBooksOrNone_15 (fun q => absurd rfl q) (fun _ => ?_)
      refine s_iconst (v := 0) dX_areBooksOrNone_18 (by decide) ?_
      refine s_zret dX_areBooksOrNone_19 rfl (by first | exact Or.inl rfl | exact Or.inr rfl | assumption) (by first | exact Nat.le_refl _ | decide | omega) (by first | exact Nat.le_refl _ | decide | omega) ?_
      rw [ball_f e1 m hkm] at hq
      exact hq
theorem c_areBN {h : Hp} {σ : Sg} {B m : Nat} {own od rw0 : Nat → List Nat} {a v o tb : Int32} {nm : Nm} {f : Nat → PV} {x : Nat → Int32} (M1 : mnC h a v o tb) (Ib : bC h σ B own od rw0) (hB : B ≤ 12) (en : h nm = some (20, m, f)) (hm : m ≤ 6) (hf : ∀ k, k < m → f k = vI (x k)) : ConF mX_areBooksOrNone 5 [vR (10, 0, 0), vR nm] h (some (vI (zi (ball x B m)))) h := by
  refine c_enter (by decide +kernel) rfl rfl ?_
  refine s_iconst (v := 0) dX_areBooksOrNone_0 (by decide) ?_
  refine s_istore_n dX_areBooksOrNone_1 rfl rfl ?_
  exact l_areBN M1 Ib hB en hm hf ⟨rfl, rfl⟩ m 0 (by omega) rfl
def l6 (a b c d e f : Int32) : Nat → Int32 := fun k => match k with
  | 0 => a
  | 1 => b
  | 2 => c
  | 3 => d
  | 4 => e
  | _ => f
theorem l6_6 {a b c d e f : Int32} {B : Nat} : ball (l6 a b c d e f) B 6 = (bN a B && bN b B && bN c B && bN d B && bN e B && bN f B) := by
  simp [ball, l6]
theorem l6_3 {a b c d e f : Int32} {B : Nat} : ball (l6 a b c d e f) B 3 = (bN a B && bN b B && bN c B) := by
  simp [ball, l6]
def r6 (a b c d e f : Int32) : Nat → PV := upf (upf (upf (upf (upf (upf (fun _ => vI 0) 0 (vI a)) 1 (vI b)) 2 (vI c)) 3 (vI d)) 4 (vI e)) 5 (vI f)
def r3 (a b c : Int32) : Nat → PV := upf (upf (upf (fun _ => vI 0) 0 (vI a)) 1 (vI b)) 2 (vI c)
theorem r6_l {a b c d e f : Int32} {k : Nat} (hk : k < 6) : r6 a b c d e f k = vI (l6 a b c d e f k) := by
  rcases (show k = 0 ∨ k = 1 ∨ k = 2 ∨ k = 3 ∨ k = 4 ∨ k = 5 by omega) with rfl | rfl | rfl | rfl | rfl | rfl <;> rfl
theorem r3_l {a b c d e f : Int32} {k : Nat} (hk : k < 3) : r3 a b c k = vI (l6 a b c d e f k) := by
  rcases (show k = 0 ∨ k = 1 ∨ k = 2 by omega) with rfl | rfl | rfl <;> rfl
theorem c_X_action {h : Hp} {σ : Sg} {B A : Nat} {own od rw0 : Nat → List Nat} {v o tb : Int32} (a b c d e f : Int32) (M1 : mnC h (nI A) v o tb) (Ib : bC h σ B own od rw0) (hB : B ≤ 12) (IA : aC h σ A) (hA : A ≤ 8) (h33 : σ 33 0 = nI A) :
    Con mX_action 6 1 6 [vR (10, 0, 0), vI a, vI b, vI c, vI d, vI e, vI f] h (fun r h' => r = some (vI (fAction σ a b c d e f B A).1) ∧ fT [10, 32, 33] h h' ∧ ∃ A', A' ≤ 8 ∧ aC h' (fAction σ a b c d e f B A).2 A' ∧ mnC h' (nI A') v o tb ∧ (fAction σ a b c d e f B A).2 33 0 = nI A') := by
  obtain ⟨fa, cc, a1, a2, a0, a3⟩ := IA
  have n1 := a2 cc (Nat.le_refl _)
  unfold fAction
  refine c_enter (by decide +kernel) rfl rfl ?_
  refine s_wd (fun _ => ?_)
  refine s_bipush (v := nI 6) dX_action_0 (by decide) ?_
  refine s_newa (33, cc, 0) _ dX_action_2 rfl ⟨Or.inl rfl, ac20⟩ rfl rfl n1 rfl rfl ?_
  refine s_dup dX_action_4 rfl ?_
  refine s_iconst (v := 0) dX_action_5 (by decide) ?_
  refine s_tv (show vI 0 = vI (nI 0) from rfl) ?_
  refine s_iload_n dX_action_6 rfl rfl ?_
  refine s_iastN dX_action_7 (by repeat (first | exact up_self | assumption | rw [up_ne (by first | assumption | (intro q0; cases q0; done) | (intro q0; simp at q0; omega))])) (by first | rfl | assumption) (by omega) (by omega) ?_
  refine s_dup dX_action_8 rfl ?_
  refine s_iconst (v := 1) dX_action_9 (by decide) ?_
  refine s_tv (show vI 1 = vI (nI 1) from rfl) ?_
  refine s_iload_n dX_action_10 rfl rfl ?_
  refine s_iastN dX_action_11 (by repeat (first | exact up_self | assumption | rw [up_ne (by first | assumption | (intro q0; cases q0; done) | (intro q0; simp at q0; omega))])) (by first | rfl | assumption) (by omega) (by omega) ?_
  refine s_dup dX_action_12 rfl ?_
  refine s_iconst (v := nI 2) dX_action_13 (by decide) ?_
  refine s_iload_n dX_action_14 rfl rfl ?_
  refine s_iastN dX_action_15 (by repeat (first | exact up_self | assumption | rw [up_ne (by first | assumption | (intro q0; cases q0; done) | (intro q0; simp at q0; omega))])) (by first | rfl | assumption) (by omega) (by omega) ?_
  refine s_dup dX_action_16 rfl ?_
  refine s_iconst (v := nI 3) dX_action_17 (by decide) ?_
  refine s_iload dX_action_18 rfl ?_
  refine s_iastN dX_action_20 (by repeat (first | exact up_self | assumption | rw [up_ne (by first | assumption | (intro q0; cases q0; done) | (intro q0; simp at q0; omega))])) (by first | rfl | assumption) (by omega) (by omega) ?_
  refine s_dup dX_action_21 rfl ?_
  refine s_iconst (v := nI 4) dX_action_22 (by decide) ?_
  refine s_iload dX_action_23 rfl ?_
  refine s_iastN dX_action_25 (by repeat (first | exact up_self | assumption | rw [up_ne (by first | assumption | (intro q0; cases q0; done) | (intro q0; simp at q0; omega))])) (by first | rfl | assumption) (by omega) (by omega) ?_
  refine s_dup dX_action_26 rfl ?_
  refine s_iconst (v := nI 5) dX_action_27 (by decide) ?_
  refine s_iload dX_action_28 rfl ?_
  refine s_iastN dX_action_30 (by repeat (first | exact up_self | assumption | rw [up_ne (by first | assumption | (intro q0; cases q0; done) | (intro q0; simp at q0; omega))])) (by first | rfl | assumption) (by omega) (by omega) ?_
  refine s_astore dX_action_31 rfl ?_
  simp only [up_up]
  refine s_hp (h' := up h (33, cc, 0) (20, 6, r6 a b c d e f)) rfl ?_
  have G1 : up h (33, cc, 0) (20, 6, r6 a b c d e f) (33, cc, 0) = some (20, 6, r6 a b c d e f) := up_self
  have G2 : ∀ t r c0, t ≠ 33 ∨ r ≠ cc ∨ c0 ≠ 0 → up h (33, cc, 0) (20, 6, r6 a b c d e f) (t, r, c0) = h (t, r, c0) := fun t r c0 q1 => up_ne (fun q0 => by simp at q0; omega)
  have F1 : fT [10, 32, 33] h (up h (33, cc, 0) (20, 6, r6 a b c d e f)) := fT.rf.v
  generalize up h (33, cc, 0) (20, 6, r6 a b c d e f) = h2 at G1 G2 F1 ⊢
  have M2 : mnC h2 (nI A) v o tb := (G2 _ _ _ (by omega)).trans M1
  have Ib2 : bC h2 σ B own od rw0 := Ib.fr (F1.ag (by decide)) (fun _ => rfl) (fun _ => rfl)
  have cb := c_areBN (x := l6 a b c d e f) M2 Ib2 hB G1 (by omega) (fun k hk1 => r6_l hk1)
  rw [l6_6] at cb
  have e32 : h2 (32, 0, 0) = some (23, 8, fa) := (G2 _ _ _ (by omega)).trans a1
  have a4 : ∀ a0, a0 < 8 → fa a0 = vR (33, a0, 0) ∧ ∃ g, h2 (33, a0, 0) = some (20, 6, g) ∧ (a0 < A → ∀ k, k < 6 → g k = vI (σ 34 (6 * a0 + k))) := fun a0 q2 => by
    obtain ⟨b1, g, b2, b3⟩ := a3 a0 q2
    exact ⟨b1, g, (G2 _ _ _ (by omega)).trans b2, b3⟩
  have stay : aC h2 σ A := ⟨fa, cc + 1, e32, fun i q1 => (G2 _ _ _ (by omega)).trans (a2 i (by omega)), by omega, a4⟩
  cases eb : (bN a B && bN b B && bN c B && bN d B && bN e B && bN f B) with
  | false =>
    rw [eb] at cb
    unfold mnC at M2
    refine s_aload_n dX_action_33 rfl rfl ?_
    refine s_aload dX_action_34 rfl ?_
    refine s_v1 dX_action_36 cv_X_215 (by repeat (first | exact up_self | assumption | rw [up_ne (by first | assumption | (intro q0; cases q0; done) | (intro q0; simp at q0; omega))])) (cb) (by first | rfl | exact Nat.ble_eq_true_of_le (by omega)) (by first | rfl | exact Nat.ble_eq_true_of_le (by omega)) (by first | rfl | exact Nat.ble_eq_true_of_le (by omega)) rfl ?_
    refine s_if_ne dX_action_39 (fun q => absurd rfl q) (fun _ => ?_)
    refine s_iconst (v := (-1)) dX_action_42 (by decide) ?_
    refine s_iret dX_action_43 rfl (by first | exact Nat.le_refl _ | decide | omega) (by first | exact Nat.le_refl _ | decide | omega) ?_
    exact ⟨rfl, F1, A, hA, stay, M2, h33⟩
  | true =>
    rw [eb] at cb
    rw [if_pos rfl]
    have M3 := M2
    unfold mnC at M2
    by_cases c8 : A = 8
    · rw [if_pos c8]
      refine s_aload_n dX_action_33 rfl rfl ?_
      refine s_aload dX_action_34 rfl ?_
      refine s_v1 dX_action_36 cv_X_215 (by repeat (first | exact up_self | assumption | rw [up_ne (by first | assumption | (intro q0; cases q0; done) | (intro q0; simp at q0; omega))])) (cb) (by first | rfl | exact Nat.ble_eq_true_of_le (by omega)) (by first | rfl | exact Nat.ble_eq_true_of_le (by omega)) (by first | rfl | exact Nat.ble_eq_true_of_le (by omega)) rfl ?_
      refine s_if_ne dX_action_39 (fun _ => ?_) (fun q => absurd q (by decide))
      refine s_aload_n dX_action_44 rfl rfl ?_
      refine s_get dX_action_45 gf_X_219 (by repeat (first | exact up_self | assumption | rw [up_ne (by first | assumption | (intro q0; cases q0; done) | (intro q0; simp at q0; omega))])) ?_
      refine s_bipush (v := nI 8) dX_action_48 (by decide) ?_
      refine s_icmp_lt dX_action_50 (fun q => absurd q (nI_nlt (by omega) (by omega))) (fun _ => ?_)
      refine s_bipush (v := (-3)) dX_action_53 (by decide) ?_
      refine s_iret dX_action_55 rfl (by first | exact Nat.le_refl _ | decide | omega) (by first | exact Nat.le_refl _ | decide | omega) ?_
      exact ⟨rfl, F1, A, hA, stay, M3, h33⟩
    · rw [if_neg c8]
      dsimp only
      obtain ⟨bA, gA, eA, -⟩ := a4 A (by omega)
      refine s_aload_n dX_action_33 rfl rfl ?_
      refine s_aload dX_action_34 rfl ?_
      refine s_v1 dX_action_36 cv_X_215 (by repeat (first | exact up_self | assumption | rw [up_ne (by first | assumption | (intro q0; cases q0; done) | (intro q0; simp at q0; omega))])) (cb) (by first | rfl | exact Nat.ble_eq_true_of_le (by omega)) (by first | rfl | exact Nat.ble_eq_true_of_le (by omega)) (by first | rfl | exact Nat.ble_eq_true_of_le (by omega)) rfl ?_
      refine s_if_ne dX_action_39 (fun _ => ?_) (fun q => absurd q (by decide))
      refine s_aload_n dX_action_44 rfl rfl ?_
      refine s_get dX_action_45 gf_X_219 (by repeat (first | exact up_self | assumption | rw [up_ne (by first | assumption | (intro q0; cases q0; done) | (intro q0; simp at q0; omega))])) ?_
      refine s_bipush (v := nI 8) dX_action_48 (by decide) ?_
      refine s_icmp_lt dX_action_50 (fun _ => ?_) (fun q => absurd (nI_lt (show A < 8 by omega) (by omega)) q)
      refine s_aload dX_action_56 rfl ?_
      refine s_iconst (v := 0) dX_action_58 (by decide) ?_
      refine s_aload_n dX_action_59 rfl rfl ?_
      refine s_get dX_action_60 gf_X_31 (by repeat (first | exact up_self | assumption | rw [up_ne (by first | assumption | (intro q0; cases q0; done) | (intro q0; simp at q0; omega))])) ?_
      refine s_aload_n dX_action_63 rfl rfl ?_
      refine s_get dX_action_64 gf_X_219 (by repeat (first | exact up_self | assumption | rw [up_ne (by first | assumption | (intro q0; cases q0; done) | (intro q0; simp at q0; omega))])) ?_
      refine s_aaldN dX_action_67 (by repeat (first | exact up_self | assumption | rw [up_ne (by first | assumption | (intro q0; cases q0; done) | (intro q0; simp at q0; omega))])) rfl rfl (by omega) (by omega) ?_
      refine s_tv bA ?_
      refine s_iconst (v := 0) dX_action_68 (by decide) ?_
      refine s_bipush (v := nI 6) dX_action_69 (by decide) ?_
      have k0 : (0 : Int32).toNatClampNeg = 0 := by decide
      have k6 : (nI 6).toNatClampNeg = 6 := by decide
      refine s_copy0 dX_action_71 cy_X_222 G1 eA (Or.inl rfl) rfl (by decide) (by decide) (by decide) (by decide) (by decide) (fun i q1 => ⟨fun _ => ⟨l6 a b c d e f i, ?_⟩, fun z1 => absurd z1 (by decide)⟩) rfl rfl ?_
      · rw [k0, Nat.zero_add]
        exact r6_l (by omega)
      rw [k0, k6]
      refine s_aload_n dX_action_74 rfl rfl ?_
      refine s_dup dX_action_75 rfl ?_
      refine s_get dX_action_76 gf_X_219 (by repeat (first | exact up_self | assumption | rw [up_ne (by first | assumption | (intro q0; cases q0; done) | (intro q0; simp at q0; omega))])) ?_
      refine s_iconst (v := nI 1) dX_action_79 (by decide) ?_
      first | refine s_iaddN dX_action_80 ?_ | refine s_iadd dX_action_80 ?_
      refine s_putF dX_action_81 gf_X_219 (by repeat (first | exact up_self | assumption | rw [up_ne (by first | assumption | (intro q0; cases q0; done) | (intro q0; simp at q0; omega))])) (by first | rfl | assumption) rfl (by first | exact Or.inl rfl | exact Or.inr ⟨rfl, rfl⟩) (by first | exact ⟨_, rfl⟩ | exact Or.inl rfl | exact Or.inr rfl | assumption) ?_
      refine s_aload_n dX_action_84 rfl rfl ?_
      refine s_get dX_action_85 gf_X_219 (by repeat (first | exact up_self | assumption | rw [up_ne (by first | assumption | (intro q0; cases q0; done) | (intro q0; simp at q0; omega))])) ?_
      refine s_iconst (v := nI 1) dX_action_88 (by decide) ?_
      first | refine s_isubN dX_action_89 (by omega) ?_ | refine s_isub dX_action_89 ?_
      refine s_iret dX_action_90 rfl (by first | exact Nat.le_refl _ | decide | omega) (by first | exact Nat.le_refl _ | decide | omega) ?_
      generalize hτ : us (us (us (us (us (us (us σ 34 (6 * A) a) 34 (6 * A + 1) b) 34 (6 * A + 2) c) 34 (6 * A + 3) d) 34 (6 * A + 4) e) 34 (6 * A + 5) f) 33 0 (nI (A + 1)) = τ
      have τo : ∀ i, i < 6 * A → τ 34 i = σ 34 i := fun i q1 => by rw [← hτ, us_k (by decide), us_j (by omega), us_j (by omega), us_j (by omega), us_j (by omega), us_j (by omega), us_j (by omega)]
      have τn : ∀ k, k < 6 → τ 34 (6 * A + k) = l6 a b c d e f k := fun k q1 => by
        rw [← hτ, us_k (by decide)]
        rcases (show k = 0 ∨ k = 1 ∨ k = 2 ∨ k = 3 ∨ k = 4 ∨ k = 5 by omega) with rfl | rfl | rfl | rfl | rfl | rfl
        · rw [us_j (by omega), us_j (by omega), us_j (by omega), us_j (by omega), us_j (by omega)]; exact us_s
        · rw [us_j (by omega), us_j (by omega), us_j (by omega), us_j (by omega)]; exact us_s
        · rw [us_j (by omega), us_j (by omega), us_j (by omega)]; exact us_s
        · rw [us_j (by omega), us_j (by omega)]; exact us_s
        · rw [us_j (by omega)]; exact us_s
        · exact us_s
      refine ⟨rfl, (F1.v).v, A + 1, by omega, ⟨fa, cc + 1, ?_, fun i q1 => ?_, by omega, fun a0 q1 => ⟨(a4 a0 q1).1, ?_⟩⟩, ?_, by rw [← hτ, us_s]⟩
      · rw [up_ne (fun q0 => by cases q0), up_ne (fun q0 => by cases q0)]
        exact e32
      · rw [up_ne (fun q0 => by cases q0), up_ne (fun q0 => by simp at q0; omega), G2 _ _ _ (by omega)]
        exact a2 i (by omega)
      · by_cases c1 : a0 = A
        · subst c1
          refine ⟨cpy (r6 a b c d e f) gA 0 0 6, ?_, fun _ k q2 => ?_⟩
          · rw [up_ne (fun q0 => by cases q0)]; exact up_self
          · rw [τn k q2]
            unfold cpy
            rw [if_pos ⟨Nat.zero_le _, by omega⟩, show 0 + (k - 0) = k by omega]
            exact r6_l q2
        · obtain ⟨-, g0, b3, b4⟩ := a4 a0 q1
          refine ⟨g0, ?_, fun q3 k q2 => ?_⟩
          · rw [up_ne (fun q0 => by cases q0), up_ne (fun q0 => by simp at q0; omega)]; exact b3
          · rw [τo _ (by omega)]; exact b4 (by omega) k q2
      · unfold mnC
        rw [up_self]
        rfl
theorem c_X_activity {h : Hp} {σ : Sg} {B A : Nat} {own od rw0 : Nat → List Nat} {aa o tb : Int32} (a b c : Int32) (M1 : mnC h aa (nI A) o tb) (Ib : bC h σ B own od rw0) (hB : B ≤ 12) (IA : vC h σ A) (hA : A ≤ 6) (h35 : σ 35 0 = nI A) :
    Con mX_activity 6 1 3 [vR (10, 0, 0), vI a, vI b, vI c] h (fun r h' => r = some (vI (fActivity σ a b c B A).1) ∧ fT [10, 35, 36] h h' ∧ ∃ A', A' ≤ 6 ∧ vC h' (fActivity σ a b c B A).2 A' ∧ mnC h' aa (nI A') o tb ∧ (fActivity σ a b c B A).2 35 0 = nI A') := by
  obtain ⟨fa, cc, a1, a2, a0, a3⟩ := IA
  have n1 := a2 cc (Nat.le_refl _)
  unfold fActivity
  refine c_enter (by decide +kernel) rfl rfl ?_
  refine s_wd (fun _ => ?_)
  refine s_iconst (v := nI 3) dX_activity_0 (by decide) ?_
  refine s_newa (36, cc, 0) _ dX_activity_1 rfl ⟨Or.inl rfl, ac20⟩ rfl rfl n1 rfl rfl ?_
  refine s_dup dX_activity_3 rfl ?_
  refine s_iconst (v := 0) dX_activity_4 (by decide) ?_
  refine s_tv (show vI 0 = vI (nI 0) from rfl) ?_
  refine s_iload_n dX_activity_5 rfl rfl ?_
  refine s_iastN dX_activity_6 (by repeat (first | exact up_self | assumption | rw [up_ne (by first | assumption | (intro q0; cases q0; done) | (intro q0; simp at q0; omega))])) (by first | rfl | assumption) (by omega) (by omega) ?_
  refine s_dup dX_activity_7 rfl ?_
  refine s_iconst (v := 1) dX_activity_8 (by decide) ?_
  refine s_tv (show vI 1 = vI (nI 1) from rfl) ?_
  refine s_iload_n dX_activity_9 rfl rfl ?_
  refine s_iastN dX_activity_10 (by repeat (first | exact up_self | assumption | rw [up_ne (by first | assumption | (intro q0; cases q0; done) | (intro q0; simp at q0; omega))])) (by first | rfl | assumption) (by omega) (by omega) ?_
  refine s_dup dX_activity_11 rfl ?_
  refine s_iconst (v := nI 2) dX_activity_12 (by decide) ?_
  refine s_iload_n dX_activity_13 rfl rfl ?_
  refine s_iastN dX_activity_14 (by repeat (first | exact up_self | assumption | rw [up_ne (by first | assumption | (intro q0; cases q0; done) | (intro q0; simp at q0; omega))])) (by first | rfl | assumption) (by omega) (by omega) ?_
  refine s_astore dX_activity_15 rfl ?_
  simp only [up_up]
  refine s_hp (h' := up h (36, cc, 0) (20, 3, r3 a b c)) rfl ?_
  have G1 : up h (36, cc, 0) (20, 3, r3 a b c) (36, cc, 0) = some (20, 3, r3 a b c) := up_self
  have G2 : ∀ t r c0, t ≠ 36 ∨ r ≠ cc ∨ c0 ≠ 0 → up h (36, cc, 0) (20, 3, r3 a b c) (t, r, c0) = h (t, r, c0) := fun t r c0 q1 => up_ne (fun q0 => by simp at q0; omega)
  have F1 : fT [10, 35, 36] h (up h (36, cc, 0) (20, 3, r3 a b c)) := fT.rf.v
  generalize up h (36, cc, 0) (20, 3, r3 a b c) = h2 at G1 G2 F1 ⊢
  have M2 : mnC h2 aa (nI A) o tb := (G2 _ _ _ (by omega)).trans M1
  have Ib2 : bC h2 σ B own od rw0 := Ib.fr (F1.ag (by decide)) (fun _ => rfl) (fun _ => rfl)
  have cb := c_areBN (x := l6 a b c 0 0 0) M2 Ib2 hB G1 (by omega) (fun k hk1 => r3_l hk1)
  rw [l6_3] at cb
  have e32 : h2 (35, 0, 0) = some (23, 6, fa) := (G2 _ _ _ (by omega)).trans a1
  have a4 : ∀ a0, a0 < 6 → fa a0 = vR (36, a0, 0) ∧ ∃ g, h2 (36, a0, 0) = some (20, 3, g) ∧ (a0 < A → ∀ k, k < 3 → g k = vI (σ 36 (3 * a0 + k))) := fun a0 q2 => by
    obtain ⟨b1, g, b2, b3⟩ := a3 a0 q2
    exact ⟨b1, g, (G2 _ _ _ (by omega)).trans b2, b3⟩
  have stay : vC h2 σ A := ⟨fa, cc + 1, e32, fun i q1 => (G2 _ _ _ (by omega)).trans (a2 i (by omega)), by omega, a4⟩
  cases eb : (bN a B && bN b B && bN c B) with
  | false =>
    rw [eb] at cb
    unfold mnC at M2
    refine s_aload_n dX_activity_17 rfl rfl ?_
    refine s_aload dX_activity_18 rfl ?_
    refine s_v1 dX_activity_20 cv_X_215 (by repeat (first | exact up_self | assumption | rw [up_ne (by first | assumption | (intro q0; cases q0; done) | (intro q0; simp at q0; omega))])) (cb) (by first | rfl | exact Nat.ble_eq_true_of_le (by omega)) (by first | rfl | exact Nat.ble_eq_true_of_le (by omega)) (by first | rfl | exact Nat.ble_eq_true_of_le (by omega)) rfl ?_
    refine s_if_ne dX_activity_23 (fun q => absurd rfl q) (fun _ => ?_)
    refine s_iconst (v := (-1)) dX_activity_26 (by decide) ?_
    refine s_iret dX_activity_27 rfl (by first | exact Nat.le_refl _ | decide | omega) (by first | exact Nat.le_refl _ | decide | omega) ?_
    exact ⟨rfl, F1, A, hA, stay, M2, h35⟩
  | true =>
    rw [eb] at cb
    rw [if_pos rfl]
    have M3 := M2
    unfold mnC at M2
    by_cases c8 : A = 6
    · rw [if_pos c8]
      refine s_aload_n dX_activity_17 rfl rfl ?_
      refine s_aload dX_activity_18 rfl ?_
      refine s_v1 dX_activity_20 cv_X_215 (by repeat (first | exact up_self | assumption | rw [up_ne (by first | assumption | (intro q0; cases q0; done) | (intro q0; simp at q0; omega))])) (cb) (by first | rfl | exact Nat.ble_eq_true_of_le (by omega)) (by first | rfl | exact Nat.ble_eq_true_of_le (by omega)) (by first | rfl | exact Nat.ble_eq_true_of_le (by omega)) rfl ?_
      refine s_if_ne dX_activity_23 (fun _ => ?_) (fun q => absurd q (by decide))
      refine s_aload_n dX_activity_28 rfl rfl ?_
      refine s_get dX_activity_29 gf_X_232 (by repeat (first | exact up_self | assumption | rw [up_ne (by first | assumption | (intro q0; cases q0; done) | (intro q0; simp at q0; omega))])) ?_
      refine s_bipush (v := nI 6) dX_activity_32 (by decide) ?_
      refine s_icmp_lt dX_activity_34 (fun q => absurd q (nI_nlt (by omega) (by omega))) (fun _ => ?_)
      refine s_bipush (v := (-3)) dX_activity_37 (by decide) ?_
      refine s_iret dX_activity_39 rfl (by first | exact Nat.le_refl _ | decide | omega) (by first | exact Nat.le_refl _ | decide | omega) ?_
      exact ⟨rfl, F1, A, hA, stay, M3, h35⟩
    · rw [if_neg c8]
      dsimp only
      obtain ⟨bA, gA, eA, -⟩ := a4 A (by omega)
      refine s_aload_n dX_activity_17 rfl rfl ?_
      refine s_aload dX_activity_18 rfl ?_
      refine s_v1 dX_activity_20 cv_X_215 (by repeat (first | exact up_self | assumption | rw [up_ne (by first | assumption | (intro q0; cases q0; done) | (intro q0; simp at q0; omega))])) (cb) (by first | rfl | exact Nat.ble_eq_true_of_le (by omega)) (by first | rfl | exact Nat.ble_eq_true_of_le (by omega)) (by first | rfl | exact Nat.ble_eq_true_of_le (by omega)) rfl ?_
      refine s_if_ne dX_activity_23 (fun _ => ?_) (fun q => absurd q (by decide))
      refine s_aload_n dX_activity_28 rfl rfl ?_
      refine s_get dX_activity_29 gf_X_232 (by repeat (first | exact up_self | assumption | rw [up_ne (by first | assumption | (intro q0; cases q0; done) | (intro q0; simp at q0; omega))])) ?_
      refine s_bipush (v := nI 6) dX_activity_32 (by decide) ?_
      refine s_icmp_lt dX_activity_34 (fun _ => ?_) (fun q => absurd (nI_lt (show A < 6 by omega) (by omega)) q)
      refine s_aload dX_activity_40 rfl ?_
      refine s_iconst (v := 0) dX_activity_42 (by decide) ?_
      refine s_aload_n dX_activity_43 rfl rfl ?_
      refine s_get dX_activity_44 gf_X_34 (by repeat (first | exact up_self | assumption | rw [up_ne (by first | assumption | (intro q0; cases q0; done) | (intro q0; simp at q0; omega))])) ?_
      refine s_aload_n dX_activity_47 rfl rfl ?_
      refine s_get dX_activity_48 gf_X_232 (by repeat (first | exact up_self | assumption | rw [up_ne (by first | assumption | (intro q0; cases q0; done) | (intro q0; simp at q0; omega))])) ?_
      refine s_aaldN dX_activity_51 (by repeat (first | exact up_self | assumption | rw [up_ne (by first | assumption | (intro q0; cases q0; done) | (intro q0; simp at q0; omega))])) rfl rfl (by omega) (by omega) ?_
      refine s_tv bA ?_
      refine s_iconst (v := 0) dX_activity_52 (by decide) ?_
      refine s_iconst (v := nI 3) dX_activity_53 (by decide) ?_
      have k0 : (0 : Int32).toNatClampNeg = 0 := by decide
      have k6 : (nI 3).toNatClampNeg = 3 := by decide
      refine s_copy0 dX_activity_54 cy_X_222 G1 eA (Or.inl rfl) rfl (by decide) (by decide) (by decide) (by decide) (by decide) (fun i q1 => ⟨fun _ => ⟨l6 a b c 0 0 0 i, ?_⟩, fun z1 => absurd z1 (by decide)⟩) rfl rfl ?_
      · rw [k0, Nat.zero_add]
        exact r3_l (by omega)
      rw [k0, k6]
      refine s_aload_n dX_activity_57 rfl rfl ?_
      refine s_dup dX_activity_58 rfl ?_
      refine s_get dX_activity_59 gf_X_232 (by repeat (first | exact up_self | assumption | rw [up_ne (by first | assumption | (intro q0; cases q0; done) | (intro q0; simp at q0; omega))])) ?_
      refine s_iconst (v := nI 1) dX_activity_62 (by decide) ?_
      first | refine s_iaddN dX_activity_63 ?_ | refine s_iadd dX_activity_63 ?_
      refine s_putF dX_activity_64 gf_X_232 (by repeat (first | exact up_self | assumption | rw [up_ne (by first | assumption | (intro q0; cases q0; done) | (intro q0; simp at q0; omega))])) (by first | rfl | assumption) rfl (by first | exact Or.inl rfl | exact Or.inr ⟨rfl, rfl⟩) (by first | exact ⟨_, rfl⟩ | exact Or.inl rfl | exact Or.inr rfl | assumption) ?_
      refine s_aload_n dX_activity_67 rfl rfl ?_
      refine s_get dX_activity_68 gf_X_232 (by repeat (first | exact up_self | assumption | rw [up_ne (by first | assumption | (intro q0; cases q0; done) | (intro q0; simp at q0; omega))])) ?_
      refine s_iconst (v := nI 1) dX_activity_71 (by decide) ?_
      first | refine s_isubN dX_activity_72 (by omega) ?_ | refine s_isub dX_activity_72 ?_
      refine s_iret dX_activity_73 rfl (by first | exact Nat.le_refl _ | decide | omega) (by first | exact Nat.le_refl _ | decide | omega) ?_
      generalize hτ : us (us (us (us σ 36 (3 * A) a) 36 (3 * A + 1) b) 36 (3 * A + 2) c) 35 0 (nI (A + 1)) = τ
      have τo : ∀ i, i < 3 * A → τ 36 i = σ 36 i := fun i q1 => by rw [← hτ, us_k (by decide), us_j (by omega), us_j (by omega), us_j (by omega)]
      have τn : ∀ k, k < 3 → τ 36 (3 * A + k) = l6 a b c 0 0 0 k := fun k q1 => by
        rw [← hτ, us_k (by decide)]
        rcases (show k = 0 ∨ k = 1 ∨ k = 2 by omega) with rfl | rfl | rfl
        · rw [us_j (by omega), us_j (by omega)]; exact us_s
        · rw [us_j (by omega)]; exact us_s
        · exact us_s
      refine ⟨rfl, (F1.v).v, A + 1, by omega, ⟨fa, cc + 1, ?_, fun i q1 => ?_, by omega, fun a0 q1 => ⟨(a4 a0 q1).1, ?_⟩⟩, ?_, by rw [← hτ, us_s]⟩
      · rw [up_ne (fun q0 => by cases q0), up_ne (fun q0 => by cases q0)]
        exact e32
      · rw [up_ne (fun q0 => by cases q0), up_ne (fun q0 => by simp at q0; omega), G2 _ _ _ (by omega)]
        exact a2 i (by omega)
      · by_cases c1 : a0 = A
        · subst c1
          refine ⟨cpy (r3 a b c) gA 0 0 3, ?_, fun _ k q2 => ?_⟩
          · rw [up_ne (fun q0 => by cases q0)]; exact up_self
          · rw [τn k q2]
            unfold cpy
            rw [if_pos ⟨Nat.zero_le _, by omega⟩, show 0 + (k - 0) = k by omega]
            exact r3_l q2
        · obtain ⟨-, g0, b3, b4⟩ := a4 a0 q1
          refine ⟨g0, ?_, fun q3 k q2 => ?_⟩
          · rw [up_ne (fun q0 => by cases q0), up_ne (fun q0 => by simp at q0; omega)]; exact b3
          · rw [τo _ (by omega)]; exact b4 (by omega) k q2
      · unfold mnC
        rw [up_self]
        rfl
/-- the runner's answer for a part's book, or none -/
theorem c_partA {h : Hp} {σ : Sg} {own od rw0 : Nat → List Nat} {K N NS B R s a p : Nat} {g : Gs} {ob : Option Nm} (X : ST h σ own od rw0 K N NS B R) (D : DY h σ N g) (hs : s < N) (hb : (σ 36 (3 * a + p) = -4 ∧ ob = none) ∨ ∃ b, b < B ∧ σ 36 (3 * a + p) = nI b ∧ ob = some (18, b, 0)) :
    Con mRun_answerOf 28 0 0 [vR (44, 0, 0), vO ob, vR (14, s, 0)] h (fun v h' => FD h h' ∧ DY h' σ N (fPart σ rw0 a p s g).2 ∧ v = some (vI (fPart σ rw0 a p s g).1)) := by
  unfold fPart
  rcases hb with ⟨e1, rfl⟩ | ⟨b, hb, e1, rfl⟩
  · rw [if_pos e1]
    refine Con.mono (c_answerN1 (o := some (14, s, 0))) (fun v h' q1 => ?_)
    obtain ⟨rfl, rfl⟩ := q1
    exact ⟨fT.rf, D, rfl⟩
  · have hB := X.2.2.2.2.2.2.2.2.1
    rw [if_neg (by rw [e1]; exact nI_m4 (by omega)), show nt (σ 36 (3 * a + p)) = b by rw [e1, nt_nI (by omega)]]
    exact c_answerOf X D hs hb
theorem c_latestPart {h : Hp} {σ : Sg} {own od rw0 : Nat → List Nat} {B A O a p : Nat} {aa vv tb : Int32} (M1 : mnC h aa vv (nI O) tb) (Ib : bC h σ B own od rw0) (hB : B ≤ 12) (IV1 : vC h σ A) (hA : A ≤ 6) (IP : pC h σ O) (hO : 0 < O) (hO4 : O ≤ 4) (ha : a < A) (ea : σ 38 (O - 1) = nI a) (hp : p < 3) (hb : σ 36 (3 * a + p) = -4 ∨ ∃ b, b < B ∧ σ 36 (3 * a + p) = nI b) :
    ∃ ob : Option Nm, ((σ 36 (3 * a + p) = -4 ∧ ob = none) ∨ ∃ b, b < B ∧ σ 36 (3 * a + p) = nI b ∧ ob = some (18, b, 0)) ∧ ConF mX_latestPart 4 [vR (10, 0, 0), vI (nI p)] h (some (vO ob)) h := by
  have M0 := M1
  unfold mnC at M1
  obtain ⟨fv, v1, v3⟩ := IV1.at hA
  obtain ⟨f, g, p1, p2, p3⟩ := IP
  obtain ⟨j, w1, fw, w2, w3⟩ := v3 a ha
  have e1 := (p3 (O - 1) (by omega)).1
  rcases hb with e4 | ⟨b, hb, e4⟩
  · refine ⟨none, Or.inl ⟨e4, rfl⟩, ?_⟩
    have hz : Iy 0 (-4) B := Or.inr ⟨rfl, fun q0 => absurd q0.1 (by decide)⟩
    refine c_enter (by decide +kernel) rfl rfl ?_
    refine s_aload_n dX_latestPart_0 rfl rfl ?_
    refine s_aload_n dX_latestPart_1 rfl rfl ?_
    refine s_get dX_latestPart_2 gf_X_34 (by repeat (first | exact up_self | assumption | rw [up_ne (by first | assumption | (intro q0; cases q0; done) | (intro q0; simp at q0; omega))])) ?_
    refine s_aload_n dX_latestPart_5 rfl rfl ?_
    refine s_get dX_latestPart_6 gf_X_37 (by repeat (first | exact up_self | assumption | rw [up_ne (by first | assumption | (intro q0; cases q0; done) | (intro q0; simp at q0; omega))])) ?_
    refine s_aload_n dX_latestPart_9 rfl rfl ?_
    refine s_get dX_latestPart_10 gf_X_235 (by repeat (first | exact up_self | assumption | rw [up_ne (by first | assumption | (intro q0; cases q0; done) | (intro q0; simp at q0; omega))])) ?_
    refine s_iconst (v := nI 1) dX_latestPart_13 (by decide) ?_
    first | refine s_isubN dX_latestPart_14 (by omega) ?_ | refine s_isub dX_latestPart_14 ?_
    refine s_ialdN dX_latestPart_15 (by repeat (first | exact up_self | assumption | rw [up_ne (by first | assumption | (intro q0; cases q0; done) | (intro q0; simp at q0; omega))])) (by omega) (by omega) ?_
    refine s_tv (e1.trans (congrArg vI ea)) ?_
    refine s_aaldN dX_latestPart_16 (by repeat (first | exact up_self | assumption | rw [up_ne (by first | assumption | (intro q0; cases q0; done) | (intro q0; simp at q0; omega))])) rfl rfl (by omega) (by omega) ?_
    refine s_tv w1 ?_
    refine s_iload_n dX_latestPart_17 rfl rfl ?_
    refine s_ialdN dX_latestPart_18 (by repeat (first | exact up_self | assumption | rw [up_ne (by first | assumption | (intro q0; cases q0; done) | (intro q0; simp at q0; omega))])) (by omega) (by omega) ?_
    refine s_tv ((w3 p hp).trans (congrArg vI e4)) ?_
    refine s_v1 dX_latestPart_19 cv_X_116 (by repeat (first | exact up_self | assumption | rw [up_ne (by first | assumption | (intro q0; cases q0; done) | (intro q0; simp at q0; omega))])) (c_bookNo M0 Ib hB hz) (by first | rfl | exact Nat.ble_eq_true_of_le (by omega)) (by first | rfl | exact Nat.ble_eq_true_of_le (by omega)) (by first | rfl | exact Nat.ble_eq_true_of_le (by omega)) rfl ?_
    refine s_aret dX_latestPart_22 rfl (by first | exact Or.inl ⟨_, rfl⟩ | exact Or.inr ⟨_, rfl⟩) (by first | exact Nat.le_refl _ | decide | omega) (by first | exact Nat.le_refl _ | decide | omega) ?_
    exact ⟨rfl, rfl⟩
  · refine ⟨some (18, b, 0), Or.inr ⟨b, hb, e4, rfl⟩, ?_⟩
    refine c_enter (by decide +kernel) rfl rfl ?_
    refine s_aload_n dX_latestPart_0 rfl rfl ?_
    refine s_aload_n dX_latestPart_1 rfl rfl ?_
    refine s_get dX_latestPart_2 gf_X_34 (by repeat (first | exact up_self | assumption | rw [up_ne (by first | assumption | (intro q0; cases q0; done) | (intro q0; simp at q0; omega))])) ?_
    refine s_aload_n dX_latestPart_5 rfl rfl ?_
    refine s_get dX_latestPart_6 gf_X_37 (by repeat (first | exact up_self | assumption | rw [up_ne (by first | assumption | (intro q0; cases q0; done) | (intro q0; simp at q0; omega))])) ?_
    refine s_aload_n dX_latestPart_9 rfl rfl ?_
    refine s_get dX_latestPart_10 gf_X_235 (by repeat (first | exact up_self | assumption | rw [up_ne (by first | assumption | (intro q0; cases q0; done) | (intro q0; simp at q0; omega))])) ?_
    refine s_iconst (v := nI 1) dX_latestPart_13 (by decide) ?_
    first | refine s_isubN dX_latestPart_14 (by omega) ?_ | refine s_isub dX_latestPart_14 ?_
    refine s_ialdN dX_latestPart_15 (by repeat (first | exact up_self | assumption | rw [up_ne (by first | assumption | (intro q0; cases q0; done) | (intro q0; simp at q0; omega))])) (by omega) (by omega) ?_
    refine s_tv (e1.trans (congrArg vI ea)) ?_
    refine s_aaldN dX_latestPart_16 (by repeat (first | exact up_self | assumption | rw [up_ne (by first | assumption | (intro q0; cases q0; done) | (intro q0; simp at q0; omega))])) rfl rfl (by omega) (by omega) ?_
    refine s_tv w1 ?_
    refine s_iload_n dX_latestPart_17 rfl rfl ?_
    refine s_ialdN dX_latestPart_18 (by repeat (first | exact up_self | assumption | rw [up_ne (by first | assumption | (intro q0; cases q0; done) | (intro q0; simp at q0; omega))])) (by omega) (by omega) ?_
    refine s_tv ((w3 p hp).trans (congrArg vI e4)) ?_
    refine s_v1 dX_latestPart_19 cv_X_116 (by repeat (first | exact up_self | assumption | rw [up_ne (by first | assumption | (intro q0; cases q0; done) | (intro q0; simp at q0; omega))])) (c_bookAt M0 Ib hB hb) (by first | rfl | exact Nat.ble_eq_true_of_le (by omega)) (by first | rfl | exact Nat.ble_eq_true_of_le (by omega)) (by first | rfl | exact Nat.ble_eq_true_of_le (by omega)) rfl ?_
    refine s_aret dX_latestPart_22 rfl (by first | exact Or.inl ⟨_, rfl⟩ | exact Or.inr ⟨_, rfl⟩) (by first | exact Nat.le_refl _ | decide | omega) (by first | exact Nat.le_refl _ | decide | omega) ?_
    exact ⟨rfl, rfl⟩
theorem c_latestSubject {h : Hp} {σ : Sg} {v : Nat → Int32} {N O s : Nat} {aa vv tb : Int32} (M1 : mnC h aa vv (nI O) tb) (Is : sC h σ v N) (hN : N ≤ 20) (IP : pC h σ O) (hO : 0 < O) (hO4 : O ≤ 4) (hs : s < N) (es : σ 39 (O - 1) = nI s) : ConF mX_latestSubject 4 [vR (10, 0, 0)] h (some (vR (14, s, 0))) h := by
  have M0 := M1
  unfold mnC at M1
  obtain ⟨f, g, p1, p2, p3⟩ := IP
  have e1 := (p3 (O - 1) (by omega)).2
  refine c_enter (by decide +kernel) rfl rfl ?_
  refine s_aload_n dX_latestSubject_0 rfl rfl ?_
  refine s_aload_n dX_latestSubject_1 rfl rfl ?_
  refine s_get dX_latestSubject_2 gf_X_41 (by repeat (first | exact up_self | assumption | rw [up_ne (by first | assumption | (intro q0; cases q0; done) | (intro q0; simp at q0; omega))])) ?_
  refine s_aload_n dX_latestSubject_5 rfl rfl ?_
  refine s_get dX_latestSubject_6 gf_X_235 (by repeat (first | exact up_self | assumption | rw [up_ne (by first | assumption | (intro q0; cases q0; done) | (intro q0; simp at q0; omega))])) ?_
  refine s_iconst (v := nI 1) dX_latestSubject_9 (by decide) ?_
  first | refine s_isubN dX_latestSubject_10 (by omega) ?_ | refine s_isub dX_latestSubject_10 ?_
  refine s_ialdN dX_latestSubject_11 (by repeat (first | exact up_self | assumption | rw [up_ne (by first | assumption | (intro q0; cases q0; done) | (intro q0; simp at q0; omega))])) (by omega) (by omega) ?_
  refine s_tv (e1.trans (congrArg vI es)) ?_
  refine s_v1 dX_latestSubject_12 cv_X_103 (by repeat (first | exact up_self | assumption | rw [up_ne (by first | assumption | (intro q0; cases q0; done) | (intro q0; simp at q0; omega))])) (c_subjAt M0 Is hN hs) (by first | rfl | exact Nat.ble_eq_true_of_le (by omega)) (by first | rfl | exact Nat.ble_eq_true_of_le (by omega)) (by first | rfl | exact Nat.ble_eq_true_of_le (by omega)) rfl ?_
  refine s_aret dX_latestSubject_15 rfl (by first | exact Or.inl ⟨_, rfl⟩ | exact Or.inr ⟨_, rfl⟩) (by first | exact Nat.le_refl _ | decide | omega) (by first | exact Nat.le_refl _ | decide | omega) ?_
  exact ⟨rfl, rfl⟩
theorem c_X_middle {h : Hp} {σ : Sg} {own od rw0 : Nat → List Nat} {K N NS B R A O : Nat} {g : Gs} {aa vv tb : Int32} (M1 : mnC h aa vv (nI O) tb) (X : ST h σ own od rw0 K N NS B R) (D : DY h σ N g) (IV1 : vC h σ A) (V : VP σ A B) (IP : pC h σ O) (hO : OV σ O A N) :
    Con mX_middle 29 0 0 [vR (10, 0, 0)] h (fun v h' => if O = 0 then v = some (vI (-2)) ∧ h' = h else v = some (vI (fPart σ rw0 (nt (σ 38 (O - 1))) 1 (nt (σ 39 (O - 1))) g).1) ∧ FD h h' ∧ DY h' σ N (fPart σ rw0 (nt (σ 38 (O - 1))) 1 (nt (σ 39 (O - 1))) g).2) := by
  have M0 := M1
  unfold mnC at M1
  have hN := X.2.2.2.2.2.1.1
  have hB := X.2.2.2.2.2.2.2.2.1
  have u1 := D.2.2.1.1
  obtain ⟨hO4, e37, hO2⟩ := hO
  have hA := V.1
  refine c_enter (by decide +kernel) rfl rfl ?_
  by_cases c1 : O = 0
  · subst c1
    refine s_aload_n dX_middle_0 rfl rfl ?_
    refine s_get dX_middle_1 gf_X_235 (by repeat (first | exact up_self | assumption | rw [up_ne (by first | assumption | (intro q0; cases q0; done) | (intro q0; simp at q0; omega))])) ?_
    refine s_if_gt dX_middle_4 (fun q => absurd q (by decide)) (fun _ => ?_)
    refine s_bipush (v := (-2)) dX_middle_7 (by decide) ?_
    refine s_iret dX_middle_9 rfl (by first | exact Nat.le_refl _ | decide | omega) (by first | exact Nat.le_refl _ | decide | omega) ?_
    rw [if_pos rfl]
    exact ⟨rfl, rfl⟩
  · obtain ⟨⟨a, ha, ea⟩, s, hs, es⟩ := hO2 (O - 1) (by omega)
    obtain ⟨ob, hob, cl⟩ := c_latestPart (p := 1) M0 X.2.1 hB IV1 hA IP (by omega) hO4 ha ea (by omega) (V.2 a 1 ha (by omega))
    have cs := c_latestSubject M0 D.1 hN IP (by omega) hO4 hs es
    have ea2 : nt (σ 38 (O - 1)) = a := by rw [ea, nt_nI (by omega)]
    have es2 : nt (σ 39 (O - 1)) = s := by rw [es, nt_nI (by omega)]
    simp only [if_neg c1, ea2, es2]
    refine s_aload_n dX_middle_0 rfl rfl ?_
    refine s_get dX_middle_1 gf_X_235 (by repeat (first | exact up_self | assumption | rw [up_ne (by first | assumption | (intro q0; cases q0; done) | (intro q0; simp at q0; omega))])) ?_
    refine s_if_gt dX_middle_4 (fun _ => ?_) (fun q => absurd (nI_lt (a := 0) (by omega) (by omega)) q)
    refine s_aload_n dX_middle_10 rfl rfl ?_
    refine s_get dX_middle_11 gf_X_71 (by repeat (first | exact up_self | assumption | rw [up_ne (by first | assumption | (intro q0; cases q0; done) | (intro q0; simp at q0; omega))])) ?_
    refine s_aload_n dX_middle_14 rfl rfl ?_
    refine s_iconst (v := 1) dX_middle_15 (by decide) ?_
    refine s_tv (show vI 1 = vI (nI 1) from rfl) ?_
    refine s_v1 dX_middle_16 cv_X_238 (by repeat (first | exact up_self | assumption | rw [up_ne (by first | assumption | (intro q0; cases q0; done) | (intro q0; simp at q0; omega))])) (cl) (by first | rfl | exact Nat.ble_eq_true_of_le (by omega)) (by first | rfl | exact Nat.ble_eq_true_of_le (by omega)) (by first | rfl | exact Nat.ble_eq_true_of_le (by omega)) rfl ?_
    refine s_aload_n dX_middle_19 rfl rfl ?_
    refine s_v0 dX_middle_20 cv_X_241 (by repeat (first | exact up_self | assumption | rw [up_ne (by first | assumption | (intro q0; cases q0; done) | (intro q0; simp at q0; omega))])) (cs) (by first | rfl | exact Nat.ble_eq_true_of_le (by omega)) (by first | rfl | exact Nat.ble_eq_true_of_le (by omega)) (by first | rfl | exact Nat.ble_eq_true_of_le (by omega)) rfl ?_
    refine s_callV (As := [_, _]) dX_middle_23 cv_X_198 (by repeat (first | exact up_self | assumption | rw [up_ne (by first | assumption | (intro q0; cases q0; done) | (intro q0; simp at q0; omega))])) (c_partA (a := a) (p := 1) X D hs hob) (by first | rfl | exact Nat.ble_eq_true_of_le (by omega)) (by first | rfl | exact Nat.ble_eq_true_of_le (by omega)) (by first | rfl | exact Nat.ble_eq_true_of_le (by omega)) rfl (fun v0 h2 q0 => ?_)
    obtain ⟨F2, D2, rfl⟩ := q0
    refine s_iret dX_middle_26 rfl (by first | exact Nat.le_refl _ | decide | omega) (by first | exact Nat.le_refl _ | decide | omega) ?_
    exact ⟨rfl, F2, D2⟩
theorem c_X_finish {h : Hp} {σ : Sg} {own od rw0 : Nat → List Nat} {K N NS B R A O : Nat} {g : Gs} {aa vv tb : Int32} (M1 : mnC h aa vv (nI O) tb) (X : ST h σ own od rw0 K N NS B R) (D : DY h σ N g) (IV1 : vC h σ A) (V : VP σ A B) (IP : pC h σ O) (hO : OV σ O A N) :
    Con mX_finish 29 0 0 [vR (10, 0, 0)] h (fun v h' => if O = 0 then v = some (vI (-2)) ∧ h' = h else v = some (vI (fPart σ rw0 (nt (σ 38 (O - 1))) 2 (nt (σ 39 (O - 1))) g).1) ∧ fT [10, 15, 44, 45, 46, 47] h h' ∧ DY h' σ N (fPart σ rw0 (nt (σ 38 (O - 1))) 2 (nt (σ 39 (O - 1))) g).2 ∧ mnC h' aa vv (nI (O - 1)) tb) := by
  have M0 := M1
  unfold mnC at M1
  have hN := X.2.2.2.2.2.1.1
  have hB := X.2.2.2.2.2.2.2.2.1
  have u1 := D.2.2.1.1
  obtain ⟨hO4, e37, hO2⟩ := hO
  have hA := V.1
  refine c_enter (by decide +kernel) rfl rfl ?_
  by_cases c1 : O = 0
  · subst c1
    refine s_aload_n dX_finish_0 rfl rfl ?_
    refine s_get dX_finish_1 gf_X_235 (by repeat (first | exact up_self | assumption | rw [up_ne (by first | assumption | (intro q0; cases q0; done) | (intro q0; simp at q0; omega))])) ?_
    refine s_if_gt dX_finish_4 (fun q => absurd q (by decide)) (fun _ => ?_)
    refine s_bipush (v := (-2)) dX_finish_7 (by decide) ?_
    refine s_iret dX_finish_9 rfl (by first | exact Nat.le_refl _ | decide | omega) (by first | exact Nat.le_refl _ | decide | omega) ?_
    rw [if_pos rfl]
    exact ⟨rfl, rfl⟩
  · obtain ⟨⟨a, ha, ea⟩, s, hs, es⟩ := hO2 (O - 1) (by omega)
    obtain ⟨ob, hob, cl⟩ := c_latestPart (p := 2) M0 X.2.1 hB IV1 hA IP (by omega) hO4 ha ea (by omega) (V.2 a 2 ha (by omega))
    have cs := c_latestSubject M0 D.1 hN IP (by omega) hO4 hs es
    have ea2 : nt (σ 38 (O - 1)) = a := by rw [ea, nt_nI (by omega)]
    have es2 : nt (σ 39 (O - 1)) = s := by rw [es, nt_nI (by omega)]
    simp only [if_neg c1, ea2, es2]
    refine s_aload_n dX_finish_0 rfl rfl ?_
    refine s_get dX_finish_1 gf_X_235 (by repeat (first | exact up_self | assumption | rw [up_ne (by first | assumption | (intro q0; cases q0; done) | (intro q0; simp at q0; omega))])) ?_
    refine s_if_gt dX_finish_4 (fun _ => ?_) (fun q => absurd (nI_lt (a := 0) (by omega) (by omega)) q)
    refine s_aload_n dX_finish_10 rfl rfl ?_
    refine s_get dX_finish_11 gf_X_71 (by repeat (first | exact up_self | assumption | rw [up_ne (by first | assumption | (intro q0; cases q0; done) | (intro q0; simp at q0; omega))])) ?_
    refine s_aload_n dX_finish_14 rfl rfl ?_
    refine s_iconst (v := nI 2) dX_finish_15 (by decide) ?_
    refine s_v1 dX_finish_16 cv_X_238 (by repeat (first | exact up_self | assumption | rw [up_ne (by first | assumption | (intro q0; cases q0; done) | (intro q0; simp at q0; omega))])) (cl) (by first | rfl | exact Nat.ble_eq_true_of_le (by omega)) (by first | rfl | exact Nat.ble_eq_true_of_le (by omega)) (by first | rfl | exact Nat.ble_eq_true_of_le (by omega)) rfl ?_
    refine s_aload_n dX_finish_19 rfl rfl ?_
    refine s_v0 dX_finish_20 cv_X_241 (by repeat (first | exact up_self | assumption | rw [up_ne (by first | assumption | (intro q0; cases q0; done) | (intro q0; simp at q0; omega))])) (cs) (by first | rfl | exact Nat.ble_eq_true_of_le (by omega)) (by first | rfl | exact Nat.ble_eq_true_of_le (by omega)) (by first | rfl | exact Nat.ble_eq_true_of_le (by omega)) rfl ?_
    refine s_callV (As := [_, _]) dX_finish_23 cv_X_198 (by repeat (first | exact up_self | assumption | rw [up_ne (by first | assumption | (intro q0; cases q0; done) | (intro q0; simp at q0; omega))])) (c_partA (a := a) (p := 2) X D hs hob) (by first | rfl | exact Nat.ble_eq_true_of_le (by omega)) (by first | rfl | exact Nat.ble_eq_true_of_le (by omega)) (by first | rfl | exact Nat.ble_eq_true_of_le (by omega)) rfl (fun v0 h2 q0 => ?_)
    obtain ⟨F2, D2, rfl⟩ := q0
    have M2 : h2 (10, 0, 0) = _ := (F2 _ (show (10 : Nat) ∉ _ by decide)).trans M1
    refine s_istore_n dX_finish_26 rfl rfl ?_
    refine s_aload_n dX_finish_27 rfl rfl ?_
    refine s_dup dX_finish_28 rfl ?_
    refine s_get dX_finish_29 gf_X_235 (by repeat (first | exact up_self | assumption | rw [up_ne (by first | assumption | (intro q0; cases q0; done) | (intro q0; simp at q0; omega))])) ?_
    refine s_iconst (v := nI 1) dX_finish_32 (by decide) ?_
    first | refine s_isubN dX_finish_33 (by omega) ?_ | refine s_isub dX_finish_33 ?_
    refine s_putF dX_finish_34 gf_X_235 (by repeat (first | exact up_self | assumption | rw [up_ne (by first | assumption | (intro q0; cases q0; done) | (intro q0; simp at q0; omega))])) (by first | rfl | assumption) rfl (by first | exact Or.inl rfl | exact Or.inr ⟨rfl, rfl⟩) (by first | exact ⟨_, rfl⟩ | exact Or.inl rfl | exact Or.inr rfl | assumption) ?_
    refine s_iload_n dX_finish_37 rfl rfl ?_
    refine s_iret dX_finish_38 rfl (by first | exact Nat.le_refl _ | decide | omega) (by first | exact Nat.le_refl _ | decide | omega) ?_
    have F3 : fT [10] h2 (up h2 (10, 0, 0) (11, 0, fl (mnL aa vv (nI (O - 1)) tb))) := fT.rf.v
    refine ⟨rfl, fun n q1 => ?_, ?_, up_self⟩
    · exact (F3 n (fun q0 => q1 (by simp at q0; rw [q0]; simp))).trans (F2 n (fun q0 => q1 (List.mem_cons_of_mem _ q0)))
    · obtain ⟨d1, d2, d3, d4, d5⟩ := D2
      refine ⟨d1.fr (F3.ag (by decide)) (fun _ => rfl), d2.fr (F3.ag (by decide)), d3.fr (F3.ag (by decide)), fun d q1 => ?_, d5⟩
      obtain ⟨vr1, ap1, o1⟩ := d4 d q1
      exact ⟨vr1, ap1, o1.fr (F3 _ (show (45 : Nat) ∉ [10] by decide)) (F3 _ (show (46 : Nat) ∉ [10] by decide))⟩
theorem c_X_abandon {h : Hp} {σ : Sg} {O : Nat} {aa vv tb : Int32} (M1 : mnC h aa vv (nI O) tb) (IP : pC h σ O) (hO4 : O ≤ 4) (e37 : σ 37 0 = nI O) :
    Con mX_abandon 0 0 0 [vR (10, 0, 0)] h (fun v h' => v = some (vI (fAbandon σ O).1) ∧ fT [10] h h' ∧ ∃ O', O' ≤ O ∧ mnC h' aa vv (nI O') tb ∧ (fAbandon σ O).2 37 0 = nI O') := by
  have M0 := M1
  unfold mnC at M1
  obtain ⟨f, g, p1, p2, p3⟩ := IP
  unfold fAbandon
  refine c_enter (by decide +kernel) rfl rfl ?_
  by_cases c1 : O = 0
  · subst c1
    refine s_aload_n dX_abandon_0 rfl rfl ?_
    refine s_get dX_abandon_1 gf_X_235 (by repeat (first | exact up_self | assumption | rw [up_ne (by first | assumption | (intro q0; cases q0; done) | (intro q0; simp at q0; omega))])) ?_
    refine s_if_gt dX_abandon_4 (fun q => absurd q (by decide)) (fun _ => ?_)
    refine s_bipush (v := (-2)) dX_abandon_7 (by decide) ?_
    refine s_iret dX_abandon_9 rfl (by first | exact Nat.le_refl _ | decide | omega) (by first | exact Nat.le_refl _ | decide | omega) ?_
    rw [if_pos rfl]
    exact ⟨rfl, fT.rf, 0, by omega, M0, e37⟩
  · rw [if_neg c1]
    refine s_aload_n dX_abandon_0 rfl rfl ?_
    refine s_get dX_abandon_1 gf_X_235 (by repeat (first | exact up_self | assumption | rw [up_ne (by first | assumption | (intro q0; cases q0; done) | (intro q0; simp at q0; omega))])) ?_
    refine s_if_gt dX_abandon_4 (fun _ => ?_) (fun q => absurd (nI_lt (a := 0) (by omega) (by omega)) q)
    refine s_aload_n dX_abandon_10 rfl rfl ?_
    refine s_dup dX_abandon_11 rfl ?_
    refine s_get dX_abandon_12 gf_X_235 (by repeat (first | exact up_self | assumption | rw [up_ne (by first | assumption | (intro q0; cases q0; done) | (intro q0; simp at q0; omega))])) ?_
    refine s_iconst (v := nI 1) dX_abandon_15 (by decide) ?_
    first | refine s_isubN dX_abandon_16 (by omega) ?_ | refine s_isub dX_abandon_16 ?_
    refine s_putF dX_abandon_17 gf_X_235 (by repeat (first | exact up_self | assumption | rw [up_ne (by first | assumption | (intro q0; cases q0; done) | (intro q0; simp at q0; omega))])) (by first | rfl | assumption) rfl (by first | exact Or.inl rfl | exact Or.inr ⟨rfl, rfl⟩) (by first | exact ⟨_, rfl⟩ | exact Or.inl rfl | exact Or.inr rfl | assumption) ?_
    refine s_aload_n dX_abandon_20 rfl rfl ?_
    refine s_get dX_abandon_21 gf_X_37 (by repeat (first | exact up_self | assumption | rw [up_ne (by first | assumption | (intro q0; cases q0; done) | (intro q0; simp at q0; omega))])) ?_
    refine s_aload_n dX_abandon_24 rfl rfl ?_
    refine s_get dX_abandon_25 gf_X_235 (by repeat (first | exact up_self | assumption | rw [up_ne (by first | assumption | (intro q0; cases q0; done) | (intro q0; simp at q0; omega))])) ?_
    refine s_ialdN dX_abandon_28 (by repeat (first | exact up_self | assumption | rw [up_ne (by first | assumption | (intro q0; cases q0; done) | (intro q0; simp at q0; omega))])) (by omega) (by omega) ?_
    refine s_tv ((p3 (O - 1) (by omega)).1) ?_
    refine s_iret dX_abandon_29 rfl (by first | exact Nat.le_refl _ | decide | omega) (by first | exact Nat.le_refl _ | decide | omega) ?_
    exact ⟨rfl, fT.rf.v, O - 1, by omega, up_self, show us σ 37 0 (nI (O - 1)) 37 0 = _ from us_s⟩
theorem i32_m10 {x : Int32} (h1 : ¬ -10 < x) : ¬ -2 < x := fun q0 => h1 (by
  rw [Int32.lt_iff_toInt_lt] at q0 ⊢
  have e1 : (-2 : Int32).toInt = -2 := by decide
  have e2 : (-10 : Int32).toInt = -10 := by decide
  omega)
theorem c_X_begin {h : Hp} {σ : Sg} {own od rw0 : Nat → List Nat} {K N NS B R A O : Nat} {g : Gs} {aa tb : Int32} (p s : Int32) (M1 : mnC h aa (nI A) (nI O) tb) (X : ST h σ own od rw0 K N NS B R) (D : DY h σ N g) (IV1 : vC h σ A) (V : VP σ A B) (IP : pC h σ O) (hO : OV σ O A N)
    (hans : ∀ a s, a < A → s < N → -2 < (fPart σ rw0 a 0 s g).1 ∨ ¬ -10 < (fPart σ rw0 a 0 s g).1) :
    Con mX_begin 29 0 0 [vR (10, 0, 0), vI p, vI s] h (fun v h' => match ix p A, ix s N with
      | some a, some s => if O = 4 then v = some (vI (-3)) ∧ h' = h else v = some (vI (fPart σ rw0 a 0 s g).1) ∧ fT [10, 15, 37, 44, 45, 46, 47] h h' ∧ DY h' σ N (fPart σ rw0 a 0 s g).2 ∧ (if -2 < (fPart σ rw0 a 0 s g).1 then mnC h' aa (nI A) (nI (O + 1)) tb ∧ pC h' (us (us σ 38 O (nI a)) 39 O (nI s)) (O + 1) else mnC h' aa (nI A) (nI O) tb ∧ pC h' σ O)
      | _, _ => v = some (vI (-1)) ∧ h' = h) := by
  have M0 := M1
  unfold mnC at M1
  have hN := X.2.2.2.2.2.1.1
  have hB := X.2.2.2.2.2.2.2.2.1
  have u1 := D.2.2.1.1
  obtain ⟨hO4, e37, hO2⟩ := hO
  have hA := V.1
  refine c_enter (by decide +kernel) rfl rfl ?_
  rcases iy_cases p (K := A) (by omega) with ⟨q1, hz1⟩ | ⟨a, ha, rfl, q1⟩
  · rw [q1]
    rcases hz1 with ⟨z1, -⟩ | ⟨-, hn1⟩
    · cases z1
    · by_cases c1 : p < 0
      · refine s_iload_n dX_begin_0 rfl rfl ?_
        refine s_if_lt dX_begin_1 (fun _ => ?_) (fun q => absurd c1 q)
        refine s_iconst (v := (-1)) dX_begin_20 (by decide) ?_
        refine s_iret dX_begin_21 rfl (by first | exact Nat.le_refl _ | decide | omega) (by first | exact Nat.le_refl _ | decide | omega) ?_
        exact ⟨rfl, rfl⟩
      · refine s_iload_n dX_begin_0 rfl rfl ?_
        refine s_if_lt dX_begin_1 (fun q => absurd q c1) (fun _ => ?_)
        refine s_iload_n dX_begin_4 rfl rfl ?_
        refine s_aload_n dX_begin_5 rfl rfl ?_
        refine s_get dX_begin_6 gf_X_232 (by repeat (first | exact up_self | assumption | rw [up_ne (by first | assumption | (intro q0; cases q0; done) | (intro q0; simp at q0; omega))])) ?_
        refine s_icmp_ge dX_begin_9 (fun _ => ?_) (fun q => absurd (Int32.not_lt.mp fun z1 => hn1 ⟨Int32.not_lt.mp c1, z1⟩) q)
        refine s_iconst (v := (-1)) dX_begin_20 (by decide) ?_
        refine s_iret dX_begin_21 rfl (by first | exact Nat.le_refl _ | decide | omega) (by first | exact Nat.le_refl _ | decide | omega) ?_
        exact ⟨rfl, rfl⟩
  · rw [q1]
    rcases iy_cases s (K := N) (by omega) with ⟨q2, hz2⟩ | ⟨i, hi, rfl, q2⟩
    · rw [q2]
      refine s_iload_n dX_begin_0 rfl rfl ?_
      refine s_if_lt dX_begin_1 (fun q => absurd q (nI_nlt (b := 0) (by omega) (by omega))) (fun _ => ?_)
      refine s_iload_n dX_begin_4 rfl rfl ?_
      refine s_aload_n dX_begin_5 rfl rfl ?_
      refine s_get dX_begin_6 gf_X_232 (by repeat (first | exact up_self | assumption | rw [up_ne (by first | assumption | (intro q0; cases q0; done) | (intro q0; simp at q0; omega))])) ?_
      refine s_icmp_ge dX_begin_9 (fun q => absurd q (nI_ge ha (by omega))) (fun _ => ?_)
      refine s_aload_n dX_begin_12 rfl rfl ?_
      refine s_iload_n dX_begin_13 rfl rfl ?_
      refine s_v1 dX_begin_14 cv_X_103 (by repeat (first | exact up_self | assumption | rw [up_ne (by first | assumption | (intro q0; cases q0; done) | (intro q0; simp at q0; omega))])) (c_subjNo M0 D.1 hN hz2) (by first | rfl | exact Nat.ble_eq_true_of_le (by omega)) (by first | rfl | exact Nat.ble_eq_true_of_le (by omega)) (by first | rfl | exact Nat.ble_eq_true_of_le (by omega)) rfl ?_
      refine s_ifnonnull dX_begin_17 (fun q => by obtain ⟨_, q⟩ := q; cases q) (fun _ => ?_)
      refine s_iconst (v := (-1)) dX_begin_20 (by decide) ?_
      refine s_iret dX_begin_21 rfl (by first | exact Nat.le_refl _ | decide | omega) (by first | exact Nat.le_refl _ | decide | omega) ?_
      exact ⟨rfl, rfl⟩
    · rw [q2]
      dsimp only
      have csa := c_subjAt M0 D.1 hN hi
      by_cases c4 : O = 4
      · simp only [if_pos c4]
        refine s_iload_n dX_begin_0 rfl rfl ?_
        refine s_if_lt dX_begin_1 (fun q => absurd q (nI_nlt (b := 0) (by omega) (by omega))) (fun _ => ?_)
        refine s_iload_n dX_begin_4 rfl rfl ?_
        refine s_aload_n dX_begin_5 rfl rfl ?_
        refine s_get dX_begin_6 gf_X_232 (by repeat (first | exact up_self | assumption | rw [up_ne (by first | assumption | (intro q0; cases q0; done) | (intro q0; simp at q0; omega))])) ?_
        refine s_icmp_ge dX_begin_9 (fun q => absurd q (nI_ge ha (by omega))) (fun _ => ?_)
        refine s_aload_n dX_begin_12 rfl rfl ?_
        refine s_iload_n dX_begin_13 rfl rfl ?_
        refine s_v1 dX_begin_14 cv_X_103 (by repeat (first | exact up_self | assumption | rw [up_ne (by first | assumption | (intro q0; cases q0; done) | (intro q0; simp at q0; omega))])) (csa) (by first | rfl | exact Nat.ble_eq_true_of_le (by omega)) (by first | rfl | exact Nat.ble_eq_true_of_le (by omega)) (by first | rfl | exact Nat.ble_eq_true_of_le (by omega)) rfl ?_
        refine s_ifnonnull dX_begin_17 (fun _ => ?_) (fun q => by cases q)
        refine s_aload_n dX_begin_22 rfl rfl ?_
        refine s_get dX_begin_23 gf_X_235 (by repeat (first | exact up_self | assumption | rw [up_ne (by first | assumption | (intro q0; cases q0; done) | (intro q0; simp at q0; omega))])) ?_
        refine s_iconst (v := nI 4) dX_begin_26 (by decide) ?_
        refine s_icmp_lt dX_begin_27 (fun q => absurd q (nI_nlt (by omega) (by omega))) (fun _ => ?_)
        refine s_bipush (v := (-3)) dX_begin_30 (by decide) ?_
        refine s_iret dX_begin_32 rfl (by first | exact Nat.le_refl _ | decide | omega) (by first | exact Nat.le_refl _ | decide | omega) ?_
        exact ⟨rfl, rfl⟩
      · simp only [if_neg c4]
        have IP0 := IP
        obtain ⟨fp, gp, p1, p2, p3⟩ := IP
        obtain ⟨fv, v1, v3⟩ := IV1.at hA
        obtain ⟨j, w1, fw, w2, w3⟩ := v3 a ha
        have K54 : ∀ ob : Option Nm, ((σ 36 (3 * a + 0) = -4 ∧ ob = none) ∨ ∃ b, b < B ∧ σ 36 (3 * a + 0) = nI b ∧ ob = some (18, b, 0)) →
            S mX_begin 29 0 0 (fun v h' => v = some (vI (fPart σ rw0 a 0 i g).1) ∧ fT [10, 15, 37, 44, 45, 46, 47] h h' ∧ DY h' σ N (fPart σ rw0 a 0 i g).2 ∧ (if -2 < (fPart σ rw0 a 0 i g).1 then mnC h' aa (nI A) (nI (O + 1)) tb ∧ pC h' (us (us σ 38 O (nI a)) 39 O (nI i)) (O + 1) else mnC h' aa (nI A) (nI O) tb ∧ pC h' σ O)) 54 [some (vR (10, 0, 0)), some (vI (nI a)), some (vI (nI i)), none] [vR (14, i, 0), vO ob, vR (44, 0, 0)] h 0 0 := by
          intro ob hob
          refine s_callV (As := [_, _]) dX_begin_54 cv_X_198 (by repeat (first | exact up_self | assumption | rw [up_ne (by first | assumption | (intro q0; cases q0; done) | (intro q0; simp at q0; omega))])) (c_partA (a := a) (p := 0) X D hi hob) (by first | rfl | exact Nat.ble_eq_true_of_le (by omega)) (by first | rfl | exact Nat.ble_eq_true_of_le (by omega)) (by first | rfl | exact Nat.ble_eq_true_of_le (by omega)) rfl (fun v0 h2 q0 => ?_)
          obtain ⟨F2, D2, rfl⟩ := q0
          have ha2 := hans a i ha hi
          generalize fPart σ rw0 a 0 i g = P at D2 ha2 ⊢
          have M2 : h2 (10, 0, 0) = _ := (F2 _ (show (10 : Nat) ∉ _ by decide)).trans M1
          have p12 : h2 (37, 0, 0) = _ := (F2 _ (show (37 : Nat) ∉ _ by decide)).trans p1
          have p22 : h2 (37, 1, 0) = _ := (F2 _ (show (37 : Nat) ∉ _ by decide)).trans p2
          by_cases c1 : -10 < P.1
          · have c2 : -2 < P.1 := ha2.resolve_right (fun q0 => q0 c1)
            simp only [if_pos c2]
            refine s_istore_n dX_begin_57 rfl rfl ?_
            refine s_iload_n dX_begin_58 rfl rfl ?_
            refine s_bipush (v := (-10)) dX_begin_59 (by decide) ?_
            refine s_icmp_le dX_begin_61 (fun q => absurd q (Int32.not_le.mpr c1)) (fun _ => ?_)
            refine s_aload_n dX_begin_64 rfl rfl ?_
            refine s_get dX_begin_65 gf_X_37 (by repeat (first | exact up_self | assumption | rw [up_ne (by first | assumption | (intro q0; cases q0; done) | (intro q0; simp at q0; omega))])) ?_
            refine s_aload_n dX_begin_68 rfl rfl ?_
            refine s_get dX_begin_69 gf_X_235 (by repeat (first | exact up_self | assumption | rw [up_ne (by first | assumption | (intro q0; cases q0; done) | (intro q0; simp at q0; omega))])) ?_
            refine s_iload_n dX_begin_72 rfl rfl ?_
            refine s_iastN dX_begin_73 (by repeat (first | exact up_self | assumption | rw [up_ne (by first | assumption | (intro q0; cases q0; done) | (intro q0; simp at q0; omega))])) (by first | rfl | assumption) (by omega) (by omega) ?_
            refine s_aload_n dX_begin_74 rfl rfl ?_
            refine s_get dX_begin_75 gf_X_41 (by repeat (first | exact up_self | assumption | rw [up_ne (by first | assumption | (intro q0; cases q0; done) | (intro q0; simp at q0; omega))])) ?_
            refine s_aload_n dX_begin_78 rfl rfl ?_
            refine s_get dX_begin_79 gf_X_235 (by repeat (first | exact up_self | assumption | rw [up_ne (by first | assumption | (intro q0; cases q0; done) | (intro q0; simp at q0; omega))])) ?_
            refine s_iload_n dX_begin_82 rfl rfl ?_
            refine s_iastN dX_begin_83 (by repeat (first | exact up_self | assumption | rw [up_ne (by first | assumption | (intro q0; cases q0; done) | (intro q0; simp at q0; omega))])) (by first | rfl | assumption) (by omega) (by omega) ?_
            refine s_aload_n dX_begin_84 rfl rfl ?_
            refine s_dup dX_begin_85 rfl ?_
            refine s_get dX_begin_86 gf_X_235 (by repeat (first | exact up_self | assumption | rw [up_ne (by first | assumption | (intro q0; cases q0; done) | (intro q0; simp at q0; omega))])) ?_
            refine s_iconst (v := nI 1) dX_begin_89 (by decide) ?_
            first | refine s_iaddN dX_begin_90 ?_ | refine s_iadd dX_begin_90 ?_
            refine s_putF dX_begin_91 gf_X_235 (by repeat (first | exact up_self | assumption | rw [up_ne (by first | assumption | (intro q0; cases q0; done) | (intro q0; simp at q0; omega))])) (by first | rfl | assumption) rfl (by first | exact Or.inl rfl | exact Or.inr ⟨rfl, rfl⟩) (by first | exact ⟨_, rfl⟩ | exact Or.inl rfl | exact Or.inr rfl | assumption) ?_
            refine s_iload_n dX_begin_94 rfl rfl ?_
            refine s_iret dX_begin_95 rfl (by first | exact Nat.le_refl _ | decide | omega) (by first | exact Nat.le_refl _ | decide | omega) ?_
            have F3 : fT [10, 37] h2 (up (up (up h2 (37, 0, 0) (20, 4, upf fp O (vI (nI a)))) (37, 1, 0) (20, 4, upf gp O (vI (nI i)))) (10, 0, 0) (11, 0, fl (mnL aa (nI A) (nI (O + 1)) tb))) := ((fT.rf.v).v).v
            refine ⟨rfl, fun n q1 => ?_, ?_, up_self, upf fp O (vI (nI a)), upf gp O (vI (nI i)), ?_, ?_, fun z q1 => ?_⟩
            · exact (F3 n (fun q0 => q1 (by simp at q0; rcases q0 with q0 | q0 <;> rw [q0] <;> simp))).trans (F2 n (fun q0 => q1 (by simp at q0 ⊢; omega)))
            · obtain ⟨d1, d2, d3, d4, d5⟩ := D2
              refine ⟨d1.fr (F3.ag (by decide)) (fun _ => rfl), d2.fr (F3.ag (by decide)), d3.fr (F3.ag (by decide)), fun d q1 => ?_, d5⟩
              obtain ⟨vr1, ap1, o1⟩ := d4 d q1
              exact ⟨vr1, ap1, o1.fr (F3 _ (show (45 : Nat) ∉ [10, 37] by decide)) (F3 _ (show (46 : Nat) ∉ [10, 37] by decide))⟩
            · rw [up_ne (fun q0 => by cases q0), up_ne (fun q0 => by cases q0), up_self]
            · rw [up_ne (fun q0 => by cases q0), up_self]
            · unfold upf
              by_cases z1 : z = O
              · subst z1
                rw [if_pos rfl, if_pos rfl, us_s, us_k (by decide), us_s]
                exact ⟨rfl, rfl⟩
              · obtain ⟨y1, y2⟩ := p3 z (by omega)
                rw [if_neg z1, if_neg z1]
                refine ⟨?_, ?_⟩
                · rw [us_k (by decide), us_j z1]; exact y1
                · rw [us_j z1, us_k (by decide)]; exact y2
          · simp only [if_neg (i32_m10 c1)]
            refine s_istore_n dX_begin_57 rfl rfl ?_
            refine s_iload_n dX_begin_58 rfl rfl ?_
            refine s_bipush (v := (-10)) dX_begin_59 (by decide) ?_
            refine s_icmp_le dX_begin_61 (fun _ => ?_) (fun q => absurd (Int32.not_lt.mp c1) q)
            refine s_iload_n dX_begin_94 rfl rfl ?_
            refine s_iret dX_begin_95 rfl (by first | exact Nat.le_refl _ | decide | omega) (by first | exact Nat.le_refl _ | decide | omega) ?_
            refine ⟨rfl, fun n q1 => F2 n (fun q0 => q1 (by simp at q0 ⊢; omega)), D2, M2, fp, gp, p12, p22, p3⟩
        rcases V.2 a 0 ha (by omega) with e4 | ⟨b, hb, e4⟩
        · have hz : Iy 0 (-4) B := Or.inr ⟨rfl, fun q0 => absurd q0.1 (by decide)⟩
          refine s_iload_n dX_begin_0 rfl rfl ?_
          refine s_if_lt dX_begin_1 (fun q => absurd q (nI_nlt (b := 0) (by omega) (by omega))) (fun _ => ?_)
          refine s_iload_n dX_begin_4 rfl rfl ?_
          refine s_aload_n dX_begin_5 rfl rfl ?_
          refine s_get dX_begin_6 gf_X_232 (by repeat (first | exact up_self | assumption | rw [up_ne (by first | assumption | (intro q0; cases q0; done) | (intro q0; simp at q0; omega))])) ?_
          refine s_icmp_ge dX_begin_9 (fun q => absurd q (nI_ge ha (by omega))) (fun _ => ?_)
          refine s_aload_n dX_begin_12 rfl rfl ?_
          refine s_iload_n dX_begin_13 rfl rfl ?_
          refine s_v1 dX_begin_14 cv_X_103 (by repeat (first | exact up_self | assumption | rw [up_ne (by first | assumption | (intro q0; cases q0; done) | (intro q0; simp at q0; omega))])) (csa) (by first | rfl | exact Nat.ble_eq_true_of_le (by omega)) (by first | rfl | exact Nat.ble_eq_true_of_le (by omega)) (by first | rfl | exact Nat.ble_eq_true_of_le (by omega)) rfl ?_
          refine s_ifnonnull dX_begin_17 (fun _ => ?_) (fun q => by cases q)
          refine s_aload_n dX_begin_22 rfl rfl ?_
          refine s_get dX_begin_23 gf_X_235 (by repeat (first | exact up_self | assumption | rw [up_ne (by first | assumption | (intro q0; cases q0; done) | (intro q0; simp at q0; omega))])) ?_
          refine s_iconst (v := nI 4) dX_begin_26 (by decide) ?_
          refine s_icmp_lt dX_begin_27 (fun _ => ?_) (fun q => absurd (nI_lt (show O < 4 by omega) (by omega)) q)
          refine s_aload_n dX_begin_33 rfl rfl ?_
          refine s_get dX_begin_34 gf_X_71 (by repeat (first | exact up_self | assumption | rw [up_ne (by first | assumption | (intro q0; cases q0; done) | (intro q0; simp at q0; omega))])) ?_
          refine s_aload_n dX_begin_37 rfl rfl ?_
          refine s_aload_n dX_begin_38 rfl rfl ?_
          refine s_get dX_begin_39 gf_X_34 (by repeat (first | exact up_self | assumption | rw [up_ne (by first | assumption | (intro q0; cases q0; done) | (intro q0; simp at q0; omega))])) ?_
          refine s_iload_n dX_begin_42 rfl rfl ?_
          refine s_aaldN dX_begin_43 (by repeat (first | exact up_self | assumption | rw [up_ne (by first | assumption | (intro q0; cases q0; done) | (intro q0; simp at q0; omega))])) rfl rfl (by omega) (by omega) ?_
          refine s_tv w1 ?_
          refine s_iconst (v := 0) dX_begin_44 (by decide) ?_
          refine s_tv (show vI 0 = vI (nI 0) from rfl) ?_
          refine s_ialdN dX_begin_45 (by repeat (first | exact up_self | assumption | rw [up_ne (by first | assumption | (intro q0; cases q0; done) | (intro q0; simp at q0; omega))])) (by omega) (by omega) ?_
          refine s_tv ((w3 0 (by omega)).trans (congrArg vI e4)) ?_
          refine s_v1 dX_begin_46 cv_X_116 (by repeat (first | exact up_self | assumption | rw [up_ne (by first | assumption | (intro q0; cases q0; done) | (intro q0; simp at q0; omega))])) (c_bookNo M0 X.2.1 hB hz) (by first | rfl | exact Nat.ble_eq_true_of_le (by omega)) (by first | rfl | exact Nat.ble_eq_true_of_le (by omega)) (by first | rfl | exact Nat.ble_eq_true_of_le (by omega)) rfl ?_
          refine s_aload_n dX_begin_49 rfl rfl ?_
          refine s_iload_n dX_begin_50 rfl rfl ?_
          refine s_v1 dX_begin_51 cv_X_103 (by repeat (first | exact up_self | assumption | rw [up_ne (by first | assumption | (intro q0; cases q0; done) | (intro q0; simp at q0; omega))])) (csa) (by first | rfl | exact Nat.ble_eq_true_of_le (by omega)) (by first | rfl | exact Nat.ble_eq_true_of_le (by omega)) (by first | rfl | exact Nat.ble_eq_true_of_le (by omega)) rfl ?_
          exact K54 none (Or.inl ⟨e4, rfl⟩)
        · refine s_iload_n dX_begin_0 rfl rfl ?_
          refine s_if_lt dX_begin_1 (fun q => absurd q (nI_nlt (b := 0) (by omega) (by omega))) (fun _ => ?_)
          refine s_iload_n dX_begin_4 rfl rfl ?_
          refine s_aload_n dX_begin_5 rfl rfl ?_
          refine s_get dX_begin_6 gf_X_232 (by repeat (first | exact up_self | assumption | rw [up_ne (by first | assumption | (intro q0; cases q0; done) | (intro q0; simp at q0; omega))])) ?_
          refine s_icmp_ge dX_begin_9 (fun q => absurd q (nI_ge ha (by omega))) (fun _ => ?_)
          refine s_aload_n dX_begin_12 rfl rfl ?_
          refine s_iload_n dX_begin_13 rfl rfl ?_
          refine s_v1 dX_begin_14 cv_X_103 (by repeat (first | exact up_self | assumption | rw [up_ne (by first | assumption | (intro q0; cases q0; done) | (intro q0; simp at q0; omega))])) (csa) (by first | rfl | exact Nat.ble_eq_true_of_le (by omega)) (by first | rfl | exact Nat.ble_eq_true_of_le (by omega)) (by first | rfl | exact Nat.ble_eq_true_of_le (by omega)) rfl ?_
          refine s_ifnonnull dX_begin_17 (fun _ => ?_) (fun q => by cases q)
          refine s_aload_n dX_begin_22 rfl rfl ?_
          refine s_get dX_begin_23 gf_X_235 (by repeat (first | exact up_self | assumption | rw [up_ne (by first | assumption | (intro q0; cases q0; done) | (intro q0; simp at q0; omega))])) ?_
          refine s_iconst (v := nI 4) dX_begin_26 (by decide) ?_
          refine s_icmp_lt dX_begin_27 (fun _ => ?_) (fun q => absurd (nI_lt (show O < 4 by omega) (by omega)) q)
          refine s_aload_n dX_begin_33 rfl rfl ?_
          refine s_get dX_begin_34 gf_X_71 (by repeat (first | exact up_self | assumption | rw [up_ne (by first | assumption | (intro q0; cases q0; done) | (intro q0; simp at q0; omega))])) ?_
          refine s_aload_n dX_begin_37 rfl rfl ?_
          refine s_aload_n dX_begin_38 rfl rfl ?_
          refine s_get dX_begin_39 gf_X_34 (by repeat (first | exact up_self | assumption | rw [up_ne (by first | assumption | (intro q0; cases q0; done) | (intro q0; simp at q0; omega))])) ?_
          refine s_iload_n dX_begin_42 rfl rfl ?_
          refine s_aaldN dX_begin_43 (by repeat (first | exact up_self | assumption | rw [up_ne (by first | assumption | (intro q0; cases q0; done) | (intro q0; simp at q0; omega))])) rfl rfl (by omega) (by omega) ?_
          refine s_tv w1 ?_
          refine s_iconst (v := 0) dX_begin_44 (by decide) ?_
          refine s_tv (show vI 0 = vI (nI 0) from rfl) ?_
          refine s_ialdN dX_begin_45 (by repeat (first | exact up_self | assumption | rw [up_ne (by first | assumption | (intro q0; cases q0; done) | (intro q0; simp at q0; omega))])) (by omega) (by omega) ?_
          refine s_tv ((w3 0 (by omega)).trans (congrArg vI e4)) ?_
          refine s_v1 dX_begin_46 cv_X_116 (by repeat (first | exact up_self | assumption | rw [up_ne (by first | assumption | (intro q0; cases q0; done) | (intro q0; simp at q0; omega))])) (c_bookAt M0 X.2.1 hB hb) (by first | rfl | exact Nat.ble_eq_true_of_le (by omega)) (by first | rfl | exact Nat.ble_eq_true_of_le (by omega)) (by first | rfl | exact Nat.ble_eq_true_of_le (by omega)) rfl ?_
          refine s_aload_n dX_begin_49 rfl rfl ?_
          refine s_iload_n dX_begin_50 rfl rfl ?_
          refine s_v1 dX_begin_51 cv_X_103 (by repeat (first | exact up_self | assumption | rw [up_ne (by first | assumption | (intro q0; cases q0; done) | (intro q0; simp at q0; omega))])) (csa) (by first | rfl | exact Nat.ble_eq_true_of_le (by omega)) (by first | rfl | exact Nat.ble_eq_true_of_le (by omega)) (by first | rfl | exact Nat.ble_eq_true_of_le (by omega)) rfl ?_
          exact K54 (some (18, b, 0)) (Or.inr ⟨b, hb, e4, rfl⟩)
