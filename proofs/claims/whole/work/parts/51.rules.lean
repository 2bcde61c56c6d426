/-! rule, does, row -/
theorem srt_m9 {σ : Sg} {b : Nat} : ∀ {k x : Nat}, x ∈ srt σ b k → σ 9 x = nI b := by
  intro k
  induction k with
  | zero => intro x hx1; cases hx1
  | succ k ih1 =>
    intro x hx1
    simp only [srt] at hx1
    split at hx1
    · rename_i c0
      rcases mem_of_inI hx1 with c1 | c1
      · rw [c1]; exact c0
      · exact ih1 c1
    · exact ih1 hx1
theorem tw_cg {p q : Nat → Bool} : ∀ {l : List Nat}, (∀ x ∈ l, p x = q x) → l.takeWhile p = l.takeWhile q := by
  intro l
  induction l with
  | nil => intro _; rfl
  | cons a l ih1 =>
    intro h1
    rw [List.takeWhile_cons, List.takeWhile_cons, h1 a List.mem_cons_self, ih1 (fun x hx1 => h1 x (List.mem_cons_of_mem _ hx1))]
theorem srt_cg {σ σ' : Sg} {b : Nat} : ∀ R, (∀ r, r < R → σ' 9 r = σ 9 r) → (∀ r, r < R → σ 9 r = nI b → ky σ' r = ky σ r) → srt σ' b R = srt σ b R := by
  intro R
  induction R with
  | zero => intro _ _; rfl
  | succ R ih1 =>
    intro h9 hk
    have ih := ih1 (fun r q1 => h9 r (by omega)) (fun r q1 => hk r (by omega))
    unfold srt
    rw [ih, h9 R (by omega)]
    by_cases c1 : σ 9 R = nI b
    · rw [if_pos c1, if_pos c1]
      unfold insR
      rw [tw_cg (q := fun x => ahd σ x R) (fun x hx1 => ?_)]
      unfold ahd
      rw [hk R (by omega) c1, hk x (by have := srt_mem hx1; omega) (srt_m9 hx1)]
    · rw [if_neg c1, if_neg c1]
theorem mvS_cg {σ σ' : Sg} {r : Nat} {l : List Nat} (h1 : σ' 15 r = σ 15 r) (h2 : σ' 16 r = σ 16 r) : mvS σ' r l = mvS σ r l := by
  unfold mvS
  rw [h1, h2]
theorem foldl_eq {f1 f2 : List Nat → Nat → List Nat} : ∀ (O l : List Nat), (∀ r, r ∈ O → ∀ l, f1 l r = f2 l r) → O.foldl f1 l = O.foldl f2 l
  | [], _, _ => rfl
  | r :: O, l, h1 => by
    rw [List.foldl_cons, List.foldl_cons, h1 r List.mem_cons_self]
    exact foldl_eq O _ (fun x hx1 => h1 x (List.mem_cons_of_mem _ hx1))
theorem fold_cg {σ σ' : Sg} (O l : List Nat) (h1 : ∀ r, r ∈ O → σ' 15 r = σ 15 r ∧ σ' 16 r = σ 16 r) : O.foldl (fun l r => mvS σ' r l) l = O.foldl (fun l r => mvS σ r l) l :=
  foldl_eq O l (fun r hr1 l => mvS_cg (h1 r hr1).1 (h1 r hr1).2)
theorem rowS_cg {σ σ' : Sg} {b R : Nat} {O : List Nat} (h9 : ∀ r, r < R → σ' 9 r = σ 9 r) (hk : ∀ r, r < R → σ 9 r = nI b → ky σ' r = ky σ r) (hO : ∀ r ∈ O, σ' 15 r = σ 15 r ∧ σ' 16 r = σ 16 r) : rowS σ' b R O = rowS σ b R O := by
  unfold rowS
  rw [srt_cg R h9 hk, fold_cg O _ hO]
theorem ownL_cg {σ σ' : Sg} {b : Nat} : ∀ {R : Nat}, (∀ r, r < R → σ' 9 r = σ 9 r) → ownL σ' b R = ownL σ b R := by
  intro R
  induction R with
  | zero => intro _; rfl
  | succ R ih1 =>
    intro h9
    rw [ownL_succ, ownL_succ, ih1 (fun r q1 => h9 r (by omega)), h9 R (by omega)]
/-- what a rule's key shows -/
theorem ky_cg1 {σ σ' : Sg} {r : Nat} (h1 : rv σ σ' r) (hm : nt (σ 13 r) ≤ 4) (hd : ∀ x, dpt σ' 20 x = dpt σ 20 x ∨ ¬ ∃ k, k < nt (σ 13 r) ∧ σ 12 (12 * r + 3 * k) = 0 ∧ nt (σ 12 (12 * r + 3 * k + 1)) = x) : dps σ' r (nt (σ 13 r)) = dps σ r (nt (σ 13 r)) ∧ ky σ' r = ky σ r := by
  obtain ⟨v1, v2, v3, v4, v5, v6, v7, v8⟩ := h1
  have e1 : ∀ m, m ≤ nt (σ 13 r) → dps σ' r m = dps σ r m := by
    intro m
    induction m with
    | zero => intro _; rfl
    | succ m ih1 =>
      intro hm1
      unfold dps
      rw [ih1 (by omega)]
      congr 1
      unfold dp1
      rw [v8 (3 * m) (by omega), show 12 * r + 3 * m + 1 = 12 * r + (3 * m + 1) by omega, v8 (3 * m + 1) (by omega)]
      by_cases c1 : σ 12 (12 * r + 3 * m) = 0
      · rw [if_pos c1, if_pos c1]
        rcases hd (nt (σ 12 (12 * r + (3 * m + 1)))) with q1 | q1
        · exact q1
        · exact absurd ⟨m, by omega, c1, by rw [show 12 * r + 3 * m + 1 = 12 * r + (3 * m + 1) by omega]⟩ q1
      · rw [if_neg c1, if_neg c1]
  refine ⟨e1 _ (Nat.le_refl _), ?_⟩
  unfold ky
  rw [v2, v3, v4, e1 _ (Nat.le_refl _)]
theorem c_Rule_init {h : Hp} {r : Nat} {n s p : Int32} {ow : Nm} (e1 : h (28, r, 0) = some (5, 0, fl [vI 0, vN, vI 0, vI 0, vN, vI 0, vI 0, vI 0, vI 0, vI 0, vN])) (e2 : h (29, r, 0) = none) :
    Con mRule_init 4 1 3 [vR (28, r, 0), vI n, vR ow, vI s, vI p] h (fun v h' => v = none ∧ h' = up (up h (29, r, 0) (13, 0, fl [vR (1, 0, 0), vI 0, vI 0])) (28, r, 0) (5, 0, fl [vI n, vR ow, vI s, vI p, vR (29, r, 0), vI 0, vI 0, vI 0, vI 0, vI 0, vN])) := by
  refine c_enter (by decide +kernel) rfl rfl ?_
  refine s_aload_n dRule_init_0 rfl rfl ?_
  refine s_objInit dRule_init_1 ob_Rule_3 rfl rfl ?_
  refine s_aload_n dRule_init_4 rfl rfl ?_
  refine s_newF ((29, r, 0)) ([vN, vI 0, vI 0]) dRule_init_5 nw_Rule_9 rfl (by first | rfl | assumption) e2 rfl rfl ?_
  refine s_dup dRule_init_8 rfl ?_
  refine s_callI (As := []) dRule_init_9 ci_Rule_11 (c_ALi up_self rfl) (by first | rfl | exact Nat.ble_eq_true_of_le (by omega)) (by first | rfl | exact Nat.ble_eq_true_of_le (by omega)) (by first | rfl | exact Nat.ble_eq_true_of_le (by omega)) rfl (fun v0 h2 q0 => ?_)
  obtain ⟨rfl, rfl⟩ := q0
  refine s_putF dRule_init_12 gf_Rule_12 (by repeat (first | exact up_self | assumption | rw [up_ne (by first | assumption | (intro q0; cases q0; done) | (intro q0; simp at q0; omega))])) (by first | rfl | assumption) rfl (by first | exact Or.inl rfl | exact Or.inr ⟨rfl, rfl⟩) (by first | exact ⟨_, rfl⟩ | exact Or.inl rfl | exact Or.inr rfl | assumption) ?_
  refine s_aload_n dRule_init_15 rfl rfl ?_
  refine s_iconst (v := 0) dRule_init_16 (by decide) ?_
  refine s_putF dRule_init_17 gf_Rule_18 (by repeat (first | exact up_self | assumption | rw [up_ne (by first | assumption | (intro q0; cases q0; done) | (intro q0; simp at q0; omega))])) (by first | rfl | assumption) rfl (by first | exact Or.inl rfl | exact Or.inr ⟨rfl, rfl⟩) (by first | exact ⟨_, rfl⟩ | exact Or.inl rfl | exact Or.inr rfl | assumption) ?_
  refine s_aload_n dRule_init_20 rfl rfl ?_
  refine s_iload_n dRule_init_21 rfl rfl ?_
  refine s_putF dRule_init_22 gf_Rule_22 (by repeat (first | exact up_self | assumption | rw [up_ne (by first | assumption | (intro q0; cases q0; done) | (intro q0; simp at q0; omega))])) (by first | rfl | assumption) rfl (by first | exact Or.inl rfl | exact Or.inr ⟨rfl, rfl⟩) (by first | exact ⟨_, rfl⟩ | exact Or.inl rfl | exact Or.inr rfl | assumption) ?_
  refine s_aload_n dRule_init_25 rfl rfl ?_
  refine s_aload_n dRule_init_26 rfl rfl ?_
  refine s_putF dRule_init_27 gf_Rule_25 (by repeat (first | exact up_self | assumption | rw [up_ne (by first | assumption | (intro q0; cases q0; done) | (intro q0; simp at q0; omega))])) (by first | rfl | assumption) rfl (by first | exact Or.inl rfl | exact Or.inr ⟨rfl, rfl⟩) (by first | exact ⟨_, rfl⟩ | exact Or.inl rfl | exact Or.inr rfl | assumption) ?_
  refine s_aload_n dRule_init_30 rfl rfl ?_
  refine s_iload_n dRule_init_31 rfl rfl ?_
  refine s_putF dRule_init_32 gf_Rule_29 (by repeat (first | exact up_self | assumption | rw [up_ne (by first | assumption | (intro q0; cases q0; done) | (intro q0; simp at q0; omega))])) (by first | rfl | assumption) rfl (by first | exact Or.inl rfl | exact Or.inr ⟨rfl, rfl⟩) (by first | exact ⟨_, rfl⟩ | exact Or.inl rfl | exact Or.inr rfl | assumption) ?_
  refine s_aload_n dRule_init_35 rfl rfl ?_
  refine s_iload dRule_init_36 rfl ?_
  refine s_putF dRule_init_38 gf_Rule_32 (by repeat (first | exact up_self | assumption | rw [up_ne (by first | assumption | (intro q0; cases q0; done) | (intro q0; simp at q0; omega))])) (by first | rfl | assumption) rfl (by first | exact Or.inl rfl | exact Or.inr ⟨rfl, rfl⟩) (by first | exact ⟨_, rfl⟩ | exact Or.inl rfl | exact Or.inr rfl | assumption) ?_
  refine s_vret dRule_init_41 rfl (by first | exact Nat.le_refl _ | decide | omega) (by first | exact Nat.le_refl _ | decide | omega) ?_
  refine ⟨rfl, ?_⟩
  simp only [up_up]
  rfl
/-- the rules and their books go together -/
def brC (h : Hp) (σ : Sg) (B R : Nat) (od : Nat → List Nat) : Prop := bC h σ B (fun b => ownL σ b R) od (fun b => rowS σ b R (od b)) ∧ rC h σ R
def odK (σ : Sg) (R : Nat) (od : Nat → List Nat) : Prop := ∀ b, (∀ r ∈ od b, r < R ∧ ¬ σ 15 r = -4 ∧ σ 9 r = nI b) ∧ (od b).Nodup
theorem odK.len {σ : Sg} {R b : Nat} {od : Nat → List Nat} (h1 : odK σ R od) : (od b).length ≤ R := nd_len R _ (h1 b).2 (fun x hx1 => ((h1 b).1 x hx1).1)
theorem RK.add {σ : Sg} {R K b s p : Nat} (L : RK σ R K) (hR : R < 60) (hs : s < 3) (hp : p < 10) (hz : σ 13 R = 0) : RK (us (us (us (us (us σ 9 R (nI b)) 10 R (nI s)) 11 R (nI p)) 15 R (-4)) 8 0 (nI (R + 1))) (R + 1) K := by
  refine ⟨by omega, fun r hr1 => ?_⟩
  by_cases c1 : r = R
  · subst c1
    refine ⟨⟨s, by omega, ?_⟩, ⟨p, by omega, ?_⟩, 0, by omega, ?_, fun k q1 => by omega⟩
    · rw [us_k (by decide), us_k (by decide), us_k (by decide), us_s]
    · rw [us_k (by decide), us_k (by decide), us_s]
    · rw [us_k (by decide), us_k (by decide), us_k (by decide), us_k (by decide), us_k (by decide), hz]; rfl
  · have l1 := L.2 r (by omega)
    have e10 : us (us (us (us (us σ 9 R (nI b)) 10 R (nI s)) 11 R (nI p)) 15 R (-4)) 8 0 (nI (R + 1)) 10 r = σ 10 r := by rw [us_k (by decide), us_k (by decide), us_k (by decide), us_j c1, us_k (by decide)]
    have e11 : us (us (us (us (us σ 9 R (nI b)) 10 R (nI s)) 11 R (nI p)) 15 R (-4)) 8 0 (nI (R + 1)) 11 r = σ 11 r := by rw [us_k (by decide), us_k (by decide), us_j c1, us_k (by decide), us_k (by decide)]
    have e12 : ∀ k, us (us (us (us (us σ 9 R (nI b)) 10 R (nI s)) 11 R (nI p)) 15 R (-4)) 8 0 (nI (R + 1)) 12 k = σ 12 k := fun k => by rw [us_k (by decide), us_k (by decide), us_k (by decide), us_k (by decide), us_k (by decide)]
    have e13 : ∀ k, us (us (us (us (us σ 9 R (nI b)) 10 R (nI s)) 11 R (nI p)) 15 R (-4)) 8 0 (nI (R + 1)) 13 k = σ 13 k := fun k => by rw [us_k (by decide), us_k (by decide), us_k (by decide), us_k (by decide), us_k (by decide)]
    simp only [e10, e11, e12, e13]
    exact l1
theorem OP.add {σ : Sg} {R b s p : Nat} (O1 : OP σ R) : OP (us (us (us (us (us σ 9 R (nI b)) 10 R (nI s)) 11 R (nI p)) 15 R (-4)) 8 0 (nI (R + 1))) (R + 1) := by
  intro r hr1 h15
  by_cases c1 : r = R
  · subst c1
    exact absurd (by rw [us_k (by decide), us_s]) h15
  · have e15 : us (us (us (us (us σ 9 R (nI b)) 10 R (nI s)) 11 R (nI p)) 15 R (-4)) 8 0 (nI (R + 1)) 15 r = σ 15 r := by rw [us_k (by decide), us_j c1, us_k (by decide), us_k (by decide), us_k (by decide)]
    have e16 : us (us (us (us (us σ 9 R (nI b)) 10 R (nI s)) 11 R (nI p)) 15 R (-4)) 8 0 (nI (R + 1)) 16 r = σ 16 r := by rw [us_k (by decide), us_k (by decide), us_k (by decide), us_k (by decide), us_k (by decide)]
    rw [e15] at h15 ⊢
    rw [e16]
    obtain ⟨w, q1, q2, q3⟩ := O1 r (by omega) h15
    refine ⟨w, q1, q2, fun z1 => ?_⟩
    obtain ⟨o, q4, q5, q6⟩ := q3 z1
    exact ⟨o, by omega, q5, q6⟩
theorem c_X_rule {h : Hp} {σ : Sg} {B R K : Nat} {od : Nat → List Nat} {a v o tb : Int32} (p s q : Int32) (M1 : mnC h a v o tb) (I : brC h σ B R od) (P : KP σ K) (L1 : RK σ R K) (O1 : OP σ R) (hod : odK σ R od) (hB : B ≤ 12) (h8 : σ 8 0 = nI R) (hz13 : σ 13 R = 0) (hz14 : ∀ i, 3 * R ≤ i → σ 14 i = 0) :
    Con mX_rule 10 124 8924 [vR (10, 0, 0), vI p, vI s, vI q] h (fun v h' => v = some (vI (fRule σ p s q B R).1) ∧ fT [20, 21, 24, 25, 26, 27, 28, 29] h h' ∧ ∃ R', brC h' (fRule σ p s q B R).2 B R' od ∧ (fRule σ p s q B R).2 8 0 = nI R' ∧ R' ≤ 60) := by
  have hR := L1.1
  have M0 := M1
  unfold mnC at M1
  have I0 := I
  obtain ⟨Ib, Ir⟩ := I
  have csr := c_size Ir.1
  rw [nmL_len] at csr
  obtain ⟨cap, z, f, er, -⟩ := id Ir.1
  unfold fRule
  refine c_enter (by decide +kernel) rfl rfl ?_
  rcases iy_cases p (K := B) (by omega) with ⟨q1, hz1⟩ | ⟨j, hj, rfl, q1⟩
  · rw [q1]
    refine s_aload_n dX_rule_0 rfl rfl ?_
    refine s_iload_n dX_rule_1 rfl rfl ?_
    refine s_v1 dX_rule_2 cv_X_116 (by repeat (first | exact up_self | assumption | rw [up_ne (by first | assumption | (intro q0; cases q0; done) | (intro q0; simp at q0; omega))])) (c_bookNo M0 Ib hB hz1) rfl rfl rfl rfl ?_
    refine s_astore dX_rule_5 rfl ?_
    refine s_aload dX_rule_7 rfl ?_
    refine s_ifnull dX_rule_9 (fun _ => ?_) (fun q => by obtain ⟨_, q⟩ := q; cases q)
    refine s_iconst (v := (-1)) dX_rule_31 (by decide) ?_
    refine s_iret dX_rule_32 rfl (by first | exact Nat.le_refl _ | decide | omega) (by first | exact Nat.le_refl _ | decide | omega) ?_
    exact ⟨rfl, fT.rf, R, I0, h8, hR⟩
  · rw [q1]
    obtain ⟨d1, d2, d4, d5, d6⟩ := id (Ib.2.1 j hj)
    have cba := c_bookAt M0 Ib hB hj
    rcases iy_cases s (K := 3) (by omega) with ⟨q2, hz1⟩ | ⟨sn, hs, rfl, q2⟩
    · rw [q2]
      rcases hz1 with ⟨z1, -⟩ | ⟨-, hn1⟩
      · cases z1
      · by_cases c1 : s < 0
        · refine s_aload_n dX_rule_0 rfl rfl ?_
          refine s_iload_n dX_rule_1 rfl rfl ?_
          refine s_v1 dX_rule_2 cv_X_116 (by repeat (first | exact up_self | assumption | rw [up_ne (by first | assumption | (intro q0; cases q0; done) | (intro q0; simp at q0; omega))])) (cba) rfl rfl rfl rfl ?_
          refine s_astore dX_rule_5 rfl ?_
          refine s_aload dX_rule_7 rfl ?_
          refine s_ifnull dX_rule_9 (fun q => by cases q) (fun _ => ?_)
          refine s_iload_n dX_rule_12 rfl rfl ?_
          refine s_if_lt dX_rule_13 (fun _ => ?_) (fun q => absurd c1 q)
          refine s_iconst (v := (-1)) dX_rule_31 (by decide) ?_
          refine s_iret dX_rule_32 rfl (by first | exact Nat.le_refl _ | decide | omega) (by first | exact Nat.le_refl _ | decide | omega) ?_
          exact ⟨rfl, fT.rf, R, I0, h8, hR⟩
        · have c2 : nI 2 < s := by
            have c3 : nI 3 ≤ s := Int32.not_lt.mp fun z1 => hn1 ⟨Int32.not_lt.mp c1, z1⟩
            rw [Int32.le_iff_toInt_le] at c3
            rw [Int32.lt_iff_toInt_lt]
            rw [nI_toInt (by omega)] at c3 ⊢
            omega
          refine s_aload_n dX_rule_0 rfl rfl ?_
          refine s_iload_n dX_rule_1 rfl rfl ?_
          refine s_v1 dX_rule_2 cv_X_116 (by repeat (first | exact up_self | assumption | rw [up_ne (by first | assumption | (intro q0; cases q0; done) | (intro q0; simp at q0; omega))])) (cba) rfl rfl rfl rfl ?_
          refine s_astore dX_rule_5 rfl ?_
          refine s_aload dX_rule_7 rfl ?_
          refine s_ifnull dX_rule_9 (fun q => by cases q) (fun _ => ?_)
          refine s_iload_n dX_rule_12 rfl rfl ?_
          refine s_if_lt dX_rule_13 (fun q => absurd q c1) (fun _ => ?_)
          refine s_iload_n dX_rule_16 rfl rfl ?_
          refine s_iconst (v := nI 2) dX_rule_17 (by decide) ?_
          refine s_icmp_gt dX_rule_18 (fun _ => ?_) (fun q => absurd c2 q)
          refine s_iconst (v := (-1)) dX_rule_31 (by decide) ?_
          refine s_iret dX_rule_32 rfl (by first | exact Nat.le_refl _ | decide | omega) (by first | exact Nat.le_refl _ | decide | omega) ?_
          exact ⟨rfl, fT.rf, R, I0, h8, hR⟩
    · rw [q2]
      rcases iy_cases q (K := 10) (by omega) with ⟨q3, hz1⟩ | ⟨qn, hq, rfl, q3⟩
      · rw [q3]
        rcases hz1 with ⟨z1, -⟩ | ⟨-, hn1⟩
        · cases z1
        · by_cases c1 : q < 0
          · refine s_aload_n dX_rule_0 rfl rfl ?_
            refine s_iload_n dX_rule_1 rfl rfl ?_
            refine s_v1 dX_rule_2 cv_X_116 (by repeat (first | exact up_self | assumption | rw [up_ne (by first | assumption | (intro q0; cases q0; done) | (intro q0; simp at q0; omega))])) (cba) rfl rfl rfl rfl ?_
            refine s_astore dX_rule_5 rfl ?_
            refine s_aload dX_rule_7 rfl ?_
            refine s_ifnull dX_rule_9 (fun q => by cases q) (fun _ => ?_)
            refine s_iload_n dX_rule_12 rfl rfl ?_
            refine s_if_lt dX_rule_13 (fun q => absurd q (nI_nlt (b := 0) (by omega) (by omega))) (fun _ => ?_)
            refine s_iload_n dX_rule_16 rfl rfl ?_
            refine s_iconst (v := nI 2) dX_rule_17 (by decide) ?_
            refine s_icmp_gt dX_rule_18 (fun q => absurd q (nI_nlt (by omega) (by omega))) (fun _ => ?_)
            refine s_iload_n dX_rule_21 rfl rfl ?_
            refine s_if_lt dX_rule_22 (fun _ => ?_) (fun q => absurd c1 q)
            refine s_iconst (v := (-1)) dX_rule_31 (by decide) ?_
            refine s_iret dX_rule_32 rfl (by first | exact Nat.le_refl _ | decide | omega) (by first | exact Nat.le_refl _ | decide | omega) ?_
            exact ⟨rfl, fT.rf, R, I0, h8, hR⟩
          · have c2 : nI 9 < q := by
              have c3 : nI 10 ≤ q := Int32.not_lt.mp fun z1 => hn1 ⟨Int32.not_lt.mp c1, z1⟩
              rw [Int32.le_iff_toInt_le] at c3
              rw [Int32.lt_iff_toInt_lt]
              rw [nI_toInt (by omega)] at c3 ⊢
              omega
            refine s_aload_n dX_rule_0 rfl rfl ?_
            refine s_iload_n dX_rule_1 rfl rfl ?_
            refine s_v1 dX_rule_2 cv_X_116 (by repeat (first | exact up_self | assumption | rw [up_ne (by first | assumption | (intro q0; cases q0; done) | (intro q0; simp at q0; omega))])) (cba) rfl rfl rfl rfl ?_
            refine s_astore dX_rule_5 rfl ?_
            refine s_aload dX_rule_7 rfl ?_
            refine s_ifnull dX_rule_9 (fun q => by cases q) (fun _ => ?_)
            refine s_iload_n dX_rule_12 rfl rfl ?_
            refine s_if_lt dX_rule_13 (fun q => absurd q (nI_nlt (b := 0) (by omega) (by omega))) (fun _ => ?_)
            refine s_iload_n dX_rule_16 rfl rfl ?_
            refine s_iconst (v := nI 2) dX_rule_17 (by decide) ?_
            refine s_icmp_gt dX_rule_18 (fun q => absurd q (nI_nlt (by omega) (by omega))) (fun _ => ?_)
            refine s_iload_n dX_rule_21 rfl rfl ?_
            refine s_if_lt dX_rule_22 (fun q => absurd q c1) (fun _ => ?_)
            refine s_iload_n dX_rule_25 rfl rfl ?_
            refine s_bipush (v := nI 9) dX_rule_26 (by decide) ?_
            refine s_icmp_le dX_rule_28 (fun q => absurd q (Int32.not_le.mpr c2)) (fun _ => ?_)
            refine s_iconst (v := (-1)) dX_rule_31 (by decide) ?_
            refine s_iret dX_rule_32 rfl (by first | exact Nat.le_refl _ | decide | omega) (by first | exact Nat.le_refl _ | decide | omega) ?_
            exact ⟨rfl, fT.rf, R, I0, h8, hR⟩
      · rw [q3]
        dsimp only
        by_cases c60 : R = 60
        · refine s_aload_n dX_rule_0 rfl rfl ?_
          refine s_iload_n dX_rule_1 rfl rfl ?_
          refine s_v1 dX_rule_2 cv_X_116 (by repeat (first | exact up_self | assumption | rw [up_ne (by first | assumption | (intro q0; cases q0; done) | (intro q0; simp at q0; omega))])) (cba) rfl rfl rfl rfl ?_
          refine s_astore dX_rule_5 rfl ?_
          refine s_aload dX_rule_7 rfl ?_
          refine s_ifnull dX_rule_9 (fun q => by cases q) (fun _ => ?_)
          refine s_iload_n dX_rule_12 rfl rfl ?_
          refine s_if_lt dX_rule_13 (fun q => absurd q (nI_nlt (b := 0) (by omega) (by omega))) (fun _ => ?_)
          refine s_iload_n dX_rule_16 rfl rfl ?_
          refine s_iconst (v := nI 2) dX_rule_17 (by decide) ?_
          refine s_icmp_gt dX_rule_18 (fun q => absurd q (nI_nlt (by omega) (by omega))) (fun _ => ?_)
          refine s_iload_n dX_rule_21 rfl rfl ?_
          refine s_if_lt dX_rule_22 (fun q => absurd q (nI_nlt (b := 0) (by omega) (by omega))) (fun _ => ?_)
          refine s_iload_n dX_rule_25 rfl rfl ?_
          refine s_bipush (v := nI 9) dX_rule_26 (by decide) ?_
          refine s_icmp_le dX_rule_28 (fun _ => ?_) (fun q => absurd (nI_le (by omega) (by omega)) q)
          refine s_aload_n dX_rule_33 rfl rfl ?_
          refine s_get dX_rule_34 gf_X_26 (by repeat (first | exact up_self | assumption | rw [up_ne (by first | assumption | (intro q0; cases q0; done) | (intro q0; simp at q0; omega))])) ?_
          refine s_v0 dX_rule_37 cv_X_91 (by repeat (first | exact up_self | assumption | rw [up_ne (by first | assumption | (intro q0; cases q0; done) | (intro q0; simp at q0; omega))])) (csr) rfl rfl rfl rfl ?_
          refine s_bipush (v := nI 60) dX_rule_40 (by decide) ?_
          refine s_icmp_lt dX_rule_42 (fun q => absurd q (nI_nlt (by omega) (by omega))) (fun _ => ?_)
          refine s_bipush (v := (-3)) dX_rule_45 (by decide) ?_
          refine s_iret dX_rule_47 rfl (by first | exact Nat.le_refl _ | decide | omega) (by first | exact Nat.le_refl _ | decide | omega) ?_
          rw [if_pos c60]
          exact ⟨rfl, fT.rf, R, I0, h8, hR⟩
        · rw [if_neg c60]
          dsimp only
          have nn := Ir.2.2 R (Nat.le_refl _)
          have n1 := nn 28 (by omega) (by omega) 0
          have n2 : up h (28, R, 0) (5, 0, fl [vI 0, vN, vI 0, vI 0, vN, vI 0, vI 0, vI 0, vI 0, vI 0, vN]) (29, R, 0) = none := by rw [up_ne (fun q0 => by cases q0)]; exact nn 29 (by omega) (by omega) 0
          have w1 : up h (28, R, 0) (5, 0, fl [vI 0, vN, vI 0, vI 0, vN, vI 0, vI 0, vI 0, vI 0, vI 0, vN]) (10, 0, 0) = some (11, 0, fl (mnL a v o tb)) := by rw [up_ne (fun q0 => by cases q0)]; exact M1
          have L26 : LsT (up h (28, R, 0) (5, 0, fl [vI 0, vN, vI 0, vI 0, vN, vI 0, vI 0, vI 0, vI 0, vI 0, vN])) (26, 0, 0) (nmL 28 R) := Ir.1.at (by rw [up_ne (fun q0 => by cases q0)]) (fun c => by rw [up_ne (fun q0 => by cases q0)])
          have csr2 := c_size L26
          rw [nmL_len] at csr2
          obtain ⟨cap2, z2, f2, er2, -⟩ := id L26
          refine s_aload_n dX_rule_0 rfl rfl ?_
          refine s_iload_n dX_rule_1 rfl rfl ?_
          refine s_v1 dX_rule_2 cv_X_116 (by repeat (first | exact up_self | assumption | rw [up_ne (by first | assumption | (intro q0; cases q0; done) | (intro q0; simp at q0; omega))])) (cba) rfl rfl rfl rfl ?_
          refine s_astore dX_rule_5 rfl ?_
          refine s_aload dX_rule_7 rfl ?_
          refine s_ifnull dX_rule_9 (fun q => by cases q) (fun _ => ?_)
          refine s_iload_n dX_rule_12 rfl rfl ?_
          refine s_if_lt dX_rule_13 (fun q => absurd q (nI_nlt (b := 0) (by omega) (by omega))) (fun _ => ?_)
          refine s_iload_n dX_rule_16 rfl rfl ?_
          refine s_iconst (v := nI 2) dX_rule_17 (by decide) ?_
          refine s_icmp_gt dX_rule_18 (fun q => absurd q (nI_nlt (by omega) (by omega))) (fun _ => ?_)
          refine s_iload_n dX_rule_21 rfl rfl ?_
          refine s_if_lt dX_rule_22 (fun q => absurd q (nI_nlt (b := 0) (by omega) (by omega))) (fun _ => ?_)
          refine s_iload_n dX_rule_25 rfl rfl ?_
          refine s_bipush (v := nI 9) dX_rule_26 (by decide) ?_
          refine s_icmp_le dX_rule_28 (fun _ => ?_) (fun q => absurd (nI_le (by omega) (by omega)) q)
          refine s_aload_n dX_rule_33 rfl rfl ?_
          refine s_get dX_rule_34 gf_X_26 (by repeat (first | exact up_self | assumption | rw [up_ne (by first | assumption | (intro q0; cases q0; done) | (intro q0; simp at q0; omega))])) ?_
          refine s_v0 dX_rule_37 cv_X_91 (by repeat (first | exact up_self | assumption | rw [up_ne (by first | assumption | (intro q0; cases q0; done) | (intro q0; simp at q0; omega))])) (csr) rfl rfl rfl rfl ?_
          refine s_bipush (v := nI 60) dX_rule_40 (by decide) ?_
          refine s_icmp_lt dX_rule_42 (fun _ => ?_) (fun q => absurd (nI_lt (show R < 60 by omega) (by omega)) q)
          refine s_newF ((28, R, 0)) ([vI 0, vN, vI 0, vI 0, vN, vI 0, vI 0, vI 0, vI 0, vI 0, vN]) dX_rule_48 nw_X_123 rfl (by first | rfl | assumption) n1 rfl rfl ?_
          refine s_dup dX_rule_51 rfl ?_
          refine s_aload_n dX_rule_52 rfl rfl ?_
          refine s_get dX_rule_53 gf_X_26 (by repeat (first | exact up_self | assumption | rw [up_ne (by first | assumption | (intro q0; cases q0; done) | (intro q0; simp at q0; omega))])) ?_
          refine s_callV (As := []) dX_rule_56 cv_X_91 (by repeat (first | exact up_self | assumption | rw [up_ne (by first | assumption | (intro q0; cases q0; done) | (intro q0; simp at q0; omega))])) (csr2) (by first | rfl | exact Nat.ble_eq_true_of_le (by omega)) (by first | rfl | exact Nat.ble_eq_true_of_le (by omega)) (by first | rfl | exact Nat.ble_eq_true_of_le (by omega)) rfl (fun v0 hx q0 => ?_)
          obtain ⟨rfl, rfl⟩ := q0
          refine s_aload dX_rule_59 rfl ?_
          refine s_iload_n dX_rule_61 rfl rfl ?_
          refine s_iload_n dX_rule_62 rfl rfl ?_
          refine s_callI (As := [_, _, _, _]) dX_rule_63 ci_X_125 (c_Rule_init (n := nI R) (ow := (18, j, 0)) (s := nI sn) (p := nI qn) up_self n2) (by first | rfl | exact Nat.ble_eq_true_of_le (by omega)) (by first | rfl | exact Nat.ble_eq_true_of_le (by omega)) (by first | rfl | exact Nat.ble_eq_true_of_le (by omega)) rfl (fun v0 h2 q0 => ?_)
          obtain ⟨rfl, rfl⟩ := q0
          -- the new rule's cells
          have G1 : up (up (up h (28, R, 0) (5, 0, fl [vI 0, vN, vI 0, vI 0, vN, vI 0, vI 0, vI 0, vI 0, vI 0, vN])) (29, R, 0) (13, 0, fl [vR (1, 0, 0), vI 0, vI 0])) (28, R, 0) (5, 0, fl [vI (nI R), vR (18, j, 0), vI (nI sn), vI (nI qn), vR (29, R, 0), vI 0, vI 0, vI 0, vI 0, vI 0, vN]) (28, R, 0) = some (5, 0, fl [vI (nI R), vR (18, j, 0), vI (nI sn), vI (nI qn), vR (29, R, 0), vI 0, vI 0, vI 0, vI 0, vI 0, vN]) := up_self
          have G2 : up (up (up h (28, R, 0) (5, 0, fl [vI 0, vN, vI 0, vI 0, vN, vI 0, vI 0, vI 0, vI 0, vI 0, vN])) (29, R, 0) (13, 0, fl [vR (1, 0, 0), vI 0, vI 0])) (28, R, 0) (5, 0, fl [vI (nI R), vR (18, j, 0), vI (nI sn), vI (nI qn), vR (29, R, 0), vI 0, vI 0, vI 0, vI 0, vI 0, vN]) (29, R, 0) = some (13, 0, fl [vR (1, 0, 0), vI 0, vI 0]) := by rw [up_ne (fun q0 => by cases q0), up_self]
          have G3 : ∀ n, n ≠ (28, R, 0) → n ≠ (29, R, 0) → up (up (up h (28, R, 0) (5, 0, fl [vI 0, vN, vI 0, vI 0, vN, vI 0, vI 0, vI 0, vI 0, vI 0, vN])) (29, R, 0) (13, 0, fl [vR (1, 0, 0), vI 0, vI 0])) (28, R, 0) (5, 0, fl [vI (nI R), vR (18, j, 0), vI (nI sn), vI (nI qn), vR (29, R, 0), vI 0, vI 0, vI 0, vI 0, vI 0, vN]) n = h n := fun n a1 a2 => by rw [up_ne a1, up_ne a2, up_ne a1]
          refine s_hp (h' := up (up (up h (28, R, 0) (5, 0, fl [vI 0, vN, vI 0, vI 0, vN, vI 0, vI 0, vI 0, vI 0, vI 0, vN])) (29, R, 0) (13, 0, fl [vR (1, 0, 0), vI 0, vI 0])) (28, R, 0) (5, 0, fl [vI (nI R), vR (18, j, 0), vI (nI sn), vI (nI qn), vR (29, R, 0), vI 0, vI 0, vI 0, vI 0, vI 0, vN])) rfl ?_
          generalize up (up (up h (28, R, 0) (5, 0, fl [vI 0, vN, vI 0, vI 0, vN, vI 0, vI 0, vI 0, vI 0, vI 0, vN])) (29, R, 0) (13, 0, fl [vR (1, 0, 0), vI 0, vI 0])) (28, R, 0) (5, 0, fl [vI (nI R), vR (18, j, 0), vI (nI sn), vI (nI qn), vR (29, R, 0), vI 0, vI 0, vI 0, vI 0, vI 0, vN]) = h3 at G1 G2 G3 ⊢
          have G4 : ∀ t r c, t ≠ 28 ∧ t ≠ 29 ∨ r ≠ R ∨ c ≠ 0 → h3 (t, r, c) = h (t, r, c) := fun t r c a1 => G3 _ (fun q0 => by simp at q0; omega) (fun q0 => by simp at q0; omega)
          have M3 : h3 (10, 0, 0) = some (11, 0, fl (mnL a v o tb)) := (G4 _ _ _ (by omega)).trans M1
          have L3 : LsT h3 (26, 0, 0) (nmL 28 R) := Ir.1.at (G4 _ _ _ (by omega)) (fun c => G4 _ _ _ (by omega))
          have EL3 : EL (26, 0, 0) h3 (nmL 28 R) := fun x hx1 => by
            obtain ⟨r, a1, rfl⟩ := nmL_mem hx1
            obtain ⟨⟨b0, hw0, mk0, -, -, e0, -⟩, -⟩ := Ir.2.1 r a1
            exact ⟨show (28 : Nat) ≠ 26 by decide, show (28 : Nat) ≠ 27 by decide, 5, _, by unfold isE; omega, (G4 28 r 0 (by omega)).trans e0⟩
          have OB3 : OBJ (26, 0, 0) h3 (28, R, 0) := ⟨show (28 : Nat) ≠ 26 by decide, show (28 : Nat) ≠ 27 by decide, 5, _, by unfold isE; omega, G1⟩
          obtain ⟨cap3, z3, f3, er3, -⟩ := id L3
          refine s_astore dX_rule_66 rfl ?_
          refine s_aload_n dX_rule_68 rfl rfl ?_
          refine s_get dX_rule_69 gf_X_26 (by repeat (first | exact up_self | assumption | rw [up_ne (by first | assumption | (intro q0; cases q0; done) | (intro q0; simp at q0; omega))])) ?_
          refine s_aload dX_rule_72 rfl ?_
          refine s_callV (As := [_]) dX_rule_74 cv_X_100 (by repeat (first | exact up_self | assumption | rw [up_ne (by first | assumption | (intro q0; cases q0; done) | (intro q0; simp at q0; omega))])) (c_add L3 (by rw [nmL_len]; omega) EL3 OB3 rfl) (by first | rfl | exact Nat.ble_eq_true_of_le (by omega)) (by first | rfl | exact Nat.ble_eq_true_of_le (by omega)) (by first | rfl | exact Nat.ble_eq_true_of_le (by omega)) rfl (fun v0 h4 q0 => ?_)
          obtain ⟨rfl, b1, b2⟩ := q0
          refine s_pop dX_rule_77 rfl ?_
          refine s_aload dX_rule_78 rfl ?_
          refine s_aload dX_rule_80 rfl ?_
          rw [nmL_add] at b1
          have H4 : ∀ t r c, t ≠ 26 ∧ t ≠ 27 → h4 (t, r, c) = h3 (t, r, c) := fun t r c a1 => b2.o (by omega) (by omega)
          -- the state behind
          generalize hτ : us (us (us (us (us σ 9 R (nI j)) 10 R (nI sn)) 11 R (nI qn)) 15 R (-4)) 8 0 (nI (R + 1)) = τ
          have L1' : RK τ (R + 1) K := by rw [← hτ]; exact L1.add (by omega) hs hq hz13
          have O1' : OP τ (R + 1) := by rw [← hτ]; exact O1.add
          have τo : ∀ k i, (k ≠ 8 ∧ k ≠ 9 ∧ k ≠ 10 ∧ k ≠ 11 ∧ k ≠ 15) ∨ (k ≠ 8 ∧ i ≠ R) → τ k i = σ k i := fun k i a1 => by
            rw [← hτ]
            rw [us_o (by omega), us_o (by omega), us_o (by omega), us_o (by omega), us_o (by omega)]
          have τ9 : τ 9 R = nI j := by rw [← hτ, us_k (by decide), us_k (by decide), us_k (by decide), us_k (by decide), us_s]
          have τ10 : τ 10 R = nI sn := by rw [← hτ, us_k (by decide), us_k (by decide), us_k (by decide), us_s]
          have τ11 : τ 11 R = nI qn := by rw [← hτ, us_k (by decide), us_k (by decide), us_s]
          have τ15 : τ 15 R = -4 := by rw [← hτ, us_k (by decide), us_s]
          have τ8 : τ 8 0 = nI (R + 1) := by rw [← hτ, us_s]
          have P' : KP τ K := ⟨P.1, P.2.1, by rw [τo 1 0 (by omega)]; exact P.2.2.1, fun i a1 a2 => by rw [τo 1 i (by omega)]; exact P.2.2.2 i a1 a2⟩
          have rv1 : ∀ r, r < R → rv σ τ r := fun r a1 => ⟨τo _ _ (by omega), τo _ _ (by omega), τo _ _ (by omega), τo _ _ (by omega), τo _ _ (by omega), τo _ _ (by omega), fun i _ => τo _ _ (by omega), fun i _ => τo _ _ (by omega)⟩
          have m4 : ∀ r, r < R → nt (σ 13 r) ≤ 4 := fun r a1 => by
            obtain ⟨-, -, m, a2, a3, -⟩ := L1.2 r a1
            rw [a3, nt_nI (by omega)]; exact a2
          have kyE : ∀ r, r < R → dps τ r (nt (σ 13 r)) = dps σ r (nt (σ 13 r)) ∧ ky τ r = ky σ r := fun r a1 => ky_cg1 (rv1 r a1) (m4 r a1) (fun x => Or.inl (dpt_cg (fun i => τo 1 i (by omega)) 20 x))
          have Ir4 : rC h4 τ (R + 1) := by
            refine ⟨b1, fun r a1 => ?_, fun r a1 t a2 a3 c => ?_⟩
            · by_cases c1 : r = R
              · subst c1
                have e13 : nt (τ 13 r) = 0 := by rw [τo 13 r (by omega), hz13]; rfl
                refine ⟨⟨j, 0, none, τ9, by omega, ?_, fun z1 => absurd τ15 z1⟩, ?_, fun k => ⟨fun z1 => by omega, fun _ => ?_⟩⟩
                · rw [H4 _ _ _ (by omega), G1]
                  unfold ruL
                  rw [τ10, τ11, e13, τo 14 (3 * r) (by omega), τo 14 (3 * r + 1) (by omega), τo 14 (3 * r + 2) (by omega), hz14 _ (by omega), hz14 _ (by omega), hz14 _ (by omega)]
                  rfl
                · rw [e13]
                  refine LsT.nil (by rw [H4 _ _ _ (by omega)]; exact G2) (fun c => ?_)
                  show h4 (30, r, c) = none
                  rw [H4 _ _ _ (by omega), G4 _ _ _ (by omega)]
                  exact nn 30 (by omega) (by omega) c
                · rw [H4 _ _ _ (by omega), G4 _ _ _ (by omega)]
                  exact nn 31 (by omega) (by omega) k
              · exact (Ir.2.1 r (by omega)).fr (m4 r (by omega)) (fun t c a2 a3 => by rw [H4 _ _ _ (by omega), G4 _ _ _ (by omega)]) (rv1 r (by omega)) (kyE r (by omega)).1
            · rw [H4 _ _ _ (by omega), G4 _ _ _ (by omega)]
              exact Ir.2.2 r (by omega) t a2 a3 c
          have own1 : ∀ b, ownL τ b R = ownL σ b R := fun b => ownL_cg (fun r a1 => τo _ _ (by omega))
          have srt1 : ∀ b, srt τ b R = srt σ b R := fun b => srt_cg R (fun r a1 => τo _ _ (by omega)) (fun r a1 _ => (kyE r a1).2)
          have bk4 : h4 (18, j, 0) = _ := ((H4 _ _ _ (by omega)).trans (G4 _ _ _ (by omega))).trans d1
          have hod4 : ∀ b, ∀ r ∈ od b, r < R + 1 ∧ ¬ τ 15 r = -4 := fun b r a1 => by
            obtain ⟨a2, a3, -⟩ := (hod b).1 r a1
            exact ⟨by omega, by rw [τo 15 r (by omega)]; exact a3⟩
          have RR : rL (ownL σ j R) = rL (ownL σ j R) := rfl
          have elo : ownL σ j R ++ [R] = ownL τ j (R + 1) := by rw [ownL_succ, if_pos τ9, own1]
          have d4' : LsT h4 (20, j, 0) (rL (ownL σ j R)) := d4.at ((H4 _ _ _ (by omega)).trans (G4 _ _ _ (by omega))) (fun c => (H4 _ _ _ (by omega)).trans (G4 _ _ _ (by omega)))
          have d5' : LsT h4 (22, j, 0) (rL (od j)) := d5.at ((H4 _ _ _ (by omega)).trans (G4 _ _ _ (by omega))) (fun c => (H4 _ _ _ (by omega)).trans (G4 _ _ _ (by omega)))
          have d6' : LsT h4 (24, j, 0) (rL (rowS σ j R (od j))) := d6.at ((H4 _ _ _ (by omega)).trans (G4 _ _ _ (by omega))) (fun c => (H4 _ _ _ (by omega)).trans (G4 _ _ _ (by omega)))
          have hlen := hod.len (b := j)
          have cr4 : h4 (28, R, 0) = _ := (H4 _ _ _ (by omega)).trans G1
          refine s_callV (As := [_]) dX_rule_82 cv_X_128 (by repeat (first | exact up_self | assumption | rw [up_ne (by first | assumption | (intro q0; cases q0; done) | (intro q0; simp at q0; omega))])) (c_takeRule (σ := τ) (R := R + 1) (O := od j) bk4 Ir4 P' L1' O1' d4' (fun x a1 => by have := ownL_mem a1; omega) (by omega) elo d5' d6' (hod4 j) (by omega)) (by first | rfl | exact Nat.ble_eq_true_of_le (by omega)) (by first | rfl | exact Nat.ble_eq_true_of_le (by omega)) (by first | rfl | exact Nat.ble_eq_true_of_le (by omega)) rfl (fun v0 h5 q0 => ?_)
          obtain ⟨rfl, t1, t2, t3⟩ := q0
          refine s_aload dX_rule_85 rfl ?_
          have cr5 : h5 (28, R, 0) = _ := (t3 _ _ _ (by omega)).trans cr4
          refine s_get dX_rule_87 gf_X_132 (by repeat (first | exact up_self | assumption | rw [up_ne (by first | assumption | (intro q0; cases q0; done) | (intro q0; simp at q0; omega))])) ?_
          refine s_iret dX_rule_90 rfl (by first | exact Nat.le_refl _ | decide | omega) (by first | exact Nat.le_refl _ | decide | omega) ?_
          have H5 : ∀ t r c, (t ≠ 20 ∧ t ≠ 21 ∧ t ≠ 24 ∧ t ≠ 25) ∨ r ≠ j → h5 (t, r, c) = h4 (t, r, c) := t3
          have fr : fT [20, 21, 24, 25, 26, 27, 28, 29] h h5 := fun n a1 => by
            obtain ⟨t, r, c⟩ := n
            simp at a1
            rw [H5 _ _ _ (by omega), H4 _ _ _ (by omega), G4 _ _ _ (by omega)]
          refine ⟨rfl, fr, R + 1, ⟨⟨?_, fun b a1 => ?_, fun b a1 t a2 a3 c => ?_⟩, ?_⟩, τ8, by omega⟩
          · exact Ib.1.at (fr _ (show (16 : Nat) ∉ _ by decide)) (fun c => fr _ (show (17 : Nat) ∉ _ by decide))
          · by_cases c1 : b = j
            · subst c1
              obtain ⟨fx, d2a, d2b⟩ := d2
              refine ⟨?_, ⟨fx, ?_, fun x a2 => ?_⟩, t1, ?_, t2⟩
              · rw [H5 _ _ _ (by omega), bk4, τo 6 b (by omega)]
              · rw [H5 _ _ _ (by omega), H4 _ _ _ (by omega), G4 _ _ _ (by omega)]; exact d2a
              · rw [τo 7 _ (by omega)]; exact d2b x a2
              · exact d5'.at (H5 _ _ _ (by omega)) (fun c => H5 _ _ _ (by omega))
            · have e1 : ownL τ b (R + 1) = ownL σ b R := by rw [ownL_succ, if_neg (by rw [τ9]; exact nI_ne (fun z1 => c1 z1.symm) (by omega) (by omega)), own1]
              have e2 : rowS τ b (R + 1) (od b) = rowS σ b R (od b) := by
                have e3 : srt τ b (R + 1) = srt σ b R := by
                  show (if τ 9 R = nI b then insR τ R (srt τ b R) else srt τ b R) = _
                  rw [if_neg (by rw [τ9]; exact nI_ne (fun z1 => c1 z1.symm) (by omega) (by omega)), srt1]
                unfold rowS
                rw [e3, fold_cg (od b) _ (fun r a2 => by
                  have := ((hod b).1 r a2).1
                  exact ⟨τo _ _ (by omega), τo _ _ (by omega)⟩)]
              dsimp only
              rw [e1, e2]
              exact (Ib.2.1 b a1).fr (fun t c a2 a3 => by rw [H5 _ _ _ (by omega), H4 _ _ _ (by omega), G4 _ _ _ (by omega)]) (τo _ _ (by omega)) (fun i => τo _ _ (by omega))
          · rw [H5 _ _ _ (by omega), H4 _ _ _ (by omega), G4 _ _ _ (by omega)]
            exact Ib.2.2 b a1 t a2 a3 c
          · obtain ⟨w1, w2, w3⟩ := Ir4
            refine ⟨w1.at (H5 _ _ _ (by omega)) (fun c => H5 _ _ _ (by omega)), fun r a1 => ?_, fun r a1 t a2 a3 c => by rw [H5 _ _ _ (by omega)]; exact w3 r a1 t a2 a3 c⟩
            obtain ⟨⟨b0, hw0, mk0, x1, x2, x3, x4⟩, x5, x6⟩ := w2 r a1
            exact ⟨⟨b0, hw0, mk0, x1, x2, by rw [H5 _ _ _ (by omega)]; exact x3, x4⟩, x5.at (H5 _ _ _ (by omega)) (fun c => H5 _ _ _ (by omega)), fun k => by rw [H5 _ _ _ (by omega)]; exact x6 k⟩
