/-! condition, does, order -/
theorem nI_inj {a b : Nat} (ha : a < 2 ^ 30) (hb : b < 2 ^ 30) (h1 : nI a = nI b) : a = b := (nI_eq (by omega) (by omega)).mp h1
theorem brC.mk {h h' : Hp} {σ τ : Sg} {B R b : Nat} {od od' : Nat → List Nat} (I : brC h σ B R od) (hB : B ≤ 12) (hb : b < B)
    (H : ∀ t r c, 16 ≤ t → t ≤ 25 → (t < 22 ∨ r ≠ b) → h' (t, r, c) = h (t, r, c)) (e6 : ∀ i, τ 6 i = σ 6 i) (e7 : ∀ i, τ 7 i = σ 7 i) (e9 : ∀ r, r < R → τ 9 r = σ 9 r)
    (eo : ∀ b', b' ≠ b → od' b' = od b') (er : ∀ b', b' ≠ b → b' < 12 → rowS τ b' R (od b') = rowS σ b' R (od b'))
    (L22 : LsT h' (22, b, 0) (rL (od' b))) (L24 : LsT h' (24, b, 0) (rL (rowS τ b R (od' b)))) (Ir : rC h' τ R) : brC h' τ B R od' := by
  obtain ⟨⟨i1, i2, i3⟩, -⟩ := I
  refine ⟨⟨i1.at (H _ _ _ (by omega) (by omega) (by omega)) (fun c => H _ _ _ (by omega) (by omega) (by omega)), fun b' a1 => ?_, fun b' a1 t a2 a3 c => ?_⟩, Ir⟩
  · obtain ⟨d1, ⟨fx, d2, d3⟩, d4, d5, d6⟩ := i2 b' a1
    have g1 : h' (18, b', 0) = some (0, 0, fl [vI (τ 6 b'), vR (19, b', 0), vR (20, b', 0), vR (22, b', 0), vR (24, b', 0)]) := by rw [H _ _ _ (by omega) (by omega) (by omega), e6]; exact d1
    have g2 : h' (19, b', 0) = some (20, 4, fx) := by rw [H _ _ _ (by omega) (by omega) (by omega)]; exact d2
    have g3 : LsT h' (20, b', 0) (rL (ownL τ b' R)) := by
      rw [ownL_cg e9]
      exact d4.at (H _ _ _ (by omega) (by omega) (by omega)) (fun c => H _ _ _ (by omega) (by omega) (by omega))
    refine ⟨g1, ⟨fx, g2, fun x a2 => by rw [e7]; exact d3 x a2⟩, g3, ?_⟩
    by_cases c1 : b' = b
    · subst c1
      exact ⟨L22, L24⟩
    · dsimp only
      rw [eo b' c1, er b' c1 (by omega)]
      exact ⟨d5.at (H _ _ _ (by omega) (by omega) (by omega)) (fun c => H _ _ _ (by omega) (by omega) (by omega)), d6.at (H _ _ _ (by omega) (by omega) (by omega)) (fun c => H _ _ _ (by omega) (by omega) (by omega))⟩
  · rw [H _ _ _ (by omega) (by omega) (by omega)]
    exact i3 b' a1 t a2 a3 c
abbrev tcS (σ : Sg) (j m : Nat) (c x y : Int32) : Sg := us (us (us (us σ 12 (12 * j + 3 * m) c) 12 (12 * j + 3 * m + 1) x) 12 (12 * j + 3 * m + 2) y) 13 j (nI (m + 1))
theorem tcS_o {σ : Sg} {j m : Nat} {c x y : Int32} {k i : Nat} (h1 : k ≠ 12) (h2 : k ≠ 13) : tcS σ j m c x y k i = σ k i := by
  unfold tcS
  rw [us_k h2, us_k h1, us_k h1, us_k h1]
theorem tcS_12 {σ : Sg} {j m : Nat} {c x y : Int32} {i : Nat} (h1 : i ≠ 12 * j + 3 * m) (h2 : i ≠ 12 * j + 3 * m + 1) (h3 : i ≠ 12 * j + 3 * m + 2) : tcS σ j m c x y 12 i = σ 12 i := by
  unfold tcS
  rw [us_k (by decide), us_j h3, us_j h2, us_j h1]
theorem tcS_12a {σ : Sg} {j m : Nat} {c x y : Int32} : tcS σ j m c x y 12 (12 * j + 3 * m) = c := by
  unfold tcS
  rw [us_k (by decide), us_j (by omega), us_j (by omega), us_s]
theorem tcS_12b {σ : Sg} {j m : Nat} {c x y : Int32} : tcS σ j m c x y 12 (12 * j + 3 * m + 1) = x := by
  unfold tcS
  rw [us_k (by decide), us_j (by omega), us_s]
theorem tcS_12c {σ : Sg} {j m : Nat} {c x y : Int32} : tcS σ j m c x y 12 (12 * j + 3 * m + 2) = y := by
  unfold tcS
  rw [us_k (by decide), us_s]
theorem tcS_13 {σ : Sg} {j m r : Nat} {c x y : Int32} (h1 : r ≠ j) : tcS σ j m c x y 13 r = σ 13 r := by
  unfold tcS
  rw [us_j h1, us_k (by decide), us_k (by decide), us_k (by decide)]
theorem RK.cond {σ : Sg} {R K j m : Nat} {c x y : Int32} (L : RK σ R K) (em : σ 13 j = nI m) (hm : m < 4) (hx : c = 0 → ∃ i, i < K ∧ x = nI i) : RK (tcS σ j m c x y) R K := by
  refine ⟨L.1, fun r hr1 => ?_⟩
  obtain ⟨l1, l2, m0, l3, l4, l5⟩ := L.2 r hr1
  rw [tcS_o (by decide) (by decide), tcS_o (by decide) (by decide)]
  refine ⟨l1, l2, ?_⟩
  by_cases c1 : r = j
  · subst c1
    have e1 : m0 = m := nI_inj (by omega) (by omega) (l4.symm.trans em)
    subst e1
    refine ⟨m0 + 1, by omega, us_s, fun k hk1 hk2 => ?_⟩
    by_cases c2 : k = m0
    · subst c2
      rw [tcS_12a] at hk2
      rw [tcS_12b]
      exact hx hk2
    · rw [tcS_12 (by omega) (by omega) (by omega)] at hk2 ⊢
      exact l5 k (by omega) hk2
  · refine ⟨m0, l3, by rw [tcS_13 c1]; exact l4, fun k hk1 hk2 => ?_⟩
    rw [tcS_12 (by omega) (by omega) (by omega)] at hk2 ⊢
    exact l5 k hk1 hk2
theorem cnL_get {r m k : Nat} (hk : k < m) : (cnL r m)[k]? = some (31, r, k) := by simp [cnL, hk]
theorem cnL_len {r m : Nat} : (cnL r m).length = m := by simp [cnL]
theorem cnL_mem {r m : Nat} {x : Nm} (hx : x ∈ cnL r m) : ∃ k, k < m ∧ x = (31, r, k) := by
  simp only [cnL, List.mem_map, List.mem_range] at hx
  obtain ⟨i, h1, h2⟩ := hx
  exact ⟨i, h1, h2.symm⟩
theorem cnL_add {r m : Nat} : cnL r m ++ [(31, r, m)] = cnL r (m + 1) := by simp [cnL, List.range_succ]
theorem dps_tc {σ : Sg} {j m : Nat} {c x y : Int32} (hm : m < 4) : dps (tcS σ j m c x y) j (m + 1) = dps σ j m + (if c = 0 then dpt σ 20 (nt x) else 0) := by
  have e1 : ∀ k, k ≤ m → dps (tcS σ j m c x y) j k = dps σ j k := by
    intro k
    induction k with
    | zero => intro _; rfl
    | succ k ih1 =>
      intro hk1
      unfold dps
      rw [ih1 (by omega)]
      congr 1
      unfold dp1
      rw [tcS_12 (by omega) (by omega) (by omega), tcS_12 (by omega) (by omega) (by omega), dpt_cg (fun i => tcS_o (by decide) (by decide))]
  show dps (tcS σ j m c x y) j m + dp1 (tcS σ j m c x y) j m = _
  rw [e1 m (Nat.le_refl _)]
  unfold dp1
  rw [tcS_12a, tcS_12b, dpt_cg (fun i => tcS_o (by decide) (by decide))]
theorem cdX_0 {σ : Sg} {j : Nat} {x : Int32} {K R NS : Nat} (hK : K ≤ 20) (h1 : cdX σ 0 j x K R NS = true) : ∃ i, i < K ∧ x = nI i := by
  rcases iy_cases x (K := K) (by omega) with ⟨q1, -⟩ | ⟨i, hi, e1, -⟩
  · simp [cdX, q1] at h1
  · exact ⟨i, hi, e1⟩
theorem c_X_condition {h : Hp} {σ : Sg} {B R K NS : Nat} {od : Nat → List Nat} {a v o tb : Int32} (p c x y : Int32) (M1 : mnC h a v o tb) (I : brC h σ B R od) (Ik : kC h σ K) (In : nC h σ NS) (hNS : NS ≤ 8) (P : KP σ K) (L1 : RK σ R K) (O1 : OP σ R) (hod : odK σ R od) (hB : B ≤ 12) (h9 : ∀ r, r < R → ∃ c, c < B ∧ σ 9 r = nI c) :
    Con mX_condition 9 122 8837 [vR (10, 0, 0), vI p, vI c, vI x, vI y] h (fun v h' => v = some (vI (fCond σ p c x y K R NS).1) ∧ fT [24, 25, 28, 29, 30, 31] h h' ∧ brC h' (fCond σ p c x y K R NS).2 B R od) := by
  have hR := L1.1
  have M0 := M1
  unfold mnC at M1
  have I0 := I
  obtain ⟨Ib, Ir⟩ := I
  have hK := P.2.1
  have ek := Ik.1
  unfold fCond
  refine c_enter (by decide +kernel) rfl rfl ?_
  rcases iy_cases p (K := R) (by omega) with ⟨q1, hz1⟩ | ⟨j, hj, rfl, q1⟩
  · rw [q1]
    refine s_aload_n dX_condition_0 rfl rfl ?_
    refine s_iload_n dX_condition_1 rfl rfl ?_
    refine s_v1 dX_condition_2 cv_X_135 (by repeat (first | exact up_self | assumption | rw [up_ne (by first | assumption | (intro q0; cases q0; done) | (intro q0; simp at q0; omega))])) (c_ruleNo M0 Ir hR hz1) rfl rfl rfl rfl ?_
    refine s_astore dX_condition_5 rfl ?_
    refine s_aload dX_condition_7 rfl ?_
    refine s_ifnull dX_condition_9 (fun _ => ?_) (fun q => by obtain ⟨_, q⟩ := q; cases q)
    refine s_iconst (v := (-1)) dX_condition_23 (by decide) ?_
    refine s_iret dX_condition_24 rfl (by first | exact Nat.le_refl _ | decide | omega) (by first | exact Nat.le_refl _ | decide | omega) ?_
    exact ⟨rfl, fT.rf, I0⟩
  · rw [q1]
    have cra := c_ruleAt M0 Ir hR hj
    have cis := c_isCond c x M0 Ik hK In hNS Ir hR hj
    rcases cd_cases c with ⟨n, bc, rfl, hn, hb, hb6, hbs, ecd⟩ | ⟨ecd, -⟩
    · rw [ecd] at cis ⊢
      dsimp only at cis ⊢
      cases ecx : cdX σ bc j x K R NS with
      | false =>
        rw [ecx] at cis
        refine s_aload_n dX_condition_0 rfl rfl ?_
        refine s_iload_n dX_condition_1 rfl rfl ?_
        refine s_v1 dX_condition_2 cv_X_135 (by repeat (first | exact up_self | assumption | rw [up_ne (by first | assumption | (intro q0; cases q0; done) | (intro q0; simp at q0; omega))])) (cra) rfl rfl rfl rfl ?_
        refine s_astore dX_condition_5 rfl ?_
        refine s_aload dX_condition_7 rfl ?_
        refine s_ifnull dX_condition_9 (fun q => by cases q) (fun _ => ?_)
        refine s_aload_n dX_condition_12 rfl rfl ?_
        refine s_aload dX_condition_13 rfl ?_
        refine s_iload_n dX_condition_15 rfl rfl ?_
        refine s_iload_n dX_condition_16 rfl rfl ?_
        refine s_v3 dX_condition_17 cv_X_139 (by repeat (first | exact up_self | assumption | rw [up_ne (by first | assumption | (intro q0; cases q0; done) | (intro q0; simp at q0; omega))])) (cis) rfl rfl rfl rfl ?_
        refine s_if_ne dX_condition_20 (fun q => absurd rfl q) (fun _ => ?_)
        refine s_iconst (v := (-1)) dX_condition_23 (by decide) ?_
        refine s_iret dX_condition_24 rfl (by first | exact Nat.le_refl _ | decide | omega) (by first | exact Nat.le_refl _ | decide | omega) ?_
        exact ⟨rfl, fT.rf, I0⟩
      | true =>
        rw [ecx] at cis
        rw [if_pos rfl]
        obtain ⟨⟨b, hw, mk, eb, hb12, er, ehw⟩, r2, r3⟩ := id (Ir.2.1 j hj)
        obtain ⟨-, -, m, hm, em, -⟩ := L1.2 j hj
        have em0 : nt (σ 13 j) = m := by rw [em, nt_nI (by omega)]
        rw [em0] at r2 r3 ⊢
        have hbB : b < B := by
          obtain ⟨b1, h1, h2⟩ := h9 j hj
          have : b = b1 := nI_inj (by omega) (by omega) (eb.symm.trans h2)
          omega
        unfold ruL at er
        rw [em0] at er
        have css := c_size r2
        rw [cnL_len] at css
        obtain ⟨cap, z, f, el, -⟩ := id r2
        by_cases c4 : m = 4
        · rw [if_pos c4]
          refine s_aload_n dX_condition_0 rfl rfl ?_
          refine s_iload_n dX_condition_1 rfl rfl ?_
          refine s_v1 dX_condition_2 cv_X_135 (by repeat (first | exact up_self | assumption | rw [up_ne (by first | assumption | (intro q0; cases q0; done) | (intro q0; simp at q0; omega))])) (cra) rfl rfl rfl rfl ?_
          refine s_astore dX_condition_5 rfl ?_
          refine s_aload dX_condition_7 rfl ?_
          refine s_ifnull dX_condition_9 (fun q => by cases q) (fun _ => ?_)
          refine s_aload_n dX_condition_12 rfl rfl ?_
          refine s_aload dX_condition_13 rfl ?_
          refine s_iload_n dX_condition_15 rfl rfl ?_
          refine s_iload_n dX_condition_16 rfl rfl ?_
          refine s_v3 dX_condition_17 cv_X_139 (by repeat (first | exact up_self | assumption | rw [up_ne (by first | assumption | (intro q0; cases q0; done) | (intro q0; simp at q0; omega))])) (cis) rfl rfl rfl rfl ?_
          refine s_if_ne dX_condition_20 (fun _ => ?_) (fun q => absurd q (by decide))
          refine s_aload dX_condition_25 rfl ?_
          refine s_get dX_condition_27 gf_X_143 (by repeat (first | exact up_self | assumption | rw [up_ne (by first | assumption | (intro q0; cases q0; done) | (intro q0; simp at q0; omega))])) ?_
          refine s_v0 dX_condition_30 cv_X_91 (by repeat (first | exact up_self | assumption | rw [up_ne (by first | assumption | (intro q0; cases q0; done) | (intro q0; simp at q0; omega))])) (css) rfl rfl rfl rfl ?_
          refine s_iconst (v := nI 4) dX_condition_33 (by decide) ?_
          refine s_icmp_lt dX_condition_34 (fun q => absurd q (nI_nlt (by omega) (by omega))) (fun _ => ?_)
          refine s_bipush (v := (-3)) dX_condition_37 (by decide) ?_
          refine s_iret dX_condition_39 rfl (by first | exact Nat.le_refl _ | decide | omega) (by first | exact Nat.le_refl _ | decide | omega) ?_
          exact ⟨rfl, fT.rf, I0⟩
        · rw [if_neg c4]
          dsimp only
          have n1 := (r3 m).2 (Nat.le_refl _)
          have w29 : up (up h (31, j, m) (1, 0, fl [vI 0, vI 0, vI 0, vI 0])) (31, j, m) (1, 0, fl [vI (nI (bs n)), vI (zi (decide (10 ≤ n))), vI x, vI y]) (29, j, 0) = h (29, j, 0) := by rw [up_ne (fun q0 => by cases q0), up_ne (fun q0 => by cases q0)]
          refine s_aload_n dX_condition_0 rfl rfl ?_
          refine s_iload_n dX_condition_1 rfl rfl ?_
          refine s_v1 dX_condition_2 cv_X_135 (by repeat (first | exact up_self | assumption | rw [up_ne (by first | assumption | (intro q0; cases q0; done) | (intro q0; simp at q0; omega))])) (cra) rfl rfl rfl rfl ?_
          refine s_astore dX_condition_5 rfl ?_
          refine s_aload dX_condition_7 rfl ?_
          refine s_ifnull dX_condition_9 (fun q => by cases q) (fun _ => ?_)
          refine s_aload_n dX_condition_12 rfl rfl ?_
          refine s_aload dX_condition_13 rfl ?_
          refine s_iload_n dX_condition_15 rfl rfl ?_
          refine s_iload_n dX_condition_16 rfl rfl ?_
          refine s_v3 dX_condition_17 cv_X_139 (by repeat (first | exact up_self | assumption | rw [up_ne (by first | assumption | (intro q0; cases q0; done) | (intro q0; simp at q0; omega))])) (cis) rfl rfl rfl rfl ?_
          refine s_if_ne dX_condition_20 (fun _ => ?_) (fun q => absurd q (by decide))
          refine s_aload dX_condition_25 rfl ?_
          refine s_get dX_condition_27 gf_X_143 (by repeat (first | exact up_self | assumption | rw [up_ne (by first | assumption | (intro q0; cases q0; done) | (intro q0; simp at q0; omega))])) ?_
          refine s_v0 dX_condition_30 cv_X_91 (by repeat (first | exact up_self | assumption | rw [up_ne (by first | assumption | (intro q0; cases q0; done) | (intro q0; simp at q0; omega))])) (css) rfl rfl rfl rfl ?_
          refine s_iconst (v := nI 4) dX_condition_33 (by decide) ?_
          refine s_icmp_lt dX_condition_34 (fun _ => ?_) (fun q => absurd (nI_lt (show m < 4 by omega) (by omega)) q)
          refine s_aload dX_condition_40 rfl ?_
          refine s_get dX_condition_42 gf_X_143 (by repeat (first | exact up_self | assumption | rw [up_ne (by first | assumption | (intro q0; cases q0; done) | (intro q0; simp at q0; omega))])) ?_
          refine s_newF ((31, j, m)) ([vI 0, vI 0, vI 0, vI 0]) dX_condition_45 nw_X_146 rfl (by first | rfl | assumption) n1 rfl rfl ?_
          refine s_dup dX_condition_48 rfl ?_
          refine s_iload_n dX_condition_49 rfl rfl ?_
          refine s_iload_n dX_condition_50 rfl rfl ?_
          refine s_iload dX_condition_51 rfl ?_
          refine s_callI (As := [_, _, _]) dX_condition_53 ci_X_148 (c_Cond_init (x := x) (y := y) up_self hn) (by first | rfl | exact Nat.ble_eq_true_of_le (by omega)) (by first | rfl | exact Nat.ble_eq_true_of_le (by omega)) (by first | rfl | exact Nat.ble_eq_true_of_le (by omega)) rfl (fun v0 h2 q0 => ?_)
          obtain ⟨rfl, rfl⟩ := q0
          have G3 : ∀ n0, n0 ≠ (31, j, m) → up (up h (31, j, m) (1, 0, fl [vI 0, vI 0, vI 0, vI 0])) (31, j, m) (1, 0, fl [vI (nI (bs n)), vI (zi (decide (10 ≤ n))), vI x, vI y]) n0 = h n0 := fun n0 a1 => by rw [up_ne a1, up_ne a1]
          have G1 : up (up h (31, j, m) (1, 0, fl [vI 0, vI 0, vI 0, vI 0])) (31, j, m) (1, 0, fl [vI (nI (bs n)), vI (zi (decide (10 ≤ n))), vI x, vI y]) (31, j, m) = some (1, 0, fl [vI (nI (bs n)), vI (zi (decide (10 ≤ n))), vI x, vI y]) := up_self
          generalize up (up h (31, j, m) (1, 0, fl [vI 0, vI 0, vI 0, vI 0])) (31, j, m) (1, 0, fl [vI (nI (bs n)), vI (zi (decide (10 ≤ n))), vI x, vI y]) = h3 at G1 G3 ⊢
          have G4 : ∀ t r c, t ≠ 31 ∨ r ≠ j ∨ c ≠ m → h3 (t, r, c) = h (t, r, c) := fun t r c a1 => G3 _ (fun q0 => by simp at q0; omega)
          have L3 : LsT h3 (29, j, 0) (cnL j m) := r2.at (G4 _ _ _ (by omega)) (fun c => G4 _ _ _ (by omega))
          have EL3 : EL (29, j, 0) h3 (cnL j m) := fun x hx1 => by
            obtain ⟨k, a1, rfl⟩ := cnL_mem hx1
            exact ⟨show (31 : Nat) ≠ 29 by decide, show (31 : Nat) ≠ 30 by decide, 1, _, by unfold isE; omega, (G4 31 j k (by omega)).trans ((r3 k).1 a1)⟩
          have OB3 : OBJ (29, j, 0) h3 (31, j, m) := ⟨show (31 : Nat) ≠ 29 by decide, show (31 : Nat) ≠ 30 by decide, 1, _, by unfold isE; omega, G1⟩
          have el3 : h3 (29, j, 0) = _ := (G4 _ _ _ (by omega)).trans el
          refine s_callV (As := [_]) dX_condition_56 cv_X_100 (by repeat (first | exact up_self | assumption | rw [up_ne (by first | assumption | (intro q0; cases q0; done) | (intro q0; simp at q0; omega))])) (c_add L3 (by rw [cnL_len]; omega) EL3 OB3 rfl) (by first | rfl | exact Nat.ble_eq_true_of_le (by omega)) (by first | rfl | exact Nat.ble_eq_true_of_le (by omega)) (by first | rfl | exact Nat.ble_eq_true_of_le (by omega)) rfl (fun v0 h4 q0 => ?_)
          obtain ⟨rfl, b1, b2⟩ := q0
          refine s_pop dX_condition_59 rfl ?_
          rw [cnL_add] at b1
          have H4 : ∀ t r c, (t ≠ 29 ∧ t ≠ 30) ∨ r ≠ j → h4 (t, r, c) = h3 (t, r, c) := fun t r c a1 => b2 _ (fun q0 => by simp at q0; omega) (fun q z1 => by simp [eld] at z1; omega)
          -- behind the sum of DEEP
          have K82 : ∀ h5 : Hp, h5 (28, j, 0) = some (5, 0, fl [vI (nI j), vR (18, b, 0), vI (σ 10 j), vI (σ 11 j), vR (29, j, 0), vI (nI (dps (tcS σ j m (nI n) x y) j (m + 1))), vI (σ 14 (3 * j)), vI (σ 14 (3 * j + 1)), vI (σ 14 (3 * j + 2)), vI hw, vO mk]) → (∀ n0, n0 ≠ (28, j, 0) → h5 n0 = h4 n0) →
              S mX_condition 9 122 8837 (fun v h' => v = some (vI (nI (m + 1))) ∧ fT [24, 25, 28, 29, 30, 31] h h' ∧ brC h' (tcS σ j m (nI n) x y) B R od) 82 [some (vR (10, 0, 0)), some (vI (nI j)), some (vI (nI n)), some (vI x), some (vI y), some (vR (28, j, 0))] [] h5 2 77 := by
            intro h5 f1 f2
            have L1' : RK (tcS σ j m (nI n) x y) R K := L1.cond em (by omega) (fun z1 => by
              have en : n = 0 := nI_inj (b := 0) (by omega) (by omega) z1
              subst en
              have eb0 : bc = 0 := by omega
              subst eb0
              exact cdX_0 hK ecx)
            have τo : ∀ k i, k ≠ 12 → k ≠ 13 → tcS σ j m (nI n) x y k i = σ k i := fun k i a1 a2 => tcS_o a1 a2
            have τ13 : tcS σ j m (nI n) x y 13 j = nI (m + 1) := us_s
            have P' : KP (tcS σ j m (nI n) x y) K := ⟨P.1, P.2.1, by rw [τo 1 0 (by omega) (by omega)]; exact P.2.2.1, fun i a1 a2 => by rw [τo 1 i (by omega) (by omega)]; exact P.2.2.2 i a1 a2⟩
            have O1' : OP (tcS σ j m (nI n) x y) R := fun r a1 => by rw [τo 15 r (by omega) (by omega), τo 16 r (by omega) (by omega)]; exact O1 r a1
            have rv1 : ∀ r, r ≠ j → r < R → rv σ (tcS σ j m (nI n) x y) r := fun r a0 a1 => ⟨τo _ _ (by omega) (by omega), τo _ _ (by omega) (by omega), τo _ _ (by omega) (by omega), tcS_13 a0, τo _ _ (by omega) (by omega), τo _ _ (by omega) (by omega), fun i _ => τo _ _ (by omega) (by omega), fun i _ => tcS_12 (by omega) (by omega) (by omega)⟩
            have m4 : ∀ r, r < R → nt (σ 13 r) ≤ 4 := fun r a1 => by
              obtain ⟨-, -, m, a2, a3, -⟩ := L1.2 r a1
              rw [a3, nt_nI (by omega)]; exact a2
            have kyE : ∀ r, r ≠ j → r < R → dps (tcS σ j m (nI n) x y) r (nt (σ 13 r)) = dps σ r (nt (σ 13 r)) ∧ ky (tcS σ j m (nI n) x y) r = ky σ r := fun r a0 a1 => ky_cg1 (rv1 r a0 a1) (m4 r a1) (fun x => Or.inl (dpt_cg (fun i => τo 1 i (by omega) (by omega)) 20 x))
            have H5 : ∀ t r c, (t ≠ 28 ∧ t ≠ 29 ∧ t ≠ 30 ∧ t ≠ 31) ∨ r ≠ j → h5 (t, r, c) = h (t, r, c) := fun t r c a1 => by
              rw [f2 _ (fun q0 => by simp at q0; omega), H4 _ _ _ (by omega), G4 _ _ _ (by omega)]
            have Ir5 : rC h5 (tcS σ j m (nI n) x y) R := by
              refine ⟨Ir.1.at (H5 _ _ _ (by omega)) (fun c => H5 _ _ _ (by omega)), fun r a1 => ?_, fun r a1 t a2 a3 c => by rw [H5 _ _ _ (by omega)]; exact Ir.2.2 r a1 t a2 a3 c⟩
              by_cases c1 : r = j
              · subst c1
                have e13 : nt (tcS σ r m (nI n) x y 13 r) = m + 1 := by rw [τ13, nt_nI (by omega)]
                refine ⟨⟨b, hw, mk, by rw [τo 9 r (by omega) (by omega)]; exact eb, hb12, ?_, ?_⟩, ?_, fun k => ⟨fun z1 => ?_, fun z1 => ?_⟩⟩
                · unfold ruL
                  rw [f1, e13, τo 10 r (by omega) (by omega), τo 11 r (by omega) (by omega), τo 14 _ (by omega) (by omega), τo 14 _ (by omega) (by omega), τo 14 _ (by omega) (by omega)]
                · rw [τo 15 r (by omega) (by omega), τo 16 r (by omega) (by omega)]; exact ehw
                · rw [e13]
                  exact b1.at (f2 _ (fun q0 => by simp at q0)) (fun c => f2 _ (fun q0 => by simp at q0))
                · rw [e13] at z1
                  rw [f2 _ (fun q0 => by simp at q0), H4 _ _ _ (by omega)]
                  unfold cdL cCd cYy
                  by_cases c2 : k = m
                  · subst c2
                    rw [G1, tcS_12a, tcS_12b, tcS_12c, nt_nI (by omega)]
                  · rw [G4 _ _ _ (by omega), (r3 k).1 (by omega), tcS_12 (by omega) (by omega) (by omega), tcS_12 (by omega) (by omega) (by omega), tcS_12 (by omega) (by omega) (by omega)]
                    rfl
                · rw [e13] at z1
                  rw [f2 _ (fun q0 => by simp at q0), H4 _ _ _ (by omega), G4 _ _ _ (by omega)]
                  exact (r3 k).2 (by omega)
              · exact (Ir.2.1 r a1).fr (m4 r a1) (fun t c a2 a3 => H5 _ _ _ (by omega)) (rv1 r c1 a1) (kyE r c1 a1).1
            obtain ⟨d1, d2, d4, d5, d6⟩ := id (Ib.2.1 b hbB)
            have bk5 : h5 (18, b, 0) = _ := (H5 _ _ _ (by omega)).trans d1
            have e9 : ∀ r, r < R → tcS σ j m (nI n) x y 9 r = σ 9 r := fun r _ => τo 9 r (by omega) (by omega)
            have d4' : LsT h5 (20, b, 0) (rL (ownL (tcS σ j m (nI n) x y) b R)) := by
              rw [ownL_cg e9]
              exact d4.at (H5 _ _ _ (by omega)) (fun c => H5 _ _ _ (by omega))
            have d5' : LsT h5 (22, b, 0) (rL (od b)) := d5.at (H5 _ _ _ (by omega)) (fun c => H5 _ _ _ (by omega))
            have d6' : LsT h5 (24, b, 0) (rL (rowS σ b R (od b))) := d6.at (H5 _ _ _ (by omega)) (fun c => H5 _ _ _ (by omega))
            have hlen := hod.len (b := b)
            refine s_aload dX_condition_82 rfl ?_
            refine s_get dX_condition_84 gf_X_157 (by repeat (first | exact up_self | assumption | rw [up_ne (by first | assumption | (intro q0; cases q0; done) | (intro q0; simp at q0; omega))])) ?_
            refine s_callV (As := []) dX_condition_87 cv_X_161 (by repeat (first | exact up_self | assumption | rw [up_ne (by first | assumption | (intro q0; cases q0; done) | (intro q0; simp at q0; omega))])) (c_arrange (σ := tcS σ j m (nI n) x y) (O := od b) bk5 Ir5 P' L1' O1' d4' d5' d6' (fun r a1 => ⟨((hod b).1 r a1).1, by rw [τo 15 r (by omega) (by omega)]; exact ((hod b).1 r a1).2.1⟩) (by omega)) (by first | rfl | exact Nat.ble_eq_true_of_le (by omega)) (by first | rfl | exact Nat.ble_eq_true_of_le (by omega)) (by first | rfl | exact Nat.ble_eq_true_of_le (by omega)) rfl (fun v0 h6 q0 => ?_)
            obtain ⟨rfl, t1, t2⟩ := q0
            have T2 : ∀ t r c, (t ≠ 24 ∧ t ≠ 25) ∨ r ≠ b → h6 (t, r, c) = h5 (t, r, c) := fun t r c a1 => t2 _ (fun q0 => by simp at q0; omega) (fun q z1 => by simp [eld] at z1; omega)
            have g1 : h6 (28, j, 0) = _ := (T2 _ _ _ (by omega)).trans f1
            have Lc6 : LsT h6 (29, j, 0) (cnL j (m + 1)) := (b1.at (f2 _ (fun q0 => by simp at q0)) (fun c => f2 _ (fun q0 => by simp at q0))).at (T2 _ _ _ (by omega)) (fun c => T2 _ _ _ (by omega))
            have cs6 := c_size Lc6
            rw [cnL_len] at cs6
            obtain ⟨cap6, z6, ff6, el6, -⟩ := id Lc6
            refine s_aload dX_condition_90 rfl ?_
            refine s_get dX_condition_92 gf_X_143 (by repeat (first | exact up_self | assumption | rw [up_ne (by first | assumption | (intro q0; cases q0; done) | (intro q0; simp at q0; omega))])) ?_
            refine s_v0 dX_condition_95 cv_X_91 (by repeat (first | exact up_self | assumption | rw [up_ne (by first | assumption | (intro q0; cases q0; done) | (intro q0; simp at q0; omega))])) (cs6) rfl rfl rfl rfl ?_
            refine s_iret dX_condition_98 rfl (by first | exact Nat.le_refl _ | decide | omega) (by first | exact Nat.le_refl _ | decide | omega) ?_
            refine ⟨rfl, fun n0 a1 => ?_, ?_⟩
            · obtain ⟨t, r, c⟩ := n0
              simp at a1
              rw [T2 _ _ _ (by omega), H5 _ _ _ (by omega)]
            · refine brC.mk I0 hB hbB (fun t r c a1 a2 a3 => ?_) (fun i => τo 6 i (by omega) (by omega)) (fun i => τo 7 i (by omega) (by omega)) e9 (fun _ _ => rfl) (fun b' a1 a2 => ?_) (d5'.at (T2 _ _ _ (by omega)) (fun c => T2 _ _ _ (by omega))) t1 (Ir5.fl t2 (by decide))
              · rw [T2 _ _ _ (by omega), H5 _ _ _ (by omega)]
              · refine rowS_cg e9 (fun r a3 a4 => ?_) (fun r _ => ⟨τo 15 r (by omega) (by omega), τo 16 r (by omega) (by omega)⟩)
                refine (kyE r (fun z1 => ?_) a3).2
                rw [z1, eb] at a4
                exact a1 (nI_inj (by omega) (by omega) a4.symm)
          have er4 : h4 (28, j, 0) = _ := ((H4 _ _ _ (by omega)).trans (G4 _ _ _ (by omega))).trans er
          by_cases c0 : n = 0
          · subst c0
            have eb0 : bc = 0 := by omega
            subst eb0
            obtain ⟨i, hi, rfl⟩ := cdX_0 hK ecx
            have M4 : h4 (10, 0, 0) = some (11, 0, fl (mnL a v o tb)) := ((H4 _ _ _ (by omega)).trans (G4 _ _ _ (by omega))).trans M1
            have ek4 : h4 (11, 0, 0) = _ := ((H4 _ _ _ (by omega)).trans (G4 _ _ _ (by omega))).trans ek
            have Ik4 : kC h4 σ K := Ik.fr (fun n0 a1 a2 => by
              obtain ⟨t, r, c⟩ := n0
              simp at a1 a2
              rw [H4 _ _ _ (by omega), G4 _ _ _ (by omega)]) (fun _ => rfl)
            refine s_iload_n dX_condition_60 rfl rfl ?_
            refine s_if_ne dX_condition_61 (fun q => absurd rfl q) (fun _ => ?_)
            refine s_aload dX_condition_64 rfl ?_
            refine s_dup dX_condition_66 rfl ?_
            refine s_get dX_condition_67 gf_X_151 (by repeat (first | exact up_self | assumption | rw [up_ne (by first | assumption | (intro q0; cases q0; done) | (intro q0; simp at q0; omega))])) ?_
            refine s_aload_n dX_condition_70 rfl rfl ?_
            refine s_get dX_condition_71 gf_X_10 (by repeat (first | exact up_self | assumption | rw [up_ne (by first | assumption | (intro q0; cases q0; done) | (intro q0; simp at q0; omega))])) ?_
            refine s_iload_n dX_condition_74 rfl rfl ?_
            refine s_v1 dX_condition_75 cv_X_154 (by repeat (first | exact up_self | assumption | rw [up_ne (by first | assumption | (intro q0; cases q0; done) | (intro q0; simp at q0; omega))])) (c_deepOf Ik4 hK hi) rfl rfl rfl rfl ?_
            first | refine s_iaddN dX_condition_78 ?_ | refine s_iadd dX_condition_78 ?_
            refine s_putF dX_condition_79 gf_X_151 (by repeat (first | exact up_self | assumption | rw [up_ne (by first | assumption | (intro q0; cases q0; done) | (intro q0; simp at q0; omega))])) (by first | rfl | assumption) rfl (by first | exact Or.inl rfl | exact Or.inr ⟨rfl, rfl⟩) (by first | exact ⟨_, rfl⟩ | exact Or.inl rfl | exact Or.inr rfl | assumption) ?_
            refine K82 _ ?_ (fun n0 a1 => up_ne a1)
            rw [up_self, dps_tc (by omega), if_pos (show nI 0 = 0 from rfl), nt_nI (by omega)]
            rfl
          · refine s_iload_n dX_condition_60 rfl rfl ?_
            refine s_if_ne dX_condition_61 (fun _ => ?_) (fun q => absurd q (nI_ne (b := 0) c0 (by omega) (by omega)))
            refine K82 h4 ?_ (fun n0 _ => rfl)
            rw [er4, dps_tc (by omega), if_neg (show ¬ nI n = 0 from nI_ne (b := 0) c0 (by omega) (by omega))]
            rfl
    · rw [ecd] at cis ⊢
      dsimp only at cis ⊢
      refine s_aload_n dX_condition_0 rfl rfl ?_
      refine s_iload_n dX_condition_1 rfl rfl ?_
      refine s_v1 dX_condition_2 cv_X_135 (by repeat (first | exact up_self | assumption | rw [up_ne (by first | assumption | (intro q0; cases q0; done) | (intro q0; simp at q0; omega))])) (cra) rfl rfl rfl rfl ?_
      refine s_astore dX_condition_5 rfl ?_
      refine s_aload dX_condition_7 rfl ?_
      refine s_ifnull dX_condition_9 (fun q => by cases q) (fun _ => ?_)
      refine s_aload_n dX_condition_12 rfl rfl ?_
      refine s_aload dX_condition_13 rfl ?_
      refine s_iload_n dX_condition_15 rfl rfl ?_
      refine s_iload_n dX_condition_16 rfl rfl ?_
      refine s_v3 dX_condition_17 cv_X_139 (by repeat (first | exact up_self | assumption | rw [up_ne (by first | assumption | (intro q0; cases q0; done) | (intro q0; simp at q0; omega))])) (cis) rfl rfl rfl rfl ?_
      refine s_if_ne dX_condition_20 (fun q => absurd rfl q) (fun _ => ?_)
      refine s_iconst (v := (-1)) dX_condition_23 (by decide) ?_
      refine s_iret dX_condition_24 rfl (by first | exact Nat.le_refl _ | decide | omega) (by first | exact Nat.le_refl _ | decide | omega) ?_
      exact ⟨rfl, fT.rf, I0⟩
theorem brC.fr {h h' : Hp} {σ σ' : Sg} {B R : Nat} {od : Nat → List Nat} (I : brC h σ B R od) (h1 : agT 16 25 h h') (e6 : ∀ j, σ' 6 j = σ 6 j) (e7 : ∀ j, σ' 7 j = σ 7 j) (e9 : ∀ r, r < R → σ' 9 r = σ 9 r) (hk : ∀ r, r < R → ky σ' r = ky σ r) (hO : ∀ r, r < R → σ' 15 r = σ 15 r ∧ σ' 16 r = σ 16 r) (hod : ∀ b, ∀ r ∈ od b, r < R) (Ir : rC h' σ' R) : brC h' σ' B R od := by
  refine ⟨?_, Ir⟩
  have g1 : (fun b => ownL σ' b R) = fun b => ownL σ b R := funext fun b => ownL_cg e9
  have g2 : (fun b => rowS σ' b R (od b)) = fun b => rowS σ b R (od b) := funext fun b => rowS_cg e9 (fun r a1 _ => hk r a1) (fun r a1 => hO r (hod b r a1))
  rw [g1, g2]
  exact I.1.fr h1 e6 e7
theorem c_X_does {h : Hp} {σ : Sg} {B R K : Nat} {od : Nat → List Nat} {a v o tb : Int32} (p c x y : Int32) (M1 : mnC h a v o tb) (I : brC h σ B R od) (L1 : RK σ R K) (hod : odK σ R od) (hB : B ≤ 12) :
    Con mX_does 5 0 0 [vR (10, 0, 0), vI p, vI c, vI x, vI y] h (fun v h' => v = some (vI (fDoes σ p c x y R B).1) ∧ fT [28] h h' ∧ brC h' (fDoes σ p c x y R B).2 B R od) := by
  have hR := L1.1
  have M0 := M1
  unfold mnC at M1
  have I0 := I
  obtain ⟨Ib, Ir⟩ := I
  unfold fDoes
  refine c_enter (by decide +kernel) rfl rfl ?_
  rcases iy_cases p (K := R) (by omega) with ⟨q1, hz1⟩ | ⟨j, hj, rfl, q1⟩
  · rw [q1]
    refine s_aload_n dX_does_0 rfl rfl ?_
    refine s_iload_n dX_does_1 rfl rfl ?_
    refine s_v1 dX_does_2 cv_X_135 (by repeat (first | exact up_self | assumption | rw [up_ne (by first | assumption | (intro q0; cases q0; done) | (intro q0; simp at q0; omega))])) (c_ruleNo M0 Ir hR hz1) rfl rfl rfl rfl ?_
    refine s_astore dX_does_5 rfl ?_
    refine s_aload dX_does_7 rfl ?_
    refine s_ifnull dX_does_9 (fun _ => ?_) (fun q => by obtain ⟨_, q⟩ := q; cases q)
    refine s_iconst (v := (-1)) dX_does_23 (by decide) ?_
    refine s_iret dX_does_24 rfl (by first | exact Nat.le_refl _ | decide | omega) (by first | exact Nat.le_refl _ | decide | omega) ?_
    exact ⟨rfl, fT.rf, I0⟩
  · rw [q1]
    have cra := c_ruleAt M0 Ir hR hj
    have cis := c_isDeed c x y M0 Ib hB
    cases ec : ix c 9 with
    | none =>
      rw [ec] at cis
      dsimp only at cis ⊢
      refine s_aload_n dX_does_0 rfl rfl ?_
      refine s_iload_n dX_does_1 rfl rfl ?_
      refine s_v1 dX_does_2 cv_X_135 (by repeat (first | exact up_self | assumption | rw [up_ne (by first | assumption | (intro q0; cases q0; done) | (intro q0; simp at q0; omega))])) (cra) rfl rfl rfl rfl ?_
      refine s_astore dX_does_5 rfl ?_
      refine s_aload dX_does_7 rfl ?_
      refine s_ifnull dX_does_9 (fun q => by cases q) (fun _ => ?_)
      refine s_aload_n dX_does_12 rfl rfl ?_
      refine s_iload_n dX_does_13 rfl rfl ?_
      refine s_iload_n dX_does_14 rfl rfl ?_
      refine s_iload dX_does_15 rfl ?_
      refine s_v3 dX_does_17 cv_X_165 (by repeat (first | exact up_self | assumption | rw [up_ne (by first | assumption | (intro q0; cases q0; done) | (intro q0; simp at q0; omega))])) (cis) rfl rfl rfl rfl ?_
      refine s_if_ne dX_does_20 (fun q => absurd rfl q) (fun _ => ?_)
      refine s_iconst (v := (-1)) dX_does_23 (by decide) ?_
      refine s_iret dX_does_24 rfl (by first | exact Nat.le_refl _ | decide | omega) (by first | exact Nat.le_refl _ | decide | omega) ?_
      exact ⟨rfl, fT.rf, I0⟩
    | some n =>
      rw [ec] at cis
      dsimp only at cis ⊢
      cases ed : deed n x y B with
      | false =>
        rw [ed] at cis
        refine s_aload_n dX_does_0 rfl rfl ?_
        refine s_iload_n dX_does_1 rfl rfl ?_
        refine s_v1 dX_does_2 cv_X_135 (by repeat (first | exact up_self | assumption | rw [up_ne (by first | assumption | (intro q0; cases q0; done) | (intro q0; simp at q0; omega))])) (cra) rfl rfl rfl rfl ?_
        refine s_astore dX_does_5 rfl ?_
        refine s_aload dX_does_7 rfl ?_
        refine s_ifnull dX_does_9 (fun q => by cases q) (fun _ => ?_)
        refine s_aload_n dX_does_12 rfl rfl ?_
        refine s_iload_n dX_does_13 rfl rfl ?_
        refine s_iload_n dX_does_14 rfl rfl ?_
        refine s_iload dX_does_15 rfl ?_
        refine s_v3 dX_does_17 cv_X_165 (by repeat (first | exact up_self | assumption | rw [up_ne (by first | assumption | (intro q0; cases q0; done) | (intro q0; simp at q0; omega))])) (cis) rfl rfl rfl rfl ?_
        refine s_if_ne dX_does_20 (fun q => absurd rfl q) (fun _ => ?_)
        refine s_iconst (v := (-1)) dX_does_23 (by decide) ?_
        refine s_iret dX_does_24 rfl (by first | exact Nat.le_refl _ | decide | omega) (by first | exact Nat.le_refl _ | decide | omega) ?_
        exact ⟨rfl, fT.rf, I0⟩
      | true =>
        rw [ed] at cis
        rw [if_pos rfl]
        dsimp only
        obtain ⟨⟨b, hw, mk, eb, hb12, er, ehw⟩, r2, r3⟩ := id (Ir.2.1 j hj)
        unfold ruL at er
        refine s_aload_n dX_does_0 rfl rfl ?_
        refine s_iload_n dX_does_1 rfl rfl ?_
        refine s_v1 dX_does_2 cv_X_135 (by repeat (first | exact up_self | assumption | rw [up_ne (by first | assumption | (intro q0; cases q0; done) | (intro q0; simp at q0; omega))])) (cra) rfl rfl rfl rfl ?_
        refine s_astore dX_does_5 rfl ?_
        refine s_aload dX_does_7 rfl ?_
        refine s_ifnull dX_does_9 (fun q => by cases q) (fun _ => ?_)
        refine s_aload_n dX_does_12 rfl rfl ?_
        refine s_iload_n dX_does_13 rfl rfl ?_
        refine s_iload_n dX_does_14 rfl rfl ?_
        refine s_iload dX_does_15 rfl ?_
        refine s_v3 dX_does_17 cv_X_165 (by repeat (first | exact up_self | assumption | rw [up_ne (by first | assumption | (intro q0; cases q0; done) | (intro q0; simp at q0; omega))])) (cis) rfl rfl rfl rfl ?_
        refine s_if_ne dX_does_20 (fun _ => ?_) (fun q => absurd q (by decide))
        refine s_aload dX_does_25 rfl ?_
        refine s_iload_n dX_does_27 rfl rfl ?_
        refine s_putF dX_does_28 gf_X_169 (by repeat (first | exact up_self | assumption | rw [up_ne (by first | assumption | (intro q0; cases q0; done) | (intro q0; simp at q0; omega))])) (by first | rfl | assumption) rfl (by first | exact Or.inl rfl | exact Or.inr ⟨rfl, rfl⟩) (by first | exact ⟨_, rfl⟩ | exact Or.inl rfl | exact Or.inr rfl | assumption) ?_
        refine s_aload dX_does_31 rfl ?_
        refine s_iload_n dX_does_33 rfl rfl ?_
        refine s_putF dX_does_34 gf_X_172 (by repeat (first | exact up_self | assumption | rw [up_ne (by first | assumption | (intro q0; cases q0; done) | (intro q0; simp at q0; omega))])) (by first | rfl | assumption) rfl (by first | exact Or.inl rfl | exact Or.inr ⟨rfl, rfl⟩) (by first | exact ⟨_, rfl⟩ | exact Or.inl rfl | exact Or.inr rfl | assumption) ?_
        refine s_aload dX_does_37 rfl ?_
        refine s_iload dX_does_39 rfl ?_
        refine s_putF dX_does_41 gf_X_175 (by repeat (first | exact up_self | assumption | rw [up_ne (by first | assumption | (intro q0; cases q0; done) | (intro q0; simp at q0; omega))])) (by first | rfl | assumption) rfl (by first | exact Or.inl rfl | exact Or.inr ⟨rfl, rfl⟩) (by first | exact ⟨_, rfl⟩ | exact Or.inl rfl | exact Or.inr rfl | assumption) ?_
        refine s_iconst (v := 0) dX_does_44 (by decide) ?_
        refine s_iret dX_does_45 rfl (by first | exact Nat.le_refl _ | decide | omega) (by first | exact Nat.le_refl _ | decide | omega) ?_
        generalize hτ : us (us (us σ 14 (3 * j) c) 14 (3 * j + 1) x) 14 (3 * j + 2) y = τ
        have τo : ∀ k i, k ≠ 14 ∨ (i ≠ 3 * j ∧ i ≠ 3 * j + 1 ∧ i ≠ 3 * j + 2) → τ k i = σ k i := fun k i a1 => by
          rw [← hτ, us_o (by omega), us_o (by omega), us_o (by omega)]
        have t0 : τ 14 (3 * j) = c := by rw [← hτ, us_j (by omega), us_j (by omega), us_s]
        have t1 : τ 14 (3 * j + 1) = x := by rw [← hτ, us_j (by omega), us_s]
        have t2 : τ 14 (3 * j + 2) = y := by rw [← hτ, us_s]
        have m4 : ∀ r, r < R → nt (σ 13 r) ≤ 4 := fun r a1 => by
          obtain ⟨-, -, m, a2, a3, -⟩ := L1.2 r a1
          rw [a3, nt_nI (by omega)]; exact a2
        have dpE : ∀ r m, dps τ r m = dps σ r m := fun r m => by
          induction m with
          | zero => rfl
          | succ m ih1 =>
            unfold dps dp1
            rw [ih1, τo 12 _ (by omega), τo 12 _ (by omega), dpt_cg (fun i => τo 1 i (by omega))]
        have kyE : ∀ r, ky τ r = ky σ r := fun r => by
          unfold ky
          rw [τo 10 r (by omega), τo 11 r (by omega), τo 13 r (by omega), dpE]
        refine ⟨rfl, ((fT.rf.v).v).v, I0.fr (((fT.rf.v).v).v.ag (ts := [28]) (by decide)) (fun i => τo _ _ (by omega)) (fun i => τo _ _ (by omega)) (fun i _ => τo _ _ (by omega)) (fun r _ => kyE r) (fun r _ => ⟨τo _ _ (by omega), τo _ _ (by omega)⟩) (fun b r a1 => ((hod b).1 r a1).1) ?_⟩
        simp only [up_up]
        have H5 : ∀ t r c d, t ≠ 28 ∨ r ≠ j ∨ c ≠ 0 → up h (28, j, 0) d (t, r, c) = h (t, r, c) := fun t r c d a1 => up_ne (fun q0 => by simp at q0; omega)
        refine ⟨Ir.1.at (H5 _ _ _ _ (by omega)) (fun c => H5 _ _ _ _ (by omega)), fun r a1 => ?_, fun r a1 t a2 a3 c => by rw [H5 _ _ _ _ (by omega)]; exact Ir.2.2 r a1 t a2 a3 c⟩
        by_cases c1 : r = j
        · subst c1
          refine ⟨⟨b, hw, mk, by rw [τo 9 r (by omega)]; exact eb, hb12, ?_, ?_⟩, ?_, fun k => ?_⟩
          · unfold ruL
            rw [up_self, dpE, τo 13 r (by omega), τo 10 r (by omega), τo 11 r (by omega), t0, t1, t2]
            rfl
          · rw [τo 15 r (by omega), τo 16 r (by omega)]; exact ehw
          · rw [τo 13 r (by omega)]
            exact r2.at (H5 _ _ _ _ (by omega)) (fun c => H5 _ _ _ _ (by omega))
          · rw [τo 13 r (by omega), H5 _ _ _ _ (by omega)]
            unfold cdL cCd cYy
            rw [τo 12 _ (by omega), τo 12 _ (by omega), τo 12 _ (by omega)]
            exact r3 k
        · exact (Ir.2.1 r a1).fr (m4 r a1) (fun t c a2 a3 => H5 _ _ _ _ (by omega)) ⟨τo _ _ (by omega), τo _ _ (by omega), τo _ _ (by omega), τo _ _ (by omega), τo _ _ (by omega), τo _ _ (by omega), fun i _ => τo _ _ (by omega), fun i _ => τo _ _ (by omega)⟩ (dpE r _)
def fOd (σ : Sg) (r w o : Int32) (R : Nat) (od : Nat → List Nat) : Nat → List Nat := match ix r R, ix w 6 with
  | some j, some n => if ordOk σ j n o R then fun b => if b = nt (σ 9 j) then (od b).erase j ++ [j] else od b else od
  | _, _ => od
theorem c_X_order {h : Hp} {σ : Sg} {B R K T : Nat} {od : Nat → List Nat} {a v o tb : Int32} (p w q : Int32) (M1 : mnC h a v o tb) (I : brC h σ B R od) (P : KP σ K) (L1 : RK σ R K) (O1 : OP σ R) (hod : odK σ R od) (hB : B ≤ 12) (h9 : ∀ r, r < R → ∃ c, c < B ∧ σ 9 r = nI c) :
    Con mX_order 10 121 8833 [vR (10, 0, 0), vI p, vI w, vI q] h (fun v h' => v = some (vI (fOrder σ p w q R T).1) ∧ fT [22, 23, 24, 25, 28] h h' ∧ brC h' (fOrder σ p w q R T).2 B R (fOd σ p w q R od)) := by
  have hR := L1.1
  have M0 := M1
  unfold mnC at M1
  have I0 := I
  obtain ⟨Ib, Ir⟩ := I
  unfold fOrder fOd
  refine c_enter (by decide +kernel) rfl rfl ?_
  rcases iy_cases p (K := R) (by omega) with ⟨q1, hz1⟩ | ⟨j, hj, rfl, q1⟩
  · rw [q1]
    refine s_aload_n dX_order_0 rfl rfl ?_
    refine s_iload_n dX_order_1 rfl rfl ?_
    refine s_v1 dX_order_2 cv_X_135 (by repeat (first | exact up_self | assumption | rw [up_ne (by first | assumption | (intro q0; cases q0; done) | (intro q0; simp at q0; omega))])) (c_ruleNo M0 Ir hR hz1) rfl rfl rfl rfl ?_
    refine s_astore dX_order_5 rfl ?_
    refine s_aload dX_order_7 rfl ?_
    refine s_ifnull dX_order_9 (fun _ => ?_) (fun q => by obtain ⟨_, q⟩ := q; cases q)
    refine s_iconst (v := (-1)) dX_order_21 (by decide) ?_
    refine s_iret dX_order_22 rfl (by first | exact Nat.le_refl _ | decide | omega) (by first | exact Nat.le_refl _ | decide | omega) ?_
    exact ⟨rfl, fT.rf, I0⟩
  · rw [q1]
    have cra := c_ruleAt M0 Ir hR hj
    obtain ⟨⟨b, hw, mk, eb, hb12, er, ehw⟩, r2, r3⟩ := id (Ir.2.1 j hj)
    have er0 := er
    unfold ruL at er
    have hbB : b < B := by
      obtain ⟨b1, h1, h2⟩ := h9 j hj
      have : b = b1 := nI_inj (by omega) (by omega) (eb.symm.trans h2)
      omega
    rcases iy_cases w (K := 6) (by omega) with ⟨q2, hz1⟩ | ⟨n, hn, rfl, q2⟩
    · rw [q2]
      rcases hz1 with ⟨z1, -⟩ | ⟨-, hn1⟩
      · cases z1
      · by_cases c1 : w < 0
        · refine s_aload_n dX_order_0 rfl rfl ?_
          refine s_iload_n dX_order_1 rfl rfl ?_
          refine s_v1 dX_order_2 cv_X_135 (by repeat (first | exact up_self | assumption | rw [up_ne (by first | assumption | (intro q0; cases q0; done) | (intro q0; simp at q0; omega))])) (cra) rfl rfl rfl rfl ?_
          refine s_astore dX_order_5 rfl ?_
          refine s_aload dX_order_7 rfl ?_
          refine s_ifnull dX_order_9 (fun q => by cases q) (fun _ => ?_)
          refine s_iload_n dX_order_12 rfl rfl ?_
          refine s_if_lt dX_order_13 (fun _ => ?_) (fun q => absurd c1 q)
          refine s_iconst (v := (-1)) dX_order_21 (by decide) ?_
          refine s_iret dX_order_22 rfl (by first | exact Nat.le_refl _ | decide | omega) (by first | exact Nat.le_refl _ | decide | omega) ?_
          exact ⟨rfl, fT.rf, I0⟩
        · have c2 : nI 5 < w := by
            have c3 : nI 6 ≤ w := Int32.not_lt.mp fun z1 => hn1 ⟨Int32.not_lt.mp c1, z1⟩
            rw [Int32.le_iff_toInt_le] at c3
            rw [Int32.lt_iff_toInt_lt]
            rw [nI_toInt (by omega)] at c3 ⊢
            omega
          refine s_aload_n dX_order_0 rfl rfl ?_
          refine s_iload_n dX_order_1 rfl rfl ?_
          refine s_v1 dX_order_2 cv_X_135 (by repeat (first | exact up_self | assumption | rw [up_ne (by first | assumption | (intro q0; cases q0; done) | (intro q0; simp at q0; omega))])) (cra) rfl rfl rfl rfl ?_
          refine s_astore dX_order_5 rfl ?_
          refine s_aload dX_order_7 rfl ?_
          refine s_ifnull dX_order_9 (fun q => by cases q) (fun _ => ?_)
          refine s_iload_n dX_order_12 rfl rfl ?_
          refine s_if_lt dX_order_13 (fun q => absurd q c1) (fun _ => ?_)
          refine s_iload_n dX_order_16 rfl rfl ?_
          refine s_iconst (v := nI 5) dX_order_17 (by decide) ?_
          refine s_icmp_le dX_order_18 (fun q => absurd q (Int32.not_le.mpr c2)) (fun _ => ?_)
          refine s_iconst (v := (-1)) dX_order_21 (by decide) ?_
          refine s_iret dX_order_22 rfl (by first | exact Nat.le_refl _ | decide | omega) (by first | exact Nat.le_refl _ | decide | omega) ?_
          exact ⟨rfl, fT.rf, I0⟩
    · rw [q2]
      dsimp only
      have cab := c_isAb (h := h) (w := n) (by omega)
      -- behind the checks
      have K75 : ∀ mk' : Option Nm, ordOk σ j n q R = true → (isAb n = true → ∃ i, i < R ∧ i ≠ j ∧ q = nI i ∧ mk' = some (28, i, 0)) →
          S mX_order 10 121 8833 (fun v h' => v = some (vI 0) ∧ fT [22, 23, 24, 25, 28] h h' ∧ brC h' (us (us (us (us σ 15 j (nI n)) 16 j q) 18 0 (nI (T + 1))) 17 j (nI (T + 1))) B R (fun b => if b = nt (σ 9 j) then (od b).erase j ++ [j] else od b)) 75 [some (vR (10, 0, 0)), some (vI (nI j)), some (vI (nI n)), some (vI q), some (vR (28, j, 0)), some (vO mk')] [] h 0 0 := by
        intro mk' hok hab
        generalize hτ : us (us (us (us σ 15 j (nI n)) 16 j q) 18 0 (nI (T + 1))) 17 j (nI (T + 1)) = τ
        have τo : ∀ k i, (k ≠ 15 ∧ k ≠ 16 ∧ k ≠ 17 ∧ k ≠ 18) ∨ (k ≠ 18 ∧ i ≠ j) → τ k i = σ k i := fun k i a1 => by
          rw [← hτ, us_o (by omega), us_o (by omega), us_o (by omega), us_o (by omega)]
        have t15 : τ 15 j = nI n := by rw [← hτ, us_k (by decide), us_k (by decide), us_k (by decide), us_s]
        have t16 : τ 16 j = q := by rw [← hτ, us_k (by decide), us_k (by decide), us_s]
        have m4 : ∀ r, r < R → nt (σ 13 r) ≤ 4 := fun r a1 => by
          obtain ⟨-, -, m, a2, a3, -⟩ := L1.2 r a1
          rw [a3, nt_nI (by omega)]; exact a2
        have dpE : ∀ r m, dps τ r m = dps σ r m := fun r m => by
          induction m with
          | zero => rfl
          | succ m ih1 =>
            unfold dps dp1
            rw [ih1, τo 12 _ (by omega), τo 12 _ (by omega), dpt_cg (fun i => τo 1 i (by omega))]
        have kyE : ∀ r, ky τ r = ky σ r := fun r => by
          unfold ky
          rw [τo 10 r (by omega), τo 11 r (by omega), τo 13 r (by omega), dpE]
        have e9 : ∀ r, r < R → τ 9 r = σ 9 r := fun r _ => τo 9 r (by omega)
        have P' : KP τ K := ⟨P.1, P.2.1, by rw [τo 1 0 (by omega)]; exact P.2.2.1, fun i a1 a2 => by rw [τo 1 i (by omega)]; exact P.2.2.2 i a1 a2⟩
        have L1' : RK τ R K := by
          refine ⟨L1.1, fun r a1 => ?_⟩
          have l1 := L1.2 r a1
          have u10 : τ 10 r = σ 10 r := τo _ _ (by omega)
          have u11 : τ 11 r = σ 11 r := τo _ _ (by omega)
          have u12 : ∀ i, τ 12 i = σ 12 i := fun i => τo _ _ (by omega)
          have u13 : τ 13 r = σ 13 r := τo _ _ (by omega)
          simp only [u10, u11, u12, u13]
          exact l1
        have O1' : OP τ R := by
          intro r a1 a2
          by_cases c1 : r = j
          · subst c1
            refine ⟨n, by omega, t15, fun z1 => ?_⟩
            obtain ⟨i, x1, x2, x3, -⟩ := hab z1
            exact ⟨i, x1, x2, by rw [t16]; exact x3⟩
          · rw [τo 15 r (by omega)] at a2 ⊢
            rw [τo 16 r (by omega)]
            exact O1 r a1 a2
        have F0 : fitV (cY 5 10) (vO mk') := ⟨mk', rfl⟩
        refine s_aload dX_order_75 rfl ?_
        refine s_iload_n dX_order_77 rfl rfl ?_
        refine s_putF dX_order_78 gf_X_181 (by repeat (first | exact up_self | assumption | rw [up_ne (by first | assumption | (intro q0; cases q0; done) | (intro q0; simp at q0; omega))])) (by first | rfl | assumption) rfl (by first | exact Or.inl rfl | exact Or.inr ⟨rfl, rfl⟩) (by first | exact ⟨_, rfl⟩ | exact Or.inl rfl | exact Or.inr rfl | assumption) ?_
        refine s_aload dX_order_81 rfl ?_
        refine s_aload dX_order_83 rfl ?_
        refine s_putF dX_order_85 gf_X_184 (by repeat (first | exact up_self | assumption | rw [up_ne (by first | assumption | (intro q0; cases q0; done) | (intro q0; simp at q0; omega))])) (by first | rfl | assumption) rfl (by first | exact Or.inl rfl | exact Or.inr ⟨rfl, rfl⟩) (by first | exact ⟨_, rfl⟩ | exact Or.inl rfl | exact Or.inr rfl | assumption) ?_
        refine s_hp (h' := up h (28, j, 0) (5, 0, fl [vI (nI j), vR (18, b, 0), vI (σ 10 j), vI (σ 11 j), vR (29, j, 0), vI (nI (dps σ j (nt (σ 13 j)))), vI (σ 14 (3 * j)), vI (σ 14 (3 * j + 1)), vI (σ 14 (3 * j + 2)), vI (nI n), vO mk'])) (by simp only [up_up]; rfl) ?_
        have f1 : up h (28, j, 0) (5, 0, fl [vI (nI j), vR (18, b, 0), vI (σ 10 j), vI (σ 11 j), vR (29, j, 0), vI (nI (dps σ j (nt (σ 13 j)))), vI (σ 14 (3 * j)), vI (σ 14 (3 * j + 1)), vI (σ 14 (3 * j + 2)), vI (nI n), vO mk']) (28, j, 0) = some (5, 0, fl [vI (nI j), vR (18, b, 0), vI (σ 10 j), vI (σ 11 j), vR (29, j, 0), vI (nI (dps σ j (nt (σ 13 j)))), vI (σ 14 (3 * j)), vI (σ 14 (3 * j + 1)), vI (σ 14 (3 * j + 2)), vI (nI n), vO mk']) := up_self
        have f2 : ∀ n0, n0 ≠ (28, j, 0) → up h (28, j, 0) (5, 0, fl [vI (nI j), vR (18, b, 0), vI (σ 10 j), vI (σ 11 j), vR (29, j, 0), vI (nI (dps σ j (nt (σ 13 j)))), vI (σ 14 (3 * j)), vI (σ 14 (3 * j + 1)), vI (σ 14 (3 * j + 2)), vI (nI n), vO mk']) n0 = h n0 := fun n0 a1 => up_ne a1
        generalize up h (28, j, 0) (5, 0, fl [vI (nI j), vR (18, b, 0), vI (σ 10 j), vI (σ 11 j), vR (29, j, 0), vI (nI (dps σ j (nt (σ 13 j)))), vI (σ 14 (3 * j)), vI (σ 14 (3 * j + 1)), vI (σ 14 (3 * j + 2)), vI (nI n), vO mk']) = h5 at f1 f2 ⊢
        have H5 : ∀ t r c, t ≠ 28 ∨ r ≠ j ∨ c ≠ 0 → h5 (t, r, c) = h (t, r, c) := fun t r c a1 => f2 _ (fun q0 => by simp at q0; omega)
        have Ir5 : rC h5 τ R := by
          refine ⟨Ir.1.at (H5 _ _ _ (by omega)) (fun c => H5 _ _ _ (by omega)), fun r a1 => ?_, fun r a1 t a2 a3 c => by rw [H5 _ _ _ (by omega)]; exact Ir.2.2 r a1 t a2 a3 c⟩
          by_cases c1 : r = j
          · subst c1
            refine ⟨⟨b, nI n, mk', by rw [τo 9 r (by omega)]; exact eb, hb12, ?_, fun _ => ⟨t15.symm, fun z1 => ?_⟩⟩, ?_, fun k => ?_⟩
            · unfold ruL
              rw [f1, dpE, τo 13 r (by omega), τo 10 r (by omega), τo 11 r (by omega), τo 14 _ (by omega), τo 14 _ (by omega), τo 14 _ (by omega)]
            · rw [t15, nt_nI (by omega)] at z1
              obtain ⟨i, x1, x2, x3, x4⟩ := hab z1
              rw [t16, x3, nt_nI (by omega)]
              exact x4
            · rw [τo 13 r (by omega)]
              exact r2.at (H5 _ _ _ (by omega)) (fun c => H5 _ _ _ (by omega))
            · rw [τo 13 r (by omega), H5 _ _ _ (by omega)]
              unfold cdL cCd cYy
              rw [τo 12 _ (by omega), τo 12 _ (by omega), τo 12 _ (by omega)]
              exact r3 k
          · exact (Ir.2.1 r a1).fr (m4 r a1) (fun t c a2 a3 => H5 _ _ _ (by omega)) ⟨τo _ _ (by omega), τo _ _ (by omega), τo _ _ (by omega), τo _ _ (by omega), τo _ _ (by omega), τo _ _ (by omega), fun i _ => τo _ _ (by omega), fun i _ => τo _ _ (by omega)⟩ (dpE r _)
        obtain ⟨d1, d2, d4, d5, d6⟩ := id (Ib.2.1 b hbB)
        have bk5 : h5 (18, b, 0) = _ := (H5 _ _ _ (by omega)).trans d1
        have d4' : LsT h5 (20, b, 0) (rL (ownL τ b R)) := by
          rw [ownL_cg e9]
          exact d4.at (H5 _ _ _ (by omega)) (fun c => H5 _ _ _ (by omega))
        have d5' : LsT h5 (22, b, 0) (rL (od b)) := d5.at (H5 _ _ _ (by omega)) (fun c => H5 _ _ _ (by omega))
        have d6' : LsT h5 (24, b, 0) (rL (rowS σ b R (od b))) := d6.at (H5 _ _ _ (by omega)) (fun c => H5 _ _ _ (by omega))
        have n15 : ¬ τ 15 j = -4 := by rw [t15]; exact nI_m4 (by omega)
        have hO5 : ∀ r ∈ od b, r < R ∧ ¬ τ 15 r = -4 := fun r a1 => by
          refine ⟨((hod b).1 r a1).1, ?_⟩
          by_cases c1 : r = j
          · rw [c1]; exact n15
          · rw [τo 15 r (by omega)]; exact ((hod b).1 r a1).2.1
        refine s_aload dX_order_88 rfl ?_
        refine s_get dX_order_90 gf_X_157 (by repeat (first | exact up_self | assumption | rw [up_ne (by first | assumption | (intro q0; cases q0; done) | (intro q0; simp at q0; omega))])) ?_
        refine s_aload dX_order_93 rfl ?_
        refine s_callV (As := [_]) dX_order_95 cv_X_188 (by repeat (first | exact up_self | assumption | rw [up_ne (by first | assumption | (intro q0; cases q0; done) | (intro q0; simp at q0; omega))])) (c_takeOrder (σ := τ) (O := od b) bk5 Ir5 P' L1' O1' d4' d5' d6' hO5 ⟨hj, n15⟩ (hod b).2) (by first | rfl | exact Nat.ble_eq_true_of_le (by omega)) (by first | rfl | exact Nat.ble_eq_true_of_le (by omega)) (by first | rfl | exact Nat.ble_eq_true_of_le (by omega)) rfl (fun v0 h6 q0 => ?_)
        obtain ⟨rfl, t1, t2, t3⟩ := q0
        refine s_iconst (v := 0) dX_order_98 (by decide) ?_
        refine s_iret dX_order_99 rfl (by first | exact Nat.le_refl _ | decide | omega) (by first | exact Nat.le_refl _ | decide | omega) ?_
        have eb2 : nt (σ 9 j) = b := by rw [eb, nt_nI (by omega)]
        rw [eb2]
        refine ⟨rfl, fun n0 a1 => ?_, ?_⟩
        · obtain ⟨t, r, c⟩ := n0
          simp at a1
          rw [t3 _ _ _ (by omega), H5 _ _ _ (by omega)]
        · refine brC.mk I0 hB hbB (fun t r c a1 a2 a3 => ?_) (fun i => τo 6 i (by omega)) (fun i => τo 7 i (by omega)) e9 (fun b' z1 => if_neg z1) (fun b' a1 a2 => ?_) ?_ ?_ ?_
          · rw [t3 _ _ _ (by omega), H5 _ _ _ (by omega)]
          · refine rowS_cg e9 (fun r a3 a4 => kyE r) (fun r a3 => ?_)
            have nr : r ≠ j := fun z1 => by
              have z2 := ((hod b').1 r a3).2.2
              rw [z1, eb] at z2
              exact a1 (nI_inj (by omega) (by omega) z2.symm)
            exact ⟨τo 15 r (by omega), τo 16 r (by omega)⟩
          · rw [if_pos rfl]; exact t1
          · rw [if_pos rfl]; exact t2
          · obtain ⟨w1, w2, w3⟩ := Ir5
            refine ⟨w1.at (t3 _ _ _ (by omega)) (fun c => t3 _ _ _ (by omega)), fun r a1 => ?_, fun r a1 t a2 a3 c => by rw [t3 _ _ _ (by omega)]; exact w3 r a1 t a2 a3 c⟩
            obtain ⟨⟨b0, hw0, mk0, x1, x2, x3, x4⟩, x5, x6⟩ := w2 r a1
            exact ⟨⟨b0, hw0, mk0, x1, x2, by rw [t3 _ _ _ (by omega)]; exact x3, x4⟩, x5.at (t3 _ _ _ (by omega)) (fun c => t3 _ _ _ (by omega)), fun k => by rw [t3 _ _ _ (by omega)]; exact x6 k⟩
      cases eab : isAb n with
      | false =>
        rw [eab] at cab
        have hok : ordOk σ j n q R = true := by simp [ordOk, eab]
        rw [if_pos hok, if_pos hok]
        refine s_aload_n dX_order_0 rfl rfl ?_
        refine s_iload_n dX_order_1 rfl rfl ?_
        refine s_v1 dX_order_2 cv_X_135 (by repeat (first | exact up_self | assumption | rw [up_ne (by first | assumption | (intro q0; cases q0; done) | (intro q0; simp at q0; omega))])) (cra) rfl rfl rfl rfl ?_
        refine s_astore dX_order_5 rfl ?_
        refine s_aload dX_order_7 rfl ?_
        refine s_ifnull dX_order_9 (fun q => by cases q) (fun _ => ?_)
        refine s_iload_n dX_order_12 rfl rfl ?_
        refine s_if_lt dX_order_13 (fun q => absurd q (nI_nlt (b := 0) (by omega) (by omega))) (fun _ => ?_)
        refine s_iload_n dX_order_16 rfl rfl ?_
        refine s_iconst (v := nI 5) dX_order_17 (by decide) ?_
        refine s_icmp_le dX_order_18 (fun _ => ?_) (fun q => absurd (nI_le (by omega) (by omega)) q)
        refine s_iload_n dX_order_23 rfl rfl ?_
        refine s_t1 dX_order_24 cs_X_178 (cab) rfl rfl rfl rfl ?_
        refine s_if_eq dX_order_27 (fun _ => ?_) (fun q => absurd rfl q)
        refine s_null dX_order_38 ?_
        refine s_astore dX_order_39 rfl ?_
        refine s_iload_n dX_order_41 rfl rfl ?_
        refine s_t1 dX_order_42 cs_X_178 (cab) rfl rfl rfl rfl ?_
        refine s_if_eq dX_order_45 (fun _ => ?_) (fun q => absurd rfl q)
        exact K75 none hok (fun z1 => by rw [eab] at z1; cases z1)
      | true =>
        rw [eab] at cab
        rcases iy_cases q (K := R) (by omega) with ⟨q3, hz1⟩ | ⟨i, hi, rfl, q3⟩
        · have hok : ordOk σ j n q R = false := by simp [ordOk, eab, q3]
          rw [hok]
          refine s_aload_n dX_order_0 rfl rfl ?_
          refine s_iload_n dX_order_1 rfl rfl ?_
          refine s_v1 dX_order_2 cv_X_135 (by repeat (first | exact up_self | assumption | rw [up_ne (by first | assumption | (intro q0; cases q0; done) | (intro q0; simp at q0; omega))])) (cra) rfl rfl rfl rfl ?_
          refine s_astore dX_order_5 rfl ?_
          refine s_aload dX_order_7 rfl ?_
          refine s_ifnull dX_order_9 (fun q => by cases q) (fun _ => ?_)
          refine s_iload_n dX_order_12 rfl rfl ?_
          refine s_if_lt dX_order_13 (fun q => absurd q (nI_nlt (b := 0) (by omega) (by omega))) (fun _ => ?_)
          refine s_iload_n dX_order_16 rfl rfl ?_
          refine s_iconst (v := nI 5) dX_order_17 (by decide) ?_
          refine s_icmp_le dX_order_18 (fun _ => ?_) (fun q => absurd (nI_le (by omega) (by omega)) q)
          refine s_iload_n dX_order_23 rfl rfl ?_
          refine s_t1 dX_order_24 cs_X_178 (cab) rfl rfl rfl rfl ?_
          refine s_if_eq dX_order_27 (fun q => absurd q (by decide)) (fun _ => ?_)
          refine s_aload_n dX_order_30 rfl rfl ?_
          refine s_iload_n dX_order_31 rfl rfl ?_
          refine s_v1 dX_order_32 cv_X_135 (by repeat (first | exact up_self | assumption | rw [up_ne (by first | assumption | (intro q0; cases q0; done) | (intro q0; simp at q0; omega))])) (c_ruleNo M0 Ir hR hz1) rfl rfl rfl rfl ?_
          refine s_goto dX_order_35 ?_
          refine s_astore dX_order_39 rfl ?_
          refine s_iload_n dX_order_41 rfl rfl ?_
          refine s_t1 dX_order_42 cs_X_178 (cab) rfl rfl rfl rfl ?_
          refine s_if_eq dX_order_45 (fun q => absurd q (by decide)) (fun _ => ?_)
          refine s_aload dX_order_48 rfl ?_
          refine s_ifnull dX_order_50 (fun _ => ?_) (fun q => by obtain ⟨_, q⟩ := q; cases q)
          refine s_iconst (v := (-1)) dX_order_73 (by decide) ?_
          refine s_iret dX_order_74 rfl (by first | exact Nat.le_refl _ | decide | omega) (by first | exact Nat.le_refl _ | decide | omega) ?_
          exact ⟨rfl, fT.rf, I0⟩
        · obtain ⟨⟨bi, hwi, mki, ebi, hbi, ei, -⟩, -⟩ := Ir.2.1 i hi
          unfold ruL at ei
          by_cases c1 : i = j
          · have hok : ordOk σ j n (nI i) R = false := by unfold ordOk; rw [q3]; simp [eab, c1]
            rw [hok]
            refine s_aload_n dX_order_0 rfl rfl ?_
            refine s_iload_n dX_order_1 rfl rfl ?_
            refine s_v1 dX_order_2 cv_X_135 (by repeat (first | exact up_self | assumption | rw [up_ne (by first | assumption | (intro q0; cases q0; done) | (intro q0; simp at q0; omega))])) (cra) rfl rfl rfl rfl ?_
            refine s_astore dX_order_5 rfl ?_
            refine s_aload dX_order_7 rfl ?_
            refine s_ifnull dX_order_9 (fun q => by cases q) (fun _ => ?_)
            refine s_iload_n dX_order_12 rfl rfl ?_
            refine s_if_lt dX_order_13 (fun q => absurd q (nI_nlt (b := 0) (by omega) (by omega))) (fun _ => ?_)
            refine s_iload_n dX_order_16 rfl rfl ?_
            refine s_iconst (v := nI 5) dX_order_17 (by decide) ?_
            refine s_icmp_le dX_order_18 (fun _ => ?_) (fun q => absurd (nI_le (by omega) (by omega)) q)
            refine s_iload_n dX_order_23 rfl rfl ?_
            refine s_t1 dX_order_24 cs_X_178 (cab) rfl rfl rfl rfl ?_
            refine s_if_eq dX_order_27 (fun q => absurd q (by decide)) (fun _ => ?_)
            refine s_aload_n dX_order_30 rfl rfl ?_
            refine s_iload_n dX_order_31 rfl rfl ?_
            refine s_v1 dX_order_32 cv_X_135 (by repeat (first | exact up_self | assumption | rw [up_ne (by first | assumption | (intro q0; cases q0; done) | (intro q0; simp at q0; omega))])) (c_ruleAt M0 Ir hR hi) rfl rfl rfl rfl ?_
            refine s_goto dX_order_35 ?_
            refine s_astore dX_order_39 rfl ?_
            refine s_iload_n dX_order_41 rfl rfl ?_
            refine s_t1 dX_order_42 cs_X_178 (cab) rfl rfl rfl rfl ?_
            refine s_if_eq dX_order_45 (fun q => absurd q (by decide)) (fun _ => ?_)
            refine s_aload dX_order_48 rfl ?_
            refine s_ifnull dX_order_50 (fun q => by cases q) (fun _ => ?_)
            refine s_aload dX_order_53 rfl ?_
            refine s_aload dX_order_55 rfl ?_
            refine s_acmp_eq dX_order_57 (fun _ => ?_) (fun q => absurd (by rw [c1]) q)
            refine s_iconst (v := (-1)) dX_order_73 (by decide) ?_
            refine s_iret dX_order_74 rfl (by first | exact Nat.le_refl _ | decide | omega) (by first | exact Nat.le_refl _ | decide | omega) ?_
            exact ⟨rfl, fT.rf, I0⟩
          · by_cases c2 : bi = b
            · have hok : ordOk σ j n (nI i) R = true := by simp [ordOk, eab, q3, c1, ebi, eb, c2]
              rw [if_pos hok, if_pos hok]
              refine s_aload_n dX_order_0 rfl rfl ?_
              refine s_iload_n dX_order_1 rfl rfl ?_
              refine s_v1 dX_order_2 cv_X_135 (by repeat (first | exact up_self | assumption | rw [up_ne (by first | assumption | (intro q0; cases q0; done) | (intro q0; simp at q0; omega))])) (cra) rfl rfl rfl rfl ?_
              refine s_astore dX_order_5 rfl ?_
              refine s_aload dX_order_7 rfl ?_
              refine s_ifnull dX_order_9 (fun q => by cases q) (fun _ => ?_)
              refine s_iload_n dX_order_12 rfl rfl ?_
              refine s_if_lt dX_order_13 (fun q => absurd q (nI_nlt (b := 0) (by omega) (by omega))) (fun _ => ?_)
              refine s_iload_n dX_order_16 rfl rfl ?_
              refine s_iconst (v := nI 5) dX_order_17 (by decide) ?_
              refine s_icmp_le dX_order_18 (fun _ => ?_) (fun q => absurd (nI_le (by omega) (by omega)) q)
              refine s_iload_n dX_order_23 rfl rfl ?_
              refine s_t1 dX_order_24 cs_X_178 (cab) rfl rfl rfl rfl ?_
              refine s_if_eq dX_order_27 (fun q => absurd q (by decide)) (fun _ => ?_)
              refine s_aload_n dX_order_30 rfl rfl ?_
              refine s_iload_n dX_order_31 rfl rfl ?_
              refine s_v1 dX_order_32 cv_X_135 (by repeat (first | exact up_self | assumption | rw [up_ne (by first | assumption | (intro q0; cases q0; done) | (intro q0; simp at q0; omega))])) (c_ruleAt M0 Ir hR hi) rfl rfl rfl rfl ?_
              refine s_goto dX_order_35 ?_
              refine s_astore dX_order_39 rfl ?_
              refine s_iload_n dX_order_41 rfl rfl ?_
              refine s_t1 dX_order_42 cs_X_178 (cab) rfl rfl rfl rfl ?_
              refine s_if_eq dX_order_45 (fun q => absurd q (by decide)) (fun _ => ?_)
              refine s_aload dX_order_48 rfl ?_
              refine s_ifnull dX_order_50 (fun q => by cases q) (fun _ => ?_)
              refine s_aload dX_order_53 rfl ?_
              refine s_aload dX_order_55 rfl ?_
              refine s_acmp_eq dX_order_57 (fun q => absurd q (fun q0 => c1 (by cases q0; rfl))) (fun _ => ?_)
              refine s_aload dX_order_60 rfl ?_
              refine s_get dX_order_62 gf_X_157 (by repeat (first | exact up_self | assumption | rw [up_ne (by first | assumption | (intro q0; cases q0; done) | (intro q0; simp at q0; omega))])) ?_
              refine s_aload dX_order_65 rfl ?_
              refine s_get dX_order_67 gf_X_157 (by repeat (first | exact up_self | assumption | rw [up_ne (by first | assumption | (intro q0; cases q0; done) | (intro q0; simp at q0; omega))])) ?_
              refine s_acmp_eq dX_order_70 (fun _ => ?_) (fun q => absurd (by rw [c2]) q)
              exact K75 (some (28, i, 0)) hok (fun _ => ⟨i, hi, c1, rfl, rfl⟩)
            · have hok : ordOk σ j n (nI i) R = false := by
                have : ¬ nI bi = nI b := nI_ne c2 (by omega) (by omega)
                simp [ordOk, eab, q3, c1, ebi, eb, this]
              rw [hok]
              refine s_aload_n dX_order_0 rfl rfl ?_
              refine s_iload_n dX_order_1 rfl rfl ?_
              refine s_v1 dX_order_2 cv_X_135 (by repeat (first | exact up_self | assumption | rw [up_ne (by first | assumption | (intro q0; cases q0; done) | (intro q0; simp at q0; omega))])) (cra) rfl rfl rfl rfl ?_
              refine s_astore dX_order_5 rfl ?_
              refine s_aload dX_order_7 rfl ?_
              refine s_ifnull dX_order_9 (fun q => by cases q) (fun _ => ?_)
              refine s_iload_n dX_order_12 rfl rfl ?_
              refine s_if_lt dX_order_13 (fun q => absurd q (nI_nlt (b := 0) (by omega) (by omega))) (fun _ => ?_)
              refine s_iload_n dX_order_16 rfl rfl ?_
              refine s_iconst (v := nI 5) dX_order_17 (by decide) ?_
              refine s_icmp_le dX_order_18 (fun _ => ?_) (fun q => absurd (nI_le (by omega) (by omega)) q)
              refine s_iload_n dX_order_23 rfl rfl ?_
              refine s_t1 dX_order_24 cs_X_178 (cab) rfl rfl rfl rfl ?_
              refine s_if_eq dX_order_27 (fun q => absurd q (by decide)) (fun _ => ?_)
              refine s_aload_n dX_order_30 rfl rfl ?_
              refine s_iload_n dX_order_31 rfl rfl ?_
              refine s_v1 dX_order_32 cv_X_135 (by repeat (first | exact up_self | assumption | rw [up_ne (by first | assumption | (intro q0; cases q0; done) | (intro q0; simp at q0; omega))])) (c_ruleAt M0 Ir hR hi) rfl rfl rfl rfl ?_
              refine s_goto dX_order_35 ?_
              refine s_astore dX_order_39 rfl ?_
              refine s_iload_n dX_order_41 rfl rfl ?_
              refine s_t1 dX_order_42 cs_X_178 (cab) rfl rfl rfl rfl ?_
              refine s_if_eq dX_order_45 (fun q => absurd q (by decide)) (fun _ => ?_)
              refine s_aload dX_order_48 rfl ?_
              refine s_ifnull dX_order_50 (fun q => by cases q) (fun _ => ?_)
              refine s_aload dX_order_53 rfl ?_
              refine s_aload dX_order_55 rfl ?_
              refine s_acmp_eq dX_order_57 (fun q => absurd q (fun q0 => c1 (by cases q0; rfl))) (fun _ => ?_)
              refine s_aload dX_order_60 rfl ?_
              refine s_get dX_order_62 gf_X_157 (by repeat (first | exact up_self | assumption | rw [up_ne (by first | assumption | (intro q0; cases q0; done) | (intro q0; simp at q0; omega))])) ?_
              refine s_aload dX_order_65 rfl ?_
              refine s_get dX_order_67 gf_X_157 (by repeat (first | exact up_self | assumption | rw [up_ne (by first | assumption | (intro q0; cases q0; done) | (intro q0; simp at q0; omega))])) ?_
              refine s_acmp_eq dX_order_70 (fun q => absurd q (fun q0 => c2 (by cases q0; rfl))) (fun _ => ?_)
              refine s_iconst (v := (-1)) dX_order_73 (by decide) ?_
              refine s_iret dX_order_74 rfl (by first | exact Nat.le_refl _ | decide | omega) (by first | exact Nat.le_refl _ | decide | omega) ?_
              exact ⟨rfl, fT.rf, I0⟩
