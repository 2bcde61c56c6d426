/-! books and rules of the class -/
def rL (l : List Nat) : List Nm := l.map fun r => (28, r, 0)
theorem rL_len {l : List Nat} : (rL l).length = l.length := by simp [rL]
theorem rL_get {l : List Nat} {i r : Nat} (h1 : l[i]? = some r) : (rL l)[i]? = some (28, r, 0) := by simp [rL, h1]
theorem rL_mem {l : List Nat} {x : Nm} (hx : x ∈ rL l) : ∃ r ∈ l, x = (28, r, 0) := by
  simp only [rL, List.mem_map] at hx
  obtain ⟨r, h1, h2⟩ := hx
  exact ⟨r, h1, h2.symm⟩
/-- one book -/
def bkC (h : Hp) (σ : Sg) (b : Nat) (own od rw0 : List Nat) : Prop := h (18, b, 0) = some (0, 0, fl [vI (σ 6 b), vR (19, b, 0), vR (20, b, 0), vR (22, b, 0), vR (24, b, 0)]) ∧ (∃ f, h (19, b, 0) = some (20, 4, f) ∧ ∀ x, x < 4 → f x = vI (σ 7 (4 * b + x))) ∧ LsT h (20, b, 0) (rL own) ∧ LsT h (22, b, 0) (rL od) ∧ LsT h (24, b, 0) (rL rw0)
def bC (h : Hp) (σ : Sg) (B : Nat) (own od rw0 : Nat → List Nat) : Prop := LsT h (16, 0, 0) (nmL 18 B) ∧ (∀ b, b < B → bkC h σ b (own b) (od b) (rw0 b)) ∧ ∀ b, B ≤ b → ∀ t, 18 ≤ t → t ≤ 25 → ∀ c, h (t, b, c) = none
/-- tags 18 .. 25 at b stay -/
theorem bkC.fr {h h' : Hp} {σ σ' : Sg} {b : Nat} {own od rw0 : List Nat} (I : bkC h σ b own od rw0) (h1 : ∀ t c, 18 ≤ t → t ≤ 25 → h' (t, b, c) = h (t, b, c)) (h2 : σ' 6 b = σ 6 b) (h3 : ∀ j, σ' 7 j = σ 7 j) : bkC h' σ' b own od rw0 := by
  obtain ⟨e1, ⟨f, e2, e3⟩, e4, e5, e6⟩ := I
  have L : ∀ t l, 18 ≤ t → t + 1 ≤ 25 → LsT h (t, b, 0) l → LsT h' (t, b, 0) l := fun t l q1 q2 I => by
    obtain ⟨cap, z, f, a1, a2, a3, a4, a5, a6, a7⟩ := I
    exact ⟨cap, z, f, by rw [h1 t 0 q1 (by omega)]; exact a1, a2, a3, fun c q => by show h' (t + 1, b, c) = none; rw [h1 (t + 1) c (by omega) q2]; exact a4 c q, fun q => by show h' (t + 1, b, cap) = _; rw [h1 (t + 1) cap (by omega) q2]; exact a5 q, a6, a7⟩
  refine ⟨by rw [h1 18 0 (by omega) (by omega), h2]; exact e1, ⟨f, by rw [h1 19 0 (by omega) (by omega)]; exact e2, fun x q1 => by rw [h3]; exact e3 x q1⟩, L 20 _ (by omega) (by omega) e4, L 22 _ (by omega) (by omega) e5, L 24 _ (by omega) (by omega) e6⟩
theorem bC.fr {h h' : Hp} {σ σ' : Sg} {B : Nat} {own od rw0 : Nat → List Nat} (I : bC h σ B own od rw0) (h1 : agT 16 25 h h') (h2 : ∀ j, σ' 6 j = σ 6 j) (h3 : ∀ j, σ' 7 j = σ 7 j) : bC h' σ' B own od rw0 := by
  obtain ⟨e1, e2, e3⟩ := I
  refine ⟨e1.ag (h1.s (by decide) (by decide)), fun b q1 => (e2 b q1).fr (fun t c q2 q3 => h1 _ (show 16 ≤ t by omega) q3) (h2 b) h3, fun b q1 t q2 q3 c => ?_⟩
  rw [h1 (t, b, c) (show 16 ≤ t by omega) q3]
  exact e3 b q1 t q2 q3 c
theorem bC.el {h : Hp} {σ : Sg} {B : Nat} {own od rw0 : Nat → List Nat} (I : bC h σ B own od rw0) : EL (16, 0, 0) h (nmL 18 B) := fun x hx1 => by
  obtain ⟨s, q1, rfl⟩ := nmL_mem hx1
  exact ⟨show (18 : Nat) ≠ 16 by decide, show (18 : Nat) ≠ 17 by decide, 0, _, by unfold isE; omega, (I.2.1 s q1).1⟩
/-- one rule -/
def ruL (σ : Sg) (r b : Nat) (hw : Int32) (mk : Option Nm) : List PV := [vI (nI r), vR (18, b, 0), vI (σ 10 r), vI (σ 11 r), vR (29, r, 0), vI (nI (dps σ r (nt (σ 13 r)))), vI (σ 14 (3 * r)), vI (σ 14 (3 * r + 1)), vI (σ 14 (3 * r + 2)), vI hw, vO mk]
def cdL (σ : Sg) (r k : Nat) : List PV := [vI (nI (bs (cCd σ r k))), vI (zi (decide (10 ≤ cCd σ r k))), vI (σ 12 (12 * r + 3 * k + 1)), vI (cYy σ r k)]
def cnL (r m : Nat) : List Nm := (List.range m).map fun k => (31, r, k)
def ruC (h : Hp) (σ : Sg) (r : Nat) : Prop := (∃ b hw mk, σ 9 r = nI b ∧ b < 12 ∧ h (28, r, 0) = some (5, 0, fl (ruL σ r b hw mk)) ∧ (¬ σ 15 r = -4 → hw = σ 15 r ∧ (isAb (nt (σ 15 r)) = true → mk = some (28, nt (σ 16 r), 0)))) ∧ LsT h (29, r, 0) (cnL r (nt (σ 13 r))) ∧ ∀ k, (k < nt (σ 13 r) → h (31, r, k) = some (1, 0, fl (cdL σ r k))) ∧ (nt (σ 13 r) ≤ k → h (31, r, k) = none)
def rC (h : Hp) (σ : Sg) (R : Nat) : Prop := LsT h (26, 0, 0) (nmL 28 R) ∧ (∀ r, r < R → ruC h σ r) ∧ ∀ r, R ≤ r → ∀ t, 28 ≤ t → t ≤ 31 → ∀ c, h (t, r, c) = none
/-- the fields that a rule's cell shows -/
def rv (σ σ' : Sg) (r : Nat) : Prop := σ' 9 r = σ 9 r ∧ σ' 10 r = σ 10 r ∧ σ' 11 r = σ 11 r ∧ σ' 13 r = σ 13 r ∧ σ' 15 r = σ 15 r ∧ σ' 16 r = σ 16 r ∧ (∀ j, j < 3 → σ' 14 (3 * r + j) = σ 14 (3 * r + j)) ∧ (∀ j, j < 12 → σ' 12 (12 * r + j) = σ 12 (12 * r + j))
theorem LsT.at {h h' : Hp} {t i : Nat} {l : List Nm} (I : LsT h (t, i, 0) l) (h1 : h' (t, i, 0) = h (t, i, 0)) (h2 : ∀ c, h' (t + 1, i, c) = h (t + 1, i, c)) : LsT h' (t, i, 0) l := by
  obtain ⟨cap, z, f, a1, a2, a3, a4, a5, a6, a7⟩ := I
  exact ⟨cap, z, f, by rw [h1]; exact a1, a2, a3, fun c q => by show h' (t + 1, i, c) = none; rw [h2]; exact a4 c q, fun q => by show h' (t + 1, i, cap) = _; rw [h2]; exact a5 q, a6, a7⟩
theorem ruC.fr {h h' : Hp} {σ σ' : Sg} {r : Nat} (I : ruC h σ r) (hm : nt (σ 13 r) ≤ 4) (h1 : ∀ t c, 28 ≤ t → t ≤ 31 → h' (t, r, c) = h (t, r, c)) (h2 : rv σ σ' r) (h3 : dps σ' r (nt (σ 13 r)) = dps σ r (nt (σ 13 r))) : ruC h' σ' r := by
  obtain ⟨⟨b, hw, mk, e1, e2, e3, e4⟩, e5, e6⟩ := I
  obtain ⟨v1, v2, v3, v4, v5, v6, v7, v8⟩ := h2
  have d0 := v7 0 (by omega)
  have d1 := v7 1 (by omega)
  have d2 := v7 2 (by omega)
  refine ⟨⟨b, hw, mk, by rw [v1]; exact e1, e2, ?_, by rw [v5, v6]; exact e4⟩, ?_, fun k => ⟨fun q1 => ?_, fun q1 => ?_⟩⟩
  · rw [h1 28 0 (by omega) (by omega), e3]
    unfold ruL
    rw [v2, v3, v4, h3, show 3 * r = 3 * r + 0 from rfl, d0, d1, d2]
  · rw [v4]; exact e5.at (h1 29 0 (by omega) (by omega)) (fun c => h1 30 c (by omega) (by omega))
  · rw [v4] at q1
    rw [h1 31 k (by omega) (by omega), (e6 k).1 q1]
    have c0 := v8 (3 * k) (by omega)
    have c1 := v8 (3 * k + 1) (by omega)
    have c2 := v8 (3 * k + 2) (by omega)
    unfold cdL cCd cYy
    rw [show 12 * r + 3 * k + 1 = 12 * r + (3 * k + 1) by omega, show 12 * r + 3 * k + 2 = 12 * r + (3 * k + 2) by omega, c0, c1, c2]
  · rw [v4] at q1
    rw [h1 31 k (by omega) (by omega)]
    exact (e6 k).2 q1
theorem rC.fr {h h' : Hp} {σ σ' : Sg} {R : Nat} (I : rC h σ R) (hm : ∀ r, r < R → nt (σ 13 r) ≤ 4) (h1 : agT 26 31 h h') (h2 : ∀ r, r < R → rv σ σ' r) (h3 : ∀ r, r < R → dps σ' r (nt (σ 13 r)) = dps σ r (nt (σ 13 r))) : rC h' σ' R := by
  obtain ⟨e1, e2, e3⟩ := I
  refine ⟨e1.ag (h1.s (by decide) (by decide)), fun r q1 => (e2 r q1).fr (hm r q1) (fun t c q2 q3 => h1 _ (show 26 ≤ t by omega) q3) (h2 r q1) (h3 r q1), fun r q1 t q2 q3 c => ?_⟩
  rw [h1 (t, r, c) (show 26 ≤ t by omega) q3]
  exact e3 r q1 t q2 q3 c
theorem rC.ob {h : Hp} {σ : Sg} {R r : Nat} (I : rC h σ R) (hr : r < R) {t : Nm} (h1 : t.1 ≠ 28) (h2 : t.1 ≠ 27) : OBJ t h (28, r, 0) := by
  obtain ⟨⟨b, hw, mk, -, -, e3, -⟩, -⟩ := I.2.1 r hr
  exact ⟨fun z1 => h1 z1.symm, fun z1 => h2 (by have : 28 = t.1 + 1 := z1; omega), 5, _, by unfold isE; omega, e3⟩
theorem rC.el {h : Hp} {σ : Sg} {R : Nat} (I : rC h σ R) {t : Nm} (h1 : t.1 ≠ 28) (h2 : t.1 ≠ 27) {l : List Nat} (hl : ∀ r ∈ l, r < R) : EL t h (rL l) := fun x hx1 => by
  obtain ⟨r, q1, rfl⟩ := rL_mem hx1
  exact I.ob (hl r q1) h1 h2
theorem c_bookAt {h : Hp} {σ : Sg} {B j : Nat} {own od rw0 : Nat → List Nat} {a v o tb : Int32} (M1 : mnC h a v o tb) (I : bC h σ B own od rw0) (hB : B ≤ 12) (hj : j < B) : ConF mX_bookAt 3 [vR (10, 0, 0), vI (nI j)] h (some (vR (18, j, 0))) h := by
  unfold mnC at M1
  have e1 := (I.2.1 j hj).1
  obtain ⟨cap, z, f, e2, -⟩ := id I.1
  have cs := c_size I.1
  rw [nmL_len] at cs
  refine c_enter (by decide +kernel) rfl rfl ?_
  refine s_iload_n dX_bookAt_0 rfl rfl ?_
  refine s_if_lt dX_bookAt_1 (fun q => absurd q (nI_nlt (b := 0) (by omega) (by omega))) (fun _ => ?_)
  refine s_iload_n dX_bookAt_4 rfl rfl ?_
  refine s_aload_n dX_bookAt_5 rfl rfl ?_
  refine s_get dX_bookAt_6 gf_X_23 (by repeat (first | exact up_self | assumption | rw [up_ne (by first | assumption | (intro q0; cases q0; done) | (intro q0; simp at q0; omega))])) ?_
  refine s_v0 dX_bookAt_9 cv_X_91 (by repeat (first | exact up_self | assumption | rw [up_ne (by first | assumption | (intro q0; cases q0; done) | (intro q0; simp at q0; omega))])) (cs) rfl rfl rfl rfl ?_
  refine s_icmp_ge dX_bookAt_12 (fun q => absurd q (nI_ge hj (by omega))) (fun _ => ?_)
  refine s_aload_n dX_bookAt_15 rfl rfl ?_
  refine s_get dX_bookAt_16 gf_X_23 (by repeat (first | exact up_self | assumption | rw [up_ne (by first | assumption | (intro q0; cases q0; done) | (intro q0; simp at q0; omega))])) ?_
  refine s_iload_n dX_bookAt_19 rfl rfl ?_
  refine s_v1 dX_bookAt_20 cv_X_194 (by repeat (first | exact up_self | assumption | rw [up_ne (by first | assumption | (intro q0; cases q0; done) | (intro q0; simp at q0; omega))])) (c_get I.1 (nmL_get hj)) rfl rfl rfl rfl ?_
  refine s_cast dX_bookAt_23 (by decide) (nw_X_113).2.1 (by repeat (first | exact up_self | assumption | rw [up_ne (by first | assumption | (intro q0; cases q0; done) | (intro q0; simp at q0; omega))])) ?_
  refine s_goto dX_bookAt_26 ?_
  refine s_aret dX_bookAt_30 rfl (by first | exact Or.inl ⟨_, rfl⟩ | exact Or.inr ⟨_, rfl⟩) (by first | exact Nat.le_refl _ | decide | omega) (by first | exact Nat.le_refl _ | decide | omega) ?_
  exact ⟨rfl, rfl⟩
theorem c_bookNo {h : Hp} {σ : Sg} {B : Nat} {own od rw0 : Nat → List Nat} {p a v o tb : Int32} (M1 : mnC h a v o tb) (I : bC h σ B own od rw0) (hB : B ≤ 12) (hz : Iy 0 p B) : ConF mX_bookAt 3 [vR (10, 0, 0), vI p] h (some vN) h := by
  unfold mnC at M1
  obtain ⟨cap, z, f, e2, -⟩ := id I.1
  have cs := c_size I.1
  rw [nmL_len] at cs
  rcases hz with ⟨z1, -⟩ | ⟨-, hn⟩
  · cases z1
  · refine c_enter (by decide +kernel) rfl rfl ?_
    by_cases c1 : p < 0
    · refine s_iload_n dX_bookAt_0 rfl rfl ?_
      refine s_if_lt dX_bookAt_1 (fun _ => ?_) (fun q => absurd c1 q)
      refine s_null dX_bookAt_29 ?_
      refine s_aret dX_bookAt_30 rfl (by first | exact Or.inl ⟨_, rfl⟩ | exact Or.inr ⟨_, rfl⟩) (by first | exact Nat.le_refl _ | decide | omega) (by first | exact Nat.le_refl _ | decide | omega) ?_
      exact ⟨rfl, rfl⟩
    · refine s_iload_n dX_bookAt_0 rfl rfl ?_
      refine s_if_lt dX_bookAt_1 (fun q => absurd q c1) (fun _ => ?_)
      refine s_iload_n dX_bookAt_4 rfl rfl ?_
      refine s_aload_n dX_bookAt_5 rfl rfl ?_
      refine s_get dX_bookAt_6 gf_X_23 (by repeat (first | exact up_self | assumption | rw [up_ne (by first | assumption | (intro q0; cases q0; done) | (intro q0; simp at q0; omega))])) ?_
      refine s_v0 dX_bookAt_9 cv_X_91 (by repeat (first | exact up_self | assumption | rw [up_ne (by first | assumption | (intro q0; cases q0; done) | (intro q0; simp at q0; omega))])) (cs) rfl rfl rfl rfl ?_
      refine s_icmp_ge dX_bookAt_12 (fun _ => ?_) (fun q => absurd (Int32.not_lt.mp fun z1 => hn ⟨Int32.not_lt.mp c1, z1⟩) q)
      refine s_null dX_bookAt_29 ?_
      refine s_aret dX_bookAt_30 rfl (by first | exact Or.inl ⟨_, rfl⟩ | exact Or.inr ⟨_, rfl⟩) (by first | exact Nat.le_refl _ | decide | omega) (by first | exact Nat.le_refl _ | decide | omega) ?_
      exact ⟨rfl, rfl⟩
theorem c_ruleAt {h : Hp} {σ : Sg} {R j : Nat} {a v o tb : Int32} (M1 : mnC h a v o tb) (I : rC h σ R) (hR : R ≤ 60) (hj : j < R) : ConF mX_ruleAt 3 [vR (10, 0, 0), vI (nI j)] h (some (vR (28, j, 0))) h := by
  unfold mnC at M1
  obtain ⟨⟨b, hw, mk, -, -, e1, -⟩, -⟩ := I.2.1 j hj
  obtain ⟨cap, z, f, e2, -⟩ := id I.1
  have cs := c_size I.1
  rw [nmL_len] at cs
  refine c_enter (by decide +kernel) rfl rfl ?_
  refine s_iload_n dX_ruleAt_0 rfl rfl ?_
  refine s_if_lt dX_ruleAt_1 (fun q => absurd q (nI_nlt (b := 0) (by omega) (by omega))) (fun _ => ?_)
  refine s_iload_n dX_ruleAt_4 rfl rfl ?_
  refine s_aload_n dX_ruleAt_5 rfl rfl ?_
  refine s_get dX_ruleAt_6 gf_X_26 (by repeat (first | exact up_self | assumption | rw [up_ne (by first | assumption | (intro q0; cases q0; done) | (intro q0; simp at q0; omega))])) ?_
  refine s_v0 dX_ruleAt_9 cv_X_91 (by repeat (first | exact up_self | assumption | rw [up_ne (by first | assumption | (intro q0; cases q0; done) | (intro q0; simp at q0; omega))])) (cs) rfl rfl rfl rfl ?_
  refine s_icmp_ge dX_ruleAt_12 (fun q => absurd q (nI_ge hj (by omega))) (fun _ => ?_)
  refine s_aload_n dX_ruleAt_15 rfl rfl ?_
  refine s_get dX_ruleAt_16 gf_X_26 (by repeat (first | exact up_self | assumption | rw [up_ne (by first | assumption | (intro q0; cases q0; done) | (intro q0; simp at q0; omega))])) ?_
  refine s_iload_n dX_ruleAt_19 rfl rfl ?_
  refine s_v1 dX_ruleAt_20 cv_X_194 (by repeat (first | exact up_self | assumption | rw [up_ne (by first | assumption | (intro q0; cases q0; done) | (intro q0; simp at q0; omega))])) (c_get I.1 (nmL_get hj)) rfl rfl rfl rfl ?_
  refine s_cast dX_ruleAt_23 (by decide) (nw_X_123).2.1 (by repeat (first | exact up_self | assumption | rw [up_ne (by first | assumption | (intro q0; cases q0; done) | (intro q0; simp at q0; omega))])) ?_
  refine s_goto dX_ruleAt_26 ?_
  refine s_aret dX_ruleAt_30 rfl (by first | exact Or.inl ⟨_, rfl⟩ | exact Or.inr ⟨_, rfl⟩) (by first | exact Nat.le_refl _ | decide | omega) (by first | exact Nat.le_refl _ | decide | omega) ?_
  exact ⟨rfl, rfl⟩
theorem c_ruleNo {h : Hp} {σ : Sg} {R : Nat} {p a v o tb : Int32} (M1 : mnC h a v o tb) (I : rC h σ R) (hR : R ≤ 60) (hz : Iy 0 p R) : ConF mX_ruleAt 3 [vR (10, 0, 0), vI p] h (some vN) h := by
  unfold mnC at M1
  obtain ⟨cap, z, f, e2, -⟩ := id I.1
  have cs := c_size I.1
  rw [nmL_len] at cs
  rcases hz with ⟨z1, -⟩ | ⟨-, hn⟩
  · cases z1
  · refine c_enter (by decide +kernel) rfl rfl ?_
    by_cases c1 : p < 0
    · refine s_iload_n dX_ruleAt_0 rfl rfl ?_
      refine s_if_lt dX_ruleAt_1 (fun _ => ?_) (fun q => absurd c1 q)
      refine s_null dX_ruleAt_29 ?_
      refine s_aret dX_ruleAt_30 rfl (by first | exact Or.inl ⟨_, rfl⟩ | exact Or.inr ⟨_, rfl⟩) (by first | exact Nat.le_refl _ | decide | omega) (by first | exact Nat.le_refl _ | decide | omega) ?_
      exact ⟨rfl, rfl⟩
    · refine s_iload_n dX_ruleAt_0 rfl rfl ?_
      refine s_if_lt dX_ruleAt_1 (fun q => absurd q c1) (fun _ => ?_)
      refine s_iload_n dX_ruleAt_4 rfl rfl ?_
      refine s_aload_n dX_ruleAt_5 rfl rfl ?_
      refine s_get dX_ruleAt_6 gf_X_26 (by repeat (first | exact up_self | assumption | rw [up_ne (by first | assumption | (intro q0; cases q0; done) | (intro q0; simp at q0; omega))])) ?_
      refine s_v0 dX_ruleAt_9 cv_X_91 (by repeat (first | exact up_self | assumption | rw [up_ne (by first | assumption | (intro q0; cases q0; done) | (intro q0; simp at q0; omega))])) (cs) rfl rfl rfl rfl ?_
      refine s_icmp_ge dX_ruleAt_12 (fun _ => ?_) (fun q => absurd (Int32.not_lt.mp fun z1 => hn ⟨Int32.not_lt.mp c1, z1⟩) q)
      refine s_null dX_ruleAt_29 ?_
      refine s_aret dX_ruleAt_30 rfl (by first | exact Or.inl ⟨_, rfl⟩ | exact Or.inr ⟨_, rfl⟩) (by first | exact Nat.le_refl _ | decide | omega) (by first | exact Nat.le_refl _ | decide | omega) ?_
      exact ⟨rfl, rfl⟩
theorem c_Book_init {h : Hp} {b : Nat} {k : Int32} (e1 : h (18, b, 0) = some (0, 0, fl [vI 0, vN, vN, vN, vN])) (e2 : h (19, b, 0) = none) (e3 : h (20, b, 0) = none) (e4 : h (22, b, 0) = none) (e5 : h (24, b, 0) = none) :
    Con mBook_init 4 4 13 [vR (18, b, 0), vI k] h (fun v h' => v = none ∧ h' (18, b, 0) = some (0, 0, fl [vI k, vR (19, b, 0), vR (20, b, 0), vR (22, b, 0), vR (24, b, 0)]) ∧ h' (19, b, 0) = some (20, 4, fun _ => vI 0) ∧ h' (20, b, 0) = some (13, 0, fl [vR (1, 0, 0), vI 0, vI 0]) ∧ h' (22, b, 0) = some (13, 0, fl [vR (1, 0, 0), vI 0, vI 0]) ∧ h' (24, b, 0) = some (13, 0, fl [vR (1, 0, 0), vI 0, vI 0]) ∧ ∀ n, n ≠ (18, b, 0) → n ≠ (19, b, 0) → n ≠ (20, b, 0) → n ≠ (22, b, 0) → n ≠ (24, b, 0) → h' n = h n) := by
  refine c_enter (by decide +kernel) rfl rfl ?_
  refine s_aload_n dBook_init_0 rfl rfl ?_
  refine s_objInit dBook_init_1 ob_Book_3 rfl rfl ?_
  refine s_aload_n dBook_init_4 rfl rfl ?_
  refine s_iconst (v := nI 4) dBook_init_5 (by decide) ?_
  refine s_newa (19, b, 0) _ dBook_init_6 rfl ⟨Or.inl rfl, ac20⟩ rfl rfl e2 rfl rfl ?_
  refine s_putF dBook_init_8 gf_Book_9 (by repeat (first | exact up_self | assumption | rw [up_ne (by first | assumption | (intro q0; cases q0; done) | (intro q0; simp at q0; omega))])) (by first | rfl | assumption) rfl (by first | exact Or.inl rfl | exact Or.inr ⟨rfl, rfl⟩) (by first | exact ⟨_, rfl⟩ | exact Or.inl rfl | exact Or.inr rfl | assumption) ?_
  refine s_aload_n dBook_init_11 rfl rfl ?_
  have f3 : up (up h (19, b, 0) (20, 4, fun _ => vI 0)) (18, b, 0) (0, 0, fl [vI 0, vR (19, b, 0), vN, vN, vN]) (20, b, 0) = none := by rw [up_ne (fun q0 => by cases q0), up_ne (fun q0 => by cases q0)]; exact e3
  have f4 : up (up h (19, b, 0) (20, 4, fun _ => vI 0)) (18, b, 0) (0, 0, fl [vI 0, vR (19, b, 0), vN, vN, vN]) (22, b, 0) = none := by rw [up_ne (fun q0 => by cases q0), up_ne (fun q0 => by cases q0)]; exact e4
  have f5 : up (up h (19, b, 0) (20, 4, fun _ => vI 0)) (18, b, 0) (0, 0, fl [vI 0, vR (19, b, 0), vN, vN, vN]) (24, b, 0) = none := by rw [up_ne (fun q0 => by cases q0), up_ne (fun q0 => by cases q0)]; exact e5
  have f1 : up (up h (19, b, 0) (20, 4, fun _ => vI 0)) (18, b, 0) (0, 0, fl [vI 0, vR (19, b, 0), vN, vN, vN]) (18, b, 0) = some (0, 0, fl [vI 0, vR (19, b, 0), vN, vN, vN]) := up_self
  have f2 : up (up h (19, b, 0) (20, 4, fun _ => vI 0)) (18, b, 0) (0, 0, fl [vI 0, vR (19, b, 0), vN, vN, vN]) (19, b, 0) = some (20, 4, fun _ => vI 0) := by rw [up_ne (fun q0 => by cases q0), up_self]
  have fo : ∀ n, n ≠ (18, b, 0) → n ≠ (19, b, 0) → up (up h (19, b, 0) (20, 4, fun _ => vI 0)) (18, b, 0) (0, 0, fl [vI 0, vR (19, b, 0), vN, vN, vN]) n = h n := fun n q1 q2 => by rw [up_ne q1, up_ne q2]
  refine s_hp (h' := up (up h (19, b, 0) (20, 4, fun _ => vI 0)) (18, b, 0) (0, 0, fl [vI 0, vR (19, b, 0), vN, vN, vN])) rfl ?_
  generalize up (up h (19, b, 0) (20, 4, fun _ => vI 0)) (18, b, 0) (0, 0, fl [vI 0, vR (19, b, 0), vN, vN, vN]) = h1 at f1 f2 f3 f4 f5 fo ⊢
  refine s_newF ((20, b, 0)) ([vN, vI 0, vI 0]) dBook_init_12 nw_Book_15 rfl (by first | rfl | assumption) f3 rfl rfl ?_
  refine s_dup dBook_init_15 rfl ?_
  refine s_callI (As := []) dBook_init_16 ci_Book_17 (c_ALi up_self rfl) (by first | rfl | exact Nat.ble_eq_true_of_le (by omega)) (by first | rfl | exact Nat.ble_eq_true_of_le (by omega)) (by first | rfl | exact Nat.ble_eq_true_of_le (by omega)) rfl (fun v0 h2 q0 => ?_)
  obtain ⟨rfl, rfl⟩ := q0
  refine s_putF dBook_init_19 gf_Book_18 (by repeat (first | exact up_self | assumption | rw [up_ne (by first | assumption | (intro q0; cases q0; done) | (intro q0; simp at q0; omega))])) (by first | rfl | assumption) rfl (by first | exact Or.inl rfl | exact Or.inr ⟨rfl, rfl⟩) (by first | exact ⟨_, rfl⟩ | exact Or.inl rfl | exact Or.inr rfl | assumption) ?_
  rw [up_up]
  have g1 : up (up h1 (20, b, 0) (13, 0, fl [vR (1, 0, 0), vI 0, vI 0])) (18, b, 0) (0, 0, fl [vI 0, vR (19, b, 0), vR (20, b, 0), vN, vN]) (18, b, 0) = some (0, 0, fl [vI 0, vR (19, b, 0), vR (20, b, 0), vN, vN]) := up_self
  have g4 : up (up h1 (20, b, 0) (13, 0, fl [vR (1, 0, 0), vI 0, vI 0])) (18, b, 0) (0, 0, fl [vI 0, vR (19, b, 0), vR (20, b, 0), vN, vN]) (22, b, 0) = none := by rw [up_ne (fun q0 => by cases q0), up_ne (fun q0 => by cases q0)]; exact f4
  have g5 : up (up h1 (20, b, 0) (13, 0, fl [vR (1, 0, 0), vI 0, vI 0])) (18, b, 0) (0, 0, fl [vI 0, vR (19, b, 0), vR (20, b, 0), vN, vN]) (24, b, 0) = none := by rw [up_ne (fun q0 => by cases q0), up_ne (fun q0 => by cases q0)]; exact f5
  have g3 : up (up h1 (20, b, 0) (13, 0, fl [vR (1, 0, 0), vI 0, vI 0])) (18, b, 0) (0, 0, fl [vI 0, vR (19, b, 0), vR (20, b, 0), vN, vN]) (20, b, 0) = some (13, 0, fl [vR (1, 0, 0), vI 0, vI 0]) := by rw [up_ne (fun q0 => by cases q0), up_self]
  have go : ∀ n, n ≠ (18, b, 0) → n ≠ (20, b, 0) → up (up h1 (20, b, 0) (13, 0, fl [vR (1, 0, 0), vI 0, vI 0])) (18, b, 0) (0, 0, fl [vI 0, vR (19, b, 0), vR (20, b, 0), vN, vN]) n = h1 n := fun n q1 q2 => by rw [up_ne q1, up_ne q2]
  refine s_hp (h' := up (up h1 (20, b, 0) (13, 0, fl [vR (1, 0, 0), vI 0, vI 0])) (18, b, 0) (0, 0, fl [vI 0, vR (19, b, 0), vR (20, b, 0), vN, vN])) rfl ?_
  generalize up (up h1 (20, b, 0) (13, 0, fl [vR (1, 0, 0), vI 0, vI 0])) (18, b, 0) (0, 0, fl [vI 0, vR (19, b, 0), vR (20, b, 0), vN, vN]) = h2 at g1 g3 g4 g5 go ⊢
  refine s_aload_n dBook_init_22 rfl rfl ?_
  refine s_newF ((22, b, 0)) ([vN, vI 0, vI 0]) dBook_init_23 nw_Book_15 rfl (by first | rfl | assumption) g4 rfl rfl ?_
  refine s_dup dBook_init_26 rfl ?_
  refine s_callI (As := []) dBook_init_27 ci_Book_17 (c_ALi up_self rfl) (by first | rfl | exact Nat.ble_eq_true_of_le (by omega)) (by first | rfl | exact Nat.ble_eq_true_of_le (by omega)) (by first | rfl | exact Nat.ble_eq_true_of_le (by omega)) rfl (fun v0 h3 q0 => ?_)
  obtain ⟨rfl, rfl⟩ := q0
  refine s_putF dBook_init_30 gf_Book_22 (by repeat (first | exact up_self | assumption | rw [up_ne (by first | assumption | (intro q0; cases q0; done) | (intro q0; simp at q0; omega))])) (by first | rfl | assumption) rfl (by first | exact Or.inl rfl | exact Or.inr ⟨rfl, rfl⟩) (by first | exact ⟨_, rfl⟩ | exact Or.inl rfl | exact Or.inr rfl | assumption) ?_
  rw [up_up]
  have k1 : up (up h2 (22, b, 0) (13, 0, fl [vR (1, 0, 0), vI 0, vI 0])) (18, b, 0) (0, 0, fl [vI 0, vR (19, b, 0), vR (20, b, 0), vR (22, b, 0), vN]) (18, b, 0) = some (0, 0, fl [vI 0, vR (19, b, 0), vR (20, b, 0), vR (22, b, 0), vN]) := up_self
  have k5 : up (up h2 (22, b, 0) (13, 0, fl [vR (1, 0, 0), vI 0, vI 0])) (18, b, 0) (0, 0, fl [vI 0, vR (19, b, 0), vR (20, b, 0), vR (22, b, 0), vN]) (24, b, 0) = none := by rw [up_ne (fun q0 => by cases q0), up_ne (fun q0 => by cases q0)]; exact g5
  have k4 : up (up h2 (22, b, 0) (13, 0, fl [vR (1, 0, 0), vI 0, vI 0])) (18, b, 0) (0, 0, fl [vI 0, vR (19, b, 0), vR (20, b, 0), vR (22, b, 0), vN]) (22, b, 0) = some (13, 0, fl [vR (1, 0, 0), vI 0, vI 0]) := by rw [up_ne (fun q0 => by cases q0), up_self]
  have ko : ∀ n, n ≠ (18, b, 0) → n ≠ (22, b, 0) → up (up h2 (22, b, 0) (13, 0, fl [vR (1, 0, 0), vI 0, vI 0])) (18, b, 0) (0, 0, fl [vI 0, vR (19, b, 0), vR (20, b, 0), vR (22, b, 0), vN]) n = h2 n := fun n q1 q2 => by rw [up_ne q1, up_ne q2]
  refine s_hp (h' := up (up h2 (22, b, 0) (13, 0, fl [vR (1, 0, 0), vI 0, vI 0])) (18, b, 0) (0, 0, fl [vI 0, vR (19, b, 0), vR (20, b, 0), vR (22, b, 0), vN])) rfl ?_
  generalize up (up h2 (22, b, 0) (13, 0, fl [vR (1, 0, 0), vI 0, vI 0])) (18, b, 0) (0, 0, fl [vI 0, vR (19, b, 0), vR (20, b, 0), vR (22, b, 0), vN]) = h3 at k1 k4 k5 ko ⊢
  refine s_aload_n dBook_init_33 rfl rfl ?_
  refine s_newF ((24, b, 0)) ([vN, vI 0, vI 0]) dBook_init_34 nw_Book_15 rfl (by first | rfl | assumption) k5 rfl rfl ?_
  refine s_dup dBook_init_37 rfl ?_
  refine s_callI (As := []) dBook_init_38 ci_Book_17 (c_ALi up_self rfl) (by first | rfl | exact Nat.ble_eq_true_of_le (by omega)) (by first | rfl | exact Nat.ble_eq_true_of_le (by omega)) (by first | rfl | exact Nat.ble_eq_true_of_le (by omega)) rfl (fun v0 h4 q0 => ?_)
  obtain ⟨rfl, rfl⟩ := q0
  refine s_putF dBook_init_41 gf_Book_25 (by repeat (first | exact up_self | assumption | rw [up_ne (by first | assumption | (intro q0; cases q0; done) | (intro q0; simp at q0; omega))])) (by first | rfl | assumption) rfl (by first | exact Or.inl rfl | exact Or.inr ⟨rfl, rfl⟩) (by first | exact ⟨_, rfl⟩ | exact Or.inl rfl | exact Or.inr rfl | assumption) ?_
  refine s_aload_n dBook_init_44 rfl rfl ?_
  refine s_iload_n dBook_init_45 rfl rfl ?_
  refine s_putF dBook_init_46 gf_Book_28 (by repeat (first | exact up_self | assumption | rw [up_ne (by first | assumption | (intro q0; cases q0; done) | (intro q0; simp at q0; omega))])) (by first | rfl | assumption) rfl (by first | exact Or.inl rfl | exact Or.inr ⟨rfl, rfl⟩) (by first | exact ⟨_, rfl⟩ | exact Or.inl rfl | exact Or.inr rfl | assumption) ?_
  refine s_vret dBook_init_49 rfl (by first | exact Nat.le_refl _ | decide | omega) (by first | exact Nat.le_refl _ | decide | omega) ?_
  rw [up_up, up_up]
  refine ⟨rfl, up_self, ?_, ?_, ?_, ?_, fun n q1 q2 q3 q4 q5 => ?_⟩
  · rw [up_ne (fun q0 => by cases q0), up_ne (fun q0 => by cases q0), ko _ (fun q0 => by cases q0) (fun q0 => by cases q0), go _ (fun q0 => by cases q0) (fun q0 => by cases q0)]; exact f2
  · rw [up_ne (fun q0 => by cases q0), up_ne (fun q0 => by cases q0), ko _ (fun q0 => by cases q0) (fun q0 => by cases q0)]; exact g3
  · rw [up_ne (fun q0 => by cases q0), up_ne (fun q0 => by cases q0)]; exact k4
  · rw [up_ne (fun q0 => by cases q0), up_self]
  · rw [up_ne q1, up_ne q5, ko _ q1 q4, go _ q1 q3, fo _ q1 q2]
