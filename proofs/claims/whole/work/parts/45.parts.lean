/-! the class's heap, part by part -/
def fT (ts : List Nat) (h h' : Hp) : Prop := ∀ n, n.1 ∉ ts → h' n = h n
theorem fT.rf {ts : List Nat} {h : Hp} : fT ts h h := fun _ _ => rfl
theorem fT.tr {ts : List Nat} {a b c : Hp} (h1 : fT ts a b) (h2 : fT ts b c) : fT ts a c := fun n q1 => (h2 n q1).trans (h1 n q1)
theorem fT.mo {ts ts' : List Nat} {a b : Hp} (h1 : fT ts a b) (h2 : ∀ x ∈ ts, x ∈ ts') : fT ts' a b := fun n q1 => h1 n fun q2 => q1 (h2 _ q2)
theorem fT.u {ts : List Nat} {a b : Hp} {n : Nm} {c : PC} (h1 : fT ts a b) (hn : n.1 ∈ ts) : fT ts a (up b n c) := fun m q1 => by
  rw [up_ne (fun z1 => q1 (by rw [z1]; exact hn))]
  exact h1 m q1
theorem fT.v {ts : List Nat} {a b : Hp} {t i j : Nat} {c : PC} (h1 : fT ts a b) (hn : t ∈ ts := by decide) : fT ts a (up b (t, i, j) c) := h1.u hn
theorem frL.t {t : Nm} {h h' : Hp} (h1 : frL t h h') : fT [t.1, t.1 + 1] h h' := fun n q1 => h1 n (fun z1 => q1 (by rw [z1]; simp)) (fun c z1 => q1 (by rw [z1]; simp [eld]))
/-- the tags lo .. hi stay -/
def agT (lo hi : Nat) (h h' : Hp) : Prop := ∀ n, lo ≤ n.1 → n.1 ≤ hi → h' n = h n
theorem fT.ag {ts : List Nat} {h h' : Hp} {lo hi : Nat} (h1 : fT ts h h') (hd : ∀ x ∈ ts, x < lo ∨ hi < x) : agT lo hi h h' := fun n q1 q2 => h1 n fun q3 => by
  have := hd _ q3
  omega
theorem agT.s {lo hi lo' hi' : Nat} {h h' : Hp} (h1 : agT lo hi h h') (a : lo ≤ lo') (b : hi' ≤ hi) : agT lo' hi' h h' := fun n q1 q2 => h1 n (by omega) (by omega)
theorem agT.g {lo hi : Nat} {h h' : Hp} (h1 : agT lo hi h h') (t i j : Nat) (a : Nat.ble lo t = true := by rfl) (b : Nat.ble t hi = true := by rfl) : h' (t, i, j) = h (t, i, j) := h1 _ (Nat.le_of_ble_eq_true a) (Nat.le_of_ble_eq_true b)
theorem LsT.ag {h h' : Hp} {t : Nm} {l : List Nm} (I : LsT h t l) (h1 : agT t.1 (t.1 + 1) h h') : LsT h' t l := by
  obtain ⟨cap, z, f, e1, e2, e3, e4, e5, e6, e7⟩ := I
  have q1 : h' t = h t := h1 t (by omega) (by omega)
  have q2 : ∀ c, h' (eld t c) = h (eld t c) := fun c => h1 _ (by show t.1 ≤ t.1 + 1; omega) (by show t.1 + 1 ≤ t.1 + 1; omega)
  exact ⟨cap, z, f, by rw [q1]; exact e1, e2, e3, fun c q => by rw [q2]; exact e4 c q, fun q => by rw [q2]; exact e5 q, e6, e7⟩
/-- numbered objects, in a list -/
def nmL (t n : Nat) : List Nm := (List.range n).map fun i => (t, i, 0)
theorem nmL_len {t n : Nat} : (nmL t n).length = n := by simp [nmL]
theorem nmL_get {t n i : Nat} (hi : i < n) : (nmL t n)[i]? = some (t, i, 0) := by simp [nmL, hi]
theorem nmL_mem {t n : Nat} {x : Nm} (hx : x ∈ nmL t n) : ∃ i, i < n ∧ x = (t, i, 0) := by
  simp only [nmL, List.mem_map, List.mem_range] at hx
  obtain ⟨i, h1, h2⟩ := hx
  exact ⟨i, h1, h2.symm⟩
theorem nmL_add {t n : Nat} : nmL t n ++ [(t, n, 0)] = nmL t (n + 1) := by simp [nmL, List.range_succ]
def mnL (a v o tb : Int32) : List PV := [vR (11, 0, 0), vR (12, 0, 0), vR (16, 0, 0), vR (26, 0, 0), vR (32, 0, 0), vI a, vR (35, 0, 0), vI v, vR (37, 0, 0), vR (37, 1, 0), vI o, vR (38, 0, 0), vI tb, vR (43, 0, 0), vR (44, 0, 0)]
def mnC (h : Hp) (a v o tb : Int32) : Prop := h (10, 0, 0) = some (11, 0, fl (mnL a v o tb))
theorem mnC.fr {h h' : Hp} {a v o tb : Int32} (I : mnC h a v o tb) (h1 : agT 10 10 h h') : mnC h' a v o tb := (h1 (10, 0, 0) (by decide) (by decide)).trans I
/-- the kinds -/
def kC (h : Hp) (σ : Sg) (K : Nat) : Prop := h (11, 0, 0) = some (2, 0, fl [vR (11, 1, 0), vR (11, 2, 0), vI (nI K)]) ∧ ∃ f g, h (11, 1, 0) = some (20, 20, f) ∧ h (11, 2, 0) = some (20, 20, g) ∧ (∀ j, 0 < j → j < K → f j = vI (σ 1 j)) ∧ ∀ j, j < K → g j = vI (nI (dpt σ 20 j))
theorem kC.fr {h h' : Hp} {σ σ' : Sg} {K : Nat} (I : kC h σ K) (h1 : agT 11 11 h h') (h2 : ∀ j, σ' 1 j = σ 1 j) : kC h' σ' K := by
  obtain ⟨e1, f, g, e2, e3, e4, e5⟩ := I
  exact ⟨(h1 _ (by decide) (by decide)).trans e1, f, g, (h1 _ (by decide) (by decide)).trans e2, (h1 _ (by decide) (by decide)).trans e3, fun j q1 q2 => by rw [h2]; exact e4 j q1 q2, fun j q1 => by rw [dpt_cg h2]; exact e5 j q1⟩
/-- the subjects, with values v -/
def sC (h : Hp) (σ : Sg) (v : Nat → Int32) (N : Nat) : Prop := LsT h (12, 0, 0) (nmL 14 N) ∧ (∀ s, s < N → h (14, s, 0) = some (9, 0, fl [vI (σ 3 s), vR (15, s, 0)]) ∧ ∃ f, h (15, s, 0) = some (20, 4, f) ∧ ∀ x, x < 4 → f x = vI (v (4 * s + x))) ∧ ∀ s, N ≤ s → h (14, s, 0) = none ∧ h (15, s, 0) = none
theorem sC.fr {h h' : Hp} {σ σ' : Sg} {v : Nat → Int32} {N : Nat} (I : sC h σ v N) (h1 : agT 12 15 h h') (h2 : ∀ j, σ' 3 j = σ 3 j) : sC h' σ' v N := by
  obtain ⟨e1, e2, e3⟩ := I
  refine ⟨e1.ag (h1.s (by decide) (by decide)), fun s q1 => ?_, fun s q1 => ?_⟩
  · obtain ⟨a1, f, a2, a3⟩ := e2 s q1
    exact ⟨by rw [h1.g 14 s 0, h2]; exact a1, f, by rw [h1.g 15 s 0]; exact a2, a3⟩
  · rw [h1.g 14 s 0, h1.g 15 s 0]
    exact e3 s q1
theorem sC.el {h : Hp} {σ : Sg} {v : Nat → Int32} {N : Nat} (I : sC h σ v N) : EL (12, 0, 0) h (nmL 14 N) := fun x hx1 => by
  obtain ⟨s, q1, rfl⟩ := nmL_mem hx1
  exact ⟨show (14 : Nat) ≠ 12 by decide, show (14 : Nat) ≠ 13 by decide, 9, _, by unfold isE; omega, (I.2.1 s q1).1⟩
/-! checks of numbers -/
def Iy (r p : Int32) (K : Nat) : Prop := (r = 1 ∧ ∃ j, j < K ∧ p = nI j) ∨ (r = 0 ∧ ¬ (0 ≤ p ∧ p < nI K))
theorem Iy1 {j K : Nat} (h : j < K) : Iy 1 (nI j) K := Or.inl ⟨rfl, j, h, rfl⟩
theorem iy_cases (p : Int32) {K : Nat} (hK : K < 2 ^ 30) : (ix p K = none ∧ Iy 0 p K) ∨ ∃ j, j < K ∧ p = nI j ∧ ix p K = some j := by
  rcases ix_cases p hK with ⟨q1, q2, -⟩ | q1
  · exact Or.inl ⟨q1, Or.inr ⟨rfl, q2⟩⟩
  · exact Or.inr q1
theorem Iy.b {r p : Int32} {K : Nat} (h1 : Iy r p K) : r = 0 ∨ r = 1 := by
  rcases h1 with ⟨q1, -⟩ | ⟨q1, -⟩
  · exact Or.inr q1
  · exact Or.inl q1
theorem c_has {h : Hp} {σ : Sg} {K : Nat} {r p : Int32} (I : kC h σ K) (hK : K ≤ 20) (hz : Iy r p K) : ConF mKinds_has 0 [vR (11, 0, 0), vI p] h (some (vI r)) h := by
  have e1 := I.1
  refine c_enter (by decide +kernel) rfl rfl ?_
  rcases hz with ⟨rfl, j, hj, rfl⟩ | ⟨rfl, hn⟩
  · refine s_iload_n dKinds_has_0 rfl rfl ?_
    refine s_if_lt dKinds_has_1 (fun q => absurd q (nI_nlt (b := 0) (by omega) (by omega))) (fun _ => ?_)
    refine s_iload_n dKinds_has_4 rfl rfl ?_
    refine s_aload_n dKinds_has_5 rfl rfl ?_
    refine s_get dKinds_has_6 gf_Kinds_18 (by repeat (first | exact up_self | assumption | rw [up_ne (by first | assumption | (intro q0; cases q0; done) | (intro q0; simp at q0; omega))])) ?_
    refine s_icmp_ge dKinds_has_9 (fun q => absurd q (nI_ge hj (by omega))) (fun _ => ?_)
    refine s_iconst (v := 1) dKinds_has_12 (by decide) ?_
    refine s_goto dKinds_has_13 ?_
    refine s_zret dKinds_has_17 rfl (by first | exact Or.inl rfl | exact Or.inr rfl | assumption) (by first | exact Nat.le_refl _ | decide | omega) (by first | exact Nat.le_refl _ | decide | omega) ?_
    exact ⟨rfl, rfl⟩
  · by_cases c1 : p < 0
    · refine s_iload_n dKinds_has_0 rfl rfl ?_
      refine s_if_lt dKinds_has_1 (fun _ => ?_) (fun q => absurd c1 q)
      refine s_iconst (v := 0) dKinds_has_16 (by decide) ?_
      refine s_zret dKinds_has_17 rfl (by first | exact Or.inl rfl | exact Or.inr rfl | assumption) (by first | exact Nat.le_refl _ | decide | omega) (by first | exact Nat.le_refl _ | decide | omega) ?_
      exact ⟨rfl, rfl⟩
    · refine s_iload_n dKinds_has_0 rfl rfl ?_
      refine s_if_lt dKinds_has_1 (fun q => absurd q c1) (fun _ => ?_)
      refine s_iload_n dKinds_has_4 rfl rfl ?_
      refine s_aload_n dKinds_has_5 rfl rfl ?_
      refine s_get dKinds_has_6 gf_Kinds_18 (by repeat (first | exact up_self | assumption | rw [up_ne (by first | assumption | (intro q0; cases q0; done) | (intro q0; simp at q0; omega))])) ?_
      refine s_icmp_ge dKinds_has_9 (fun _ => ?_) (fun q => absurd (Int32.not_lt.mp fun z1 => hn ⟨Int32.not_lt.mp c1, z1⟩) q)
      refine s_iconst (v := 0) dKinds_has_16 (by decide) ?_
      refine s_zret dKinds_has_17 rfl (by first | exact Or.inl rfl | exact Or.inr rfl | assumption) (by first | exact Nat.le_refl _ | decide | omega) (by first | exact Nat.le_refl _ | decide | omega) ?_
      exact ⟨rfl, rfl⟩
theorem dpt_new {σ : Sg} {K p : Nat} (P : KP σ K) (hp : p < K) (hK : K < 20) : ∀ n j, j ≤ n → j < K → dpt (us (us σ 1 K (nI p)) 0 0 (nI (K + 1))) n j = dpt σ n j := by
  intro n
  induction n with
  | zero => intro j _ _; rfl
  | succ n ih1 =>
    intro j hj hjK
    by_cases c1 : j = 0
    · subst c1; simp [dpt]
    · obtain ⟨q, hq, eq⟩ := P.2.2.2 j (by omega) hjK
      have e1 : us (us σ 1 K (nI p)) 0 0 (nI (K + 1)) 1 j = σ 1 j := by rw [us_k (by decide), us_j (by omega)]
      simp only [dpt, if_neg c1, e1]
      rw [eq, nt_nI (by omega), ih1 q (by omega) (by omega)]
theorem dpt_fuel {σ : Sg} {K : Nat} (P : KP σ K) : ∀ n m j, j ≤ n → j ≤ m → j < K → dpt σ n j = dpt σ m j := by
  intro n
  induction n with
  | zero =>
    intro m j h1 h2 h3
    have : j = 0 := by omega
    subst this
    cases m <;> simp [dpt]
  | succ n ih1 =>
    intro m j h1 h2 h3
    by_cases c1 : j = 0
    · subst c1
      cases m <;> simp [dpt]
    · obtain ⟨q, hq, eq⟩ := P.2.2.2 j (by omega) h3
      have p2 := P.2.1
      cases m with
      | zero => omega
      | succ m =>
        simp only [dpt, if_neg c1, eq, nt_nI (a := q) (by omega)]
        rw [ih1 m q (by omega) (by omega) (by omega)]
theorem KP.add {σ : Sg} {K p : Nat} (P : KP σ K) (hp : p < K) (hK : K < 20) : KP (us (us σ 1 K (nI p)) 0 0 (nI (K + 1))) (K + 1) := by
  obtain ⟨p1, p2, p3, p4⟩ := P
  refine ⟨by omega, by omega, by rw [us_k (by decide), us_j (by omega)]; exact p3, fun i h1 h2 => ?_⟩
  by_cases c1 : i = K
  · subst c1
    exact ⟨p, hp, by rw [us_k (by decide), us_s]⟩
  · rw [us_k (by decide), us_j c1]
    exact p4 i h1 (by omega)
theorem c_kAdd {h : Hp} {σ : Sg} {K j : Nat} (I : kC h σ K) (P : KP σ K) (hj : j < K) : Con mKinds_add 0 0 0 [vR (11, 0, 0), vI (nI j)] h (fun v h' => fT [11] h h' ∧ (if K = 20 then v = some (vI (-3)) ∧ h' = h else v = some (vI (nI K)) ∧ kC h' (us (us σ 1 K (nI j)) 0 0 (nI (K + 1))) (K + 1))) := by
  obtain ⟨e1, f, g, e2, e3, e4, e5⟩ := I
  have p2 := P.2.1
  have hd := dpt_le P 20 j hj
  refine c_enter (by decide +kernel) rfl rfl ?_
  by_cases c1 : K = 20
  · subst c1
    refine s_aload_n dKinds_add_0 rfl rfl ?_
    refine s_get dKinds_add_1 gf_Kinds_18 (by repeat (first | exact up_self | assumption | rw [up_ne (by first | assumption | (intro q0; cases q0; done) | (intro q0; simp at q0; omega))])) ?_
    refine s_bipush (v := nI 20) dKinds_add_4 (by decide) ?_
    refine s_icmp_lt dKinds_add_6 (fun q => absurd q (nI_nlt (by omega) (by omega))) (fun _ => ?_)
    refine s_bipush (v := (-3)) dKinds_add_9 (by decide) ?_
    refine s_iret dKinds_add_11 rfl (by first | exact Nat.le_refl _ | decide | omega) (by first | exact Nat.le_refl _ | decide | omega) ?_
    rw [if_pos rfl]
    exact ⟨fT.rf, rfl, rfl⟩
  · refine s_aload_n dKinds_add_0 rfl rfl ?_
    refine s_get dKinds_add_1 gf_Kinds_18 (by repeat (first | exact up_self | assumption | rw [up_ne (by first | assumption | (intro q0; cases q0; done) | (intro q0; simp at q0; omega))])) ?_
    refine s_bipush (v := nI 20) dKinds_add_4 (by decide) ?_
    refine s_icmp_lt dKinds_add_6 (fun _ => ?_) (fun q => absurd (nI_lt (show K < 20 by omega) (by omega)) q)
    refine s_aload_n dKinds_add_12 rfl rfl ?_
    refine s_get dKinds_add_13 gf_Kinds_9 (by repeat (first | exact up_self | assumption | rw [up_ne (by first | assumption | (intro q0; cases q0; done) | (intro q0; simp at q0; omega))])) ?_
    refine s_aload_n dKinds_add_16 rfl rfl ?_
    refine s_get dKinds_add_17 gf_Kinds_18 (by repeat (first | exact up_self | assumption | rw [up_ne (by first | assumption | (intro q0; cases q0; done) | (intro q0; simp at q0; omega))])) ?_
    refine s_iload_n dKinds_add_20 rfl rfl ?_
    refine s_iastN dKinds_add_21 (by repeat (first | exact up_self | assumption | rw [up_ne (by first | assumption | (intro q0; cases q0; done) | (intro q0; simp at q0; omega))])) (by first | rfl | assumption) (by omega) (by omega) ?_
    refine s_aload_n dKinds_add_22 rfl rfl ?_
    refine s_get dKinds_add_23 gf_Kinds_15 (by repeat (first | exact up_self | assumption | rw [up_ne (by first | assumption | (intro q0; cases q0; done) | (intro q0; simp at q0; omega))])) ?_
    refine s_aload_n dKinds_add_26 rfl rfl ?_
    refine s_get dKinds_add_27 gf_Kinds_18 (by repeat (first | exact up_self | assumption | rw [up_ne (by first | assumption | (intro q0; cases q0; done) | (intro q0; simp at q0; omega))])) ?_
    refine s_aload_n dKinds_add_30 rfl rfl ?_
    refine s_get dKinds_add_31 gf_Kinds_15 (by repeat (first | exact up_self | assumption | rw [up_ne (by first | assumption | (intro q0; cases q0; done) | (intro q0; simp at q0; omega))])) ?_
    refine s_iload_n dKinds_add_34 rfl rfl ?_
    refine s_ialdN dKinds_add_35 (by repeat (first | exact up_self | assumption | rw [up_ne (by first | assumption | (intro q0; cases q0; done) | (intro q0; simp at q0; omega))])) (by omega) (by omega) ?_
    refine s_tv (e5 j hj) ?_
    refine s_iconst (v := nI 1) dKinds_add_36 (by decide) ?_
    first | refine s_iaddN dKinds_add_37 ?_ | refine s_iadd dKinds_add_37 ?_
    refine s_iastN dKinds_add_38 (by repeat (first | exact up_self | assumption | rw [up_ne (by first | assumption | (intro q0; cases q0; done) | (intro q0; simp at q0; omega))])) (by first | rfl | assumption) (by omega) (by omega) ?_
    refine s_aload_n dKinds_add_39 rfl rfl ?_
    refine s_dup dKinds_add_40 rfl ?_
    refine s_get dKinds_add_41 gf_Kinds_18 (by repeat (first | exact up_self | assumption | rw [up_ne (by first | assumption | (intro q0; cases q0; done) | (intro q0; simp at q0; omega))])) ?_
    refine s_iconst (v := nI 1) dKinds_add_44 (by decide) ?_
    first | refine s_iaddN dKinds_add_45 ?_ | refine s_iadd dKinds_add_45 ?_
    refine s_putF dKinds_add_46 gf_Kinds_18 (by repeat (first | exact up_self | assumption | rw [up_ne (by first | assumption | (intro q0; cases q0; done) | (intro q0; simp at q0; omega))])) (by first | rfl | assumption) rfl (by first | exact Or.inl rfl | exact Or.inr ⟨rfl, rfl⟩) (by first | exact ⟨_, rfl⟩ | exact Or.inl rfl | exact Or.inr rfl | assumption) ?_
    refine s_aload_n dKinds_add_49 rfl rfl ?_
    refine s_get dKinds_add_50 gf_Kinds_18 (by repeat (first | exact up_self | assumption | rw [up_ne (by first | assumption | (intro q0; cases q0; done) | (intro q0; simp at q0; omega))])) ?_
    refine s_iconst (v := nI 1) dKinds_add_53 (by decide) ?_
    first | refine s_isubN dKinds_add_54 (by omega) ?_ | refine s_isub dKinds_add_54 ?_
    refine s_iret dKinds_add_55 rfl (by first | exact Nat.le_refl _ | decide | omega) (by first | exact Nat.le_refl _ | decide | omega) ?_
    rw [if_neg c1]
    refine ⟨((fT.rf.u (by decide)).u (by decide)).u (by decide), rfl, ?_⟩
    refine ⟨up_self, upf f K (vI (nI j)), upf g K (vI (nI (dpt σ 20 j + 1))), by rw [up_ne (by decide), up_ne (by decide), up_self], by rw [up_ne (by decide), up_self], fun i q1 q2 => ?_, fun i q1 => ?_⟩
    · unfold upf
      by_cases c2 : i = K
      · subst c2; rw [if_pos rfl, us_k (by decide), us_s]
      · rw [if_neg c2, us_k (by decide), us_j c2]; exact e4 i q1 (by omega)
    · unfold upf
      by_cases c2 : i = K
      · subst c2
        rw [if_pos rfl]
        have : dpt (us (us σ 1 i (nI j)) 0 0 (nI (i + 1))) 20 i = dpt σ 20 j + 1 := by
          have e0 : us (us σ 1 i (nI j)) 0 0 (nI (i + 1)) 1 i = nI j := by rw [us_k (by decide), us_s]
          show (if i = 0 then 0 else dpt _ 19 (nt (us (us σ 1 i (nI j)) 0 0 (nI (i + 1)) 1 i)) + 1) = _
          rw [if_neg (by omega), e0, nt_nI (by omega), dpt_new P hj (by omega) 19 j (by omega) hj, dpt_fuel P 19 20 j (by omega) (by omega) hj]
        rw [this]
      · rw [if_neg c2, dpt_new P hj (by omega) 20 i (by omega) (by omega)]
        exact e5 i (by omega)
theorem c_deepOf {h : Hp} {σ : Sg} {K j : Nat} (I : kC h σ K) (hK : K ≤ 20) (hj : j < K) : ConF mKinds_deepOf 0 [vR (11, 0, 0), vI (nI j)] h (some (vI (nI (dpt σ 20 j)))) h := by
  obtain ⟨e1, f, g, e2, e3, e4, e5⟩ := I
  refine c_enter (by decide +kernel) rfl rfl ?_
  refine s_aload_n dKinds_deepOf_0 rfl rfl ?_
  refine s_get dKinds_deepOf_1 gf_Kinds_15 (by repeat (first | exact up_self | assumption | rw [up_ne (by first | assumption | (intro q0; cases q0; done) | (intro q0; simp at q0; omega))])) ?_
  refine s_iload_n dKinds_deepOf_4 rfl rfl ?_
  refine s_ialdN dKinds_deepOf_5 (by repeat (first | exact up_self | assumption | rw [up_ne (by first | assumption | (intro q0; cases q0; done) | (intro q0; simp at q0; omega))])) (by omega) (by omega) ?_
  refine s_tv (e5 j hj) ?_
  refine s_iret dKinds_deepOf_6 rfl (by first | exact Nat.le_refl _ | decide | omega) (by first | exact Nat.le_refl _ | decide | omega) ?_
  exact ⟨rfl, rfl⟩
