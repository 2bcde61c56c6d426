/-! each call, of both sides: orders, scenes, anchors, rows -/
theorem fOrder_cs {σ : Sg} {r w o : Int32} {R T : Nat} {od : Nat → List Nat} (hR : R ≤ 60) : ((fOrder σ r w o R T).2 = σ ∧ fOd σ r w o R od = od) ∨ (∃ j n, j < R ∧ n < 6 ∧ w = nI n ∧ ordOk σ j n o R = true ∧ (fOrder σ r w o R T).2 = us (us (us (us σ 15 j w) 16 j o) 18 0 (nI (T + 1))) 17 j (nI (T + 1)) ∧ fOd σ r w o R od = fun b => if b = nt (σ 9 j) then (od b).erase j ++ [j] else od b) := by
  unfold fOrder fOd
  rcases iy_cases r (K := R) (by omega) with ⟨q1, -⟩ | ⟨j, hj, e1, q1⟩
  · rw [q1]; exact Or.inl ⟨rfl, rfl⟩
  · rcases iy_cases w (K := 6) (by omega) with ⟨q2, -⟩ | ⟨n, hn, e2, q2⟩
    · rw [q1, q2]; exact Or.inl ⟨rfl, rfl⟩
    · rw [q1, q2]
      dsimp only
      by_cases c1 : ordOk σ j n o R = true
      · rw [if_pos c1, if_pos c1]; exact Or.inr ⟨j, n, hj, hn, e2, c1, rfl, rfl⟩
      · rw [if_neg c1, if_neg c1]; exact Or.inl ⟨rfl, rfl⟩
theorem ordOk_t {σ : Sg} {j n : Nat} {o : Int32} {R : Nat} (hR : R ≤ 60) (h1 : ordOk σ j n o R = true) (h2 : isAb n = true) : ∃ i, i < R ∧ i ≠ j ∧ o = nI i := by
  unfold ordOk at h1
  rw [h2] at h1
  rcases iy_cases o (K := R) (by omega) with ⟨q1, -⟩ | ⟨i, hi, e1, q1⟩
  · rw [q1] at h1; cases h1
  · rw [q1] at h1
    simp at h1
    exact ⟨i, hi, h1.1, e1⟩
theorem iO.ord {σ τ : Sg} {R T B j n : Nat} {o : Int32} {od : Nat → List Nat} (I : iO σ R T od) (h9 : ∀ r, r < R → ∃ c, c < B ∧ σ 9 r = nI c) (hB : B ≤ 12) (hj : j < R) (hn : n < 6) (hT : T ≤ 1000) (hτ : τ = us (us (us (us σ 15 j (nI n)) 16 j o) 18 0 (nI (T + 1))) 17 j (nI (T + 1))) : iO τ R (T + 1) (fun b => if b = nt (σ 9 j) then (od b).erase j ++ [j] else od b) := by
  obtain ⟨o1, o2, o3, o4, o5, o6⟩ := I
  obtain ⟨b0, hb0, eb0⟩ := h9 j hj
  have en : nt (σ 9 j) = b0 := by rw [eb0, nt_nI (by omega)]
  rw [en]
  have τo : ∀ k i, k ≠ 18 → i ≠ j → τ k i = σ k i := fun k i z1 z2 => by rw [hτ, us_j z2, us_k z1, us_j z2, us_j z2]
  have τ9 : ∀ i, τ 9 i = σ 9 i := fun i => by rw [hτ, us_k (by decide), us_k (by decide), us_k (by decide), us_k (by decide)]
  have τ15 : τ 15 j = nI n := by rw [hτ, us_k (by decide), us_k (by decide), us_k (by decide), us_s]
  have τ17 : τ 17 j = nI (T + 1) := by rw [hτ, us_s]
  have τ18 : τ 18 0 = nI (T + 1) := by rw [hτ, us_k (by decide), us_s]
  have n15 : ¬ τ 15 j = -4 := by rw [τ15]; exact nI_m4 (by omega)
  have ntj : nt (τ 17 j) = T + 1 := by rw [τ17, nt_nI (by omega)]
  have cnd : ∀ b t r, r ≠ j → (cand τ b t r ↔ cand σ b t r) := fun b t r z => cand_c2 fun k q => τo k r (by omega) z
  have mem : ∀ x, x ∈ (od b0).erase j → x ∈ od b0 ∧ x ≠ j := fun x q => ⟨List.mem_of_mem_erase q, ((o1 b0).2.mem_erase_iff.mp q).1⟩
  refine ⟨fun b => ?_, fun r q1 q2 => ?_, fun r r' q1 q2 q3 q4 q5 => ?_, τ18, fun r q1 q2 => ?_, fun b hb => ?_⟩
  · dsimp only
    by_cases c1 : b = b0
    · subst c1
      rw [if_pos rfl]
      refine ⟨fun r q1 => ?_, ?_⟩
      · rcases List.mem_append.mp q1 with c2 | c2
        · obtain ⟨m1, m2⟩ := mem r c2
          rw [τo 15 r (by decide) m2, τ9]
          exact (o1 b).1 r m1
        · rw [List.mem_singleton.mp c2]
          exact ⟨hj, n15, by rw [τ9]; exact eb0⟩
      · refine List.nodup_append.mpr ⟨(o1 b).2.erase j, by simp, fun x q1 y q2 z => ?_⟩
        rw [List.mem_singleton.mp q2] at z
        exact (mem x q1).2 z
    · rw [if_neg c1]
      refine ⟨fun r q1 => ?_, (o1 b).2⟩
      obtain ⟨y1, y2, y3⟩ := (o1 b).1 r q1
      by_cases c2 : r = j
      · subst c2; exact ⟨y1, n15, by rw [τ9]; exact y3⟩
      · rw [τo 15 r (by decide) c2, τ9]; exact ⟨y1, y2, y3⟩
  · by_cases c1 : r = j
    · subst c1; exact ⟨T + 1, by omega, by omega, τ17⟩
    · rw [τo 15 r (by decide) c1] at q2
      rw [τo 17 r (by decide) c1]
      exact o2 r q1 q2
  · by_cases c1 : r = j
    · by_cases c2 : r' = j
      · rw [c1, c2]
      · rw [c1, ntj, τo 17 r' (by decide) c2] at q5
        rw [τo 15 r' (by decide) c2] at q4
        have := o5 r' q2 q4
        omega
    · by_cases c2 : r' = j
      · rw [c2, ntj, τo 17 r (by decide) c1] at q5
        rw [τo 15 r (by decide) c1] at q3
        have := o5 r q1 q3
        omega
      · rw [τo 15 r (by decide) c1] at q3
        rw [τo 15 r' (by decide) c2] at q4
        rw [τo 17 r (by decide) c1, τo 17 r' (by decide) c2] at q5
        exact o3 r r' q1 q2 q3 q4 q5
  · by_cases c1 : r = j
    · rw [c1, ntj]; exact Nat.le_refl _
    · rw [τo 15 r (by decide) c1] at q2
      rw [τo 17 r (by decide) c1]
      have := o5 r q1 q2
      omega
  · obtain ⟨p1, p2, p3⟩ := o6 b hb
    dsimp only
    by_cases c1 : b = b0
    · subst c1
      rw [if_pos rfl]
      refine ⟨fun r q1 => ?_, fun r q1 q2 => ?_, List.pairwise_append.mpr ⟨?_, by simp, fun x q1 y q2 => ?_⟩⟩
      · rcases List.mem_append.mp q1 with c2 | c2
        · obtain ⟨m1, m2⟩ := mem r c2
          exact ⟨(p1 r m1).1, (cnd b 0 r m2).mpr (p1 r m1).2⟩
        · rw [List.mem_singleton.mp c2]
          exact ⟨hj, by rw [τ9]; exact eb0, n15, by rw [ntj]; omega⟩
      · by_cases c2 : r = j
        · exact List.mem_append.mpr (Or.inr (List.mem_singleton.mpr c2))
        · exact List.mem_append.mpr (Or.inl ((List.mem_erase_of_ne c2).mpr (p2 r q1 ((cnd b 0 r c2).mp q2))))
      · refine (p3.sublist List.erase_sublist).imp_of_mem fun {x y} q1 q2 z => ?_
        rw [τo 17 x (by decide) (mem x q1).2, τo 17 y (by decide) (mem y q2).2]
        exact z
      · rw [List.mem_singleton.mp q2, ntj]
        obtain ⟨m1, m2⟩ := mem x q1
        rw [τo 17 x (by decide) m2]
        have := o5 x (p1 x m1).1 (p1 x m1).2.2.1
        omega
    · rw [if_neg c1]
      have nj : ∀ r ∈ od b, r ≠ j := fun r q z => by
        have := (p1 r q).2.1
        rw [z, eb0] at this
        exact c1 (nI_inj (by omega) (by omega) this).symm
      refine ⟨fun r q1 => ⟨(p1 r q1).1, (cnd b 0 r (nj r q1)).mpr (p1 r q1).2⟩, fun r q1 q2 => ?_, p3.imp_of_mem fun {x y} q1 q2 z => ?_⟩
      · have hne : r ≠ j := fun z => by
          have := q2.1
          rw [z, τ9, eb0] at this
          exact c1 (nI_inj (by omega) (by omega) this).symm
        exact p2 r q1 ((cnd b 0 r hne).mp q2)
      · rw [τo 17 x (by decide) (nj x q1), τo 17 y (by decide) (nj y q2)]
        exact z
/-! the chains of anchors end -/
def cnt (f : Nat → Nat) (v : Nat) : Nat → Nat
  | 0 => 0
  | k + 1 => cnt f v k + (if f k < v then 1 else 0)
theorem cnt_le {f : Nat → Nat} {v w : Nat} (h1 : v ≤ w) : ∀ k, cnt f v k ≤ cnt f w k := by
  intro k
  induction k with
  | zero => exact Nat.le_refl _
  | succ k ih =>
    unfold cnt
    by_cases c1 : f k < v
    · rw [if_pos c1, if_pos (by omega)]; omega
    · rw [if_neg c1]; omega
theorem cnt_lt {f : Nat → Nat} {v w y : Nat} (h1 : v ≤ f y) (h2 : f y < w) : ∀ k, y < k → cnt f v k < cnt f w k := by
  intro k
  induction k with
  | zero => intro z; omega
  | succ k ih =>
    intro z
    have h3 := cnt_le (f := f) (v := v) (w := w) (by omega) k
    unfold cnt
    by_cases c1 : y = k
    · subst c1
      rw [if_neg (by omega), if_pos h2]; omega
    · have := ih (by omega)
      by_cases c2 : f k < v
      · rw [if_pos c2, if_pos (by omega)]; omega
      · rw [if_neg c2]; omega
theorem cnt_b {f : Nat → Nat} {v : Nat} : ∀ k, cnt f v k ≤ k := by
  intro k
  induction k with
  | zero => exact Nat.le_refl _
  | succ k ih =>
    unfold cnt
    split <;> omega
theorem cnt_s {f : Nat → Nat} {v y : Nat} (h1 : v ≤ f y) : ∀ k, y < k → cnt f v k < k := by
  intro k
  induction k with
  | zero => intro z; omega
  | succ k ih =>
    intro z
    unfold cnt
    by_cases c1 : y = k
    · subst c1
      rw [if_neg (by omega)]
      have := cnt_b (f := f) (v := v) y
      omega
    · have := ih (by omega)
      split <;> omega
theorem CH.of {τ : Sg} {A : Nat} (hA : A ≤ 16) (f : Nat → Nat) (h1 : ∀ e e', e < A → evO (τ 44 e) (τ 45 e) = some e' → e' < A ∧ f e' < f e) : CH τ A :=
  ⟨fun e => cnt f (f e) A, fun e q1 => by show cnt f (f e) A < 16; have := cnt_s (f := f) (v := f e) (Nat.le_refl _) A q1; omega, fun e e' q1 q2 => ⟨(h1 e e' q1 q2).1, cnt_lt (Nat.le_refl _) (h1 e e' q1 q2).2 A (h1 e e' q1 q2).1⟩⟩
theorem chn_fuel {σ : Sg} {A t : Nat} {μ : Nat → Nat} (m1 : ∀ e e', e < A → evO (σ 44 e) (σ 45 e) = some e' → e' < A ∧ μ e' < μ e) : ∀ (n m e : Nat), e < A → μ e < n → μ e < m → chn σ t n e = chn σ t m e := by
  intro n
  induction n with
  | zero => intro m e _ h1; omega
  | succ n ih =>
    intro m e h0 h1 h2
    cases m with
    | zero => omega
    | succ m =>
      unfold chn
      cases hev : evO (σ 44 e) (σ 45 e) with
      | none => rfl
      | some e' =>
        obtain ⟨z1, z2⟩ := m1 e e' h0 hev
        dsimp only
        rw [ih m e' z1 (by omega) (by omega)]
theorem CH.anc {σ τ : Sg} {A t : Nat} {c x : Int32} (I : CH σ A) (hA : A ≤ 16) (ht : t < A) (hτ : τ = us (us σ 44 t c) 45 t x) (h0 : ∀ e0, evO c x = some e0 → e0 < A ∧ chn σ t 16 e0 = false) : CH τ A := by
  obtain ⟨μ, m2, m1⟩ := I
  have τo : ∀ e, e ≠ t → τ 44 e = σ 44 e ∧ τ 45 e = σ 45 e := fun e z => by rw [hτ]; exact ⟨by rw [us_j z, us_j z], by rw [us_j z, us_j z]⟩
  have τt : τ 44 t = c ∧ τ 45 t = x := by rw [hτ]; exact ⟨by rw [us_k (by decide), us_s], us_s⟩
  refine CH.of hA (fun e => if chn σ t 16 e = true then 16 + μ e else μ e) (fun e e' q1 q2 => ?_)
  by_cases c1 : e = t
  · subst c1
    rw [τt.1, τt.2] at q2
    obtain ⟨z1, z2⟩ := h0 e' q2
    have rt : chn σ e 16 e = true := by simp [chn]
    rw [rt, z2, if_pos rfl, if_neg (by decide)]
    have := m2 e' z1
    exact ⟨z1, by omega⟩
  · rw [(τo e c1).1, (τo e c1).2] at q2
    obtain ⟨z1, z2⟩ := m1 e e' q1 q2
    have mb := m2 e q1
    have ef : chn σ t 16 e = chn σ t 16 e' := by
      have e1 : chn σ t 16 e = chn σ t 15 e' := by
        show (decide (e = t) || match evO (σ 44 e) (σ 45 e) with | some e' => chn σ t 15 e' | none => false) = _
        rw [q2]
        simp [c1]
      rw [e1]
      exact chn_fuel m1 15 16 e' z1 (by omega) (by omega)
    refine ⟨z1, ?_⟩
    rw [ef]
    split <;> omega
theorem fAnchor_cs {σ : Sg} {s d c x : Int32} {NS N : Nat} (hNS : NS ≤ 8) : (fAnchor σ s d c x NS N).2 = σ ∨ (∃ t k, t < 2 * NS ∧ k < 5 ∧ c = nI k ∧ ancOk k x NS N = true ∧ ring σ t k x = false ∧ (fAnchor σ s d c x NS N).2 = us (us σ 44 t c) 45 t x) := by
  unfold fAnchor
  rcases iy_cases s (K := NS) (by omega) with ⟨q1, -⟩ | ⟨i, hi, e1, q1⟩
  · rw [q1]; exact Or.inl rfl
  · rcases iy_cases d (K := 2) (by omega) with ⟨q2, -⟩ | ⟨j, hj, e2, q2⟩
    · rw [q1, q2]; exact Or.inl rfl
    · rcases iy_cases c (K := 5) (by omega) with ⟨q3, -⟩ | ⟨k, hk, e3, q3⟩
      · rw [q1, q2, q3]; exact Or.inl rfl
      · rw [q1, q2, q3]
        dsimp only
        cases c1 : ancOk k x NS N with
        | false => rw [if_neg (by decide)]; exact Or.inl rfl
        | true =>
          rw [if_pos rfl]
          cases c2 : ring σ (2 * i + j) k x with
          | true => rw [if_pos rfl]; exact Or.inl rfl
          | false => rw [if_neg (by decide)]; exact Or.inr ⟨2 * i + j, k, by omega, hk, e3, c1, c2, rfl⟩
theorem anc_23 {k : Nat} {x : Int32} {NS N : Nat} (hNS : NS ≤ 8) (h1 : ancOk k x NS N = true) (h2 : k = 2 ∨ k = 3) : ∃ y, y < NS ∧ x = nI y := by
  rcases h2 with rfl | rfl
  · exact ix_s (by omega) h1
  · exact ix_s (by omega) h1
theorem anc_4 {x : Int32} {NS N : Nat} (hN : N ≤ 20) (h1 : ancOk 4 x NS N = true) : ∃ y, y < 4 * N ∧ x = nI y := by
  simp only [ancOk, Bool.and_eq_true, decide_eq_true_eq] at h1
  obtain ⟨y, y1, y2⟩ := ix_s (by omega) h1.2
  exact dv4 (Int32.not_lt.mpr h1.1) (by rw [y2]; exact nI_lt y1 (by omega)) (by omega)
theorem p_order {H : Hp} {c L : Nat} {xs : Nat → Int32} (r w q : Int32) (hc : c ≤ 600) (I : LI c L xs H) : PR mX_order mM_order 10 121 8833 2 [vI r, vI w, vI q] c L xs H := by
  obtain ⟨σ, od, K, N, B, R, A, V, O, NS, P, T, n, h0, eH, C, G, hT, hS⟩ := I
  have hcs := fOrder_cs (σ := σ) (r := r) (w := w) (o := q) (T := T) (od := od) G.2.2.2.1.1.1
  refine PR.mk (x := (fOrder σ r w q R T).1) (τ := (fOrder σ r w q R T).2) hS eH (Con.mono (c_X_order (T := T) r w q C.1 C.2.2.2.1 G.1.1 G.2.2.2.1.1 G.2.2.2.1.2.2.2.1 G.2.2.2.2.1.1 G.2.2.1.1 G.2.2.2.1.2.2.1) (fun v h' q0 => ?_)) (fun h => c_M_order r w q G.2.2.2.1.2.1 G.2.2.2.1.1.1 G.2.2.2.2.1.2.2.2.1)
  obtain ⟨e1, F, a1⟩ := q0
  refine ⟨e1, F.hi, ?_⟩
  generalize fOd σ r w q R od = od' at *
  generalize fOrder σ r w q R T = f at *
  obtain ⟨x0, τ⟩ := f
  dsimp only at *
  have e : ∀ k i, (∀ z ∈ [15, 16, 17, 18], k ≠ z) → τ k i = σ k i := by
    intro k i hk
    rcases hcs with ⟨hc1, -⟩ | ⟨j, n0, hj, hn, ew, hok, hc1, -⟩
    · rw [hc1]
    · rw [hc1]
      simp only [List.mem_cons, List.not_mem_nil, or_false, forall_eq_or_imp, forall_eq] at hk
      unfold us
      repeat (rw [if_neg (fun z => by omega)])
  have hR0 := G.2.2.2.1.1.1
  have hs : ∃ T', T' ≤ c + 1 ∧ iR τ R K B NS ∧ iO τ R T' od' := by
    rcases hcs with ⟨hc1, hd⟩ | ⟨j, n0, hj, hn, rfl, hok, hc1, hd⟩
    · rw [hc1, hd]; exact ⟨T, by omega, G.2.2.2.1, G.2.2.2.2.1⟩
    · rw [hd]
      refine ⟨T + 1, by omega, ?_, G.2.2.2.2.1.ord G.2.2.2.1.2.2.1 G.2.2.1.1 hj hn (by omega) hc1⟩
      obtain ⟨r1, r2, r3, r4, r5, r6, r7, r8⟩ := G.2.2.2.1
      refine ⟨r1.cg fun k i a b => e k i (by simp <;> omega), by rw [e 8 0 (by decide)]; exact r2, fun r q1 => by rw [e 9 r (by decide)]; exact r3 r q1, fun r q1 q2 => ?_, r5.cg fun i => e 14 i (by decide), fun r q1 => by rw [e 13 r (by decide)]; exact r6 r q1, fun i q1 => by rw [e 14 i (by decide)]; exact r7 i q1, r8.cg fun k i a b => e k i (by simp <;> omega)⟩
      by_cases c2 : r = j
      · subst c2
        refine ⟨n0, by omega, by rw [hc1, us_k (by decide), us_k (by decide), us_k (by decide), us_s], fun z => ?_⟩
        obtain ⟨i, y1, y2, y3⟩ := ordOk_t hR0 hok z
        exact ⟨i, y1, y2, by rw [hc1, us_k (by decide), us_k (by decide), us_s]; exact y3⟩
      · have t15 : τ 15 r = σ 15 r := by rw [hc1, us_j c2, us_k (by decide), us_j c2, us_j c2]
        have t16 : τ 16 r = σ 16 r := by rw [hc1, us_j c2, us_k (by decide), us_j c2, us_j c2]
        rw [t15] at q2 ⊢
        rw [t16]
        exact r4 r q1 q2
  obtain ⟨T', hT', hs1, hs2⟩ := hs
  exact ⟨od', K, N, B, R, A, V, O, NS, P, T', n, ⟨(by rw [e 33 0 (by decide), e 35 0 (by decide), e 37 0 (by decide), e 46 0 (by decide)]; exact C.1.fr (F.ag (by decide))), (C.2.1.fr (F.ag (by decide)) (fun j => e 1 j (by decide))), (by rw [show τ 4 = σ 4 from funext fun j => e 4 j (by decide)]; exact C.2.2.1.fr (F.ag (by decide)) (fun j => e 3 j (by decide))), a1, (C.2.2.2.2.1.fr (F.ag (by decide)) (fun j => e 34 j (by decide))), (C.2.2.2.2.2.1.fr (F.ag (by decide)) (fun j => e 36 j (by decide))), (C.2.2.2.2.2.2.1.fr (F.ag (by decide)) (fun j => e 38 j (by decide)) (fun j => e 39 j (by decide))), (C.2.2.2.2.2.2.2.1.fr (F.ag (by decide)) (fun k j a b d => e k j (by simp <;> omega))), (C.2.2.2.2.2.2.2.2.1.fr (F.ag (by decide)) (fun j => e 51 j (by decide))), (by rw [show τ 28 = σ 28 from funext fun j => e 28 j (by decide)]; exact C.2.2.2.2.2.2.2.2.2.1.fr (F.ag (by decide))), (by rw [e 30 0 (by decide), e 31 0 (by decide)]; exact C.2.2.2.2.2.2.2.2.2.2.1.fr (F.ag (by decide))), (oK C.2.2.2.2.2.2.2.2.2.2.2 F)⟩, ⟨(G.1.cg fun k i a => e k i (by simp <;> omega)), (G.2.1.cg fun k i a b => e k i (by simp <;> omega)), (G.2.2.1.cg fun k i a b => e k i (by simp <;> omega)), hs1, hs2, (G.2.2.2.2.2.1.cg fun k i a b => e k i (by simp <;> omega)), (G.2.2.2.2.2.2.1.cg fun k i a b => e k i (by simp <;> omega)), (G.2.2.2.2.2.2.2.1.cg fun k i a b => e k i (by simp <;> omega)), (G.2.2.2.2.2.2.2.2.1.cg fun k i a b => e k i (by simp <;> omega)), (G.2.2.2.2.2.2.2.2.2.1.cg fun k i a b => e k i (by simp <;> omega)), (G.2.2.2.2.2.2.2.2.2.2.cg fun i => e 29 i (by decide))⟩, hT'⟩
theorem p_scene {H : Hp} {c L : Nat} {xs : Nat → Int32} (p : Int32) (hc : c ≤ 600) (I : LI c L xs H) : PR mX_scene mM_scene 8 4 82 1 [vI p] c L xs H := by
  obtain ⟨σ, od, K, N, B, R, A, V, O, NS, P, T, n, h0, eH, C, G, hT, hS⟩ := I
  have hcs := fScene_cs (σ := σ) (p := p) (N := NS)
  refine PR.mk (x := (fScene σ p NS).1) (τ := (fScene σ p NS).2) hS eH (Con.mono (c_X_scene p C.1 C.2.2.2.2.2.2.2.1 G.2.2.2.2.2.2.2.2.1.1 G.2.2.2.2.2.2.2.2.1.2.1 (G.2.2.2.2.2.2.2.2.1.2.2.2.2.2.2.1 NS (Nat.le_refl _)).1 (G.2.2.2.2.2.2.2.2.1.2.2.2.2.2.2.1 NS (Nat.le_refl _)).2 (fun z q => G.2.2.2.2.2.2.2.2.1.2.2.2.2.2.2.2.1 (2 * NS + z) (by omega))) (fun v h' q0 => ?_)) (fun h => c_M_scene p G.2.2.2.2.2.2.2.2.1.2.1 G.2.2.2.2.2.2.2.2.1.1)
  obtain ⟨e1, F, NS', a1, a2, a3, a4, a5⟩ := q0
  refine ⟨e1, F.hi, ?_⟩
  generalize fScene σ p NS = f at *
  obtain ⟨x0, τ⟩ := f
  dsimp only at *
  have e : ∀ k i, (∀ z ∈ [40, 41], k ≠ z) → τ k i = σ k i := by
    intro k i hk
    rcases hcs with hc1 | ⟨-, hc1⟩
    · rw [hc1]
    · rw [hc1]
      simp only [List.mem_cons, List.not_mem_nil, or_false, forall_eq_or_imp, forall_eq] at hk
      unfold us
      repeat (rw [if_neg (fun z => by omega)])
  have hs : iN τ NS' N B := by
    obtain ⟨b1, b2, b3, b4, b5, b6, b7, b8, b9, E, b10, b11⟩ := G.2.2.2.2.2.2.2.2.1
    have t42 := fun s => e 42 s (by decide)
    have t43 := fun s => e 43 s (by decide)
    have t44 := fun s => e 44 s (by decide)
    have t45 := fun s => e 45 s (by decide)
    refine ⟨a1, a3, fun s q1 => ?_, ⟨a1, by omega, fun a q1 => ?_⟩, fun a q1 q2 => ?_, ?_, fun s q1 => by rw [t42, t43]; exact b7 s (by omega), fun i q1 => by rw [t44, t45]; exact b8 i (by omega), by rw [e 46 0 (by decide)]; exact b9, E, b10, by rw [e 49 0 (by decide)]; exact b11⟩
    · rw [t42]
      by_cases c1 : s < NS
      · exact b3 s c1
      · exact Or.inl (b7 s (by omega)).1
    · rw [t44, t45]
      by_cases c1 : a < 2 * NS
      · obtain ⟨c0, z1, z2, z3, z4⟩ := b4.2.2 a c1
        exact ⟨c0, z1, z2, fun z => by obtain ⟨x0, y1, y2⟩ := z3 z; exact ⟨x0, by omega, y2⟩, z4⟩
      · exact ⟨0, by omega, (b8 a (by omega)).1, fun z => by omega, fun z => by omega⟩
    · rw [t44] at q2
      rw [t45]
      by_cases c1 : a < 2 * NS
      · exact b5 a c1 q2
      · rw [(b8 a (by omega)).1] at q2
        exact absurd q2 (by decide)
    · obtain ⟨μ, m2, m1⟩ := b6
      refine CH.of (by omega) μ (fun x x' q1 q2 => ?_)
      rw [t44, t45] at q2
      by_cases c1 : x < 2 * NS
      · obtain ⟨z1, z2⟩ := m1 x x' c1 q2
        exact ⟨by omega, z2⟩
      · rw [(b8 x (by omega)).1] at q2
        exact absurd q2 (by unfold evO; rw [if_neg (by decide), if_neg (by decide)]; exact fun z => by cases z)
  exact ⟨od, K, N, B, R, A, V, O, NS', P, T, n, ⟨(by rw [e 33 0 (by decide), e 35 0 (by decide), e 37 0 (by decide), e 46 0 (by decide)]; exact C.1.fr (F.ag (by decide))), (C.2.1.fr (F.ag (by decide)) (fun j => e 1 j (by decide))), (by rw [show τ 4 = σ 4 from funext fun j => e 4 j (by decide)]; exact C.2.2.1.fr (F.ag (by decide)) (fun j => e 3 j (by decide))), (C.2.2.2.1.cg (F.ag (by decide)) G.2.2.2.1.1 G.2.2.2.2.1.1 (fun i => e 1 i (by decide)) (fun k i a b d => e k i (by simp <;> omega))), (C.2.2.2.2.1.fr (F.ag (by decide)) (fun j => e 34 j (by decide))), (C.2.2.2.2.2.1.fr (F.ag (by decide)) (fun j => e 36 j (by decide))), (C.2.2.2.2.2.2.1.fr (F.ag (by decide)) (fun j => e 38 j (by decide)) (fun j => e 39 j (by decide))), a2, (C.2.2.2.2.2.2.2.2.1.fr (F.ag (by decide)) (fun j => e 51 j (by decide))), (by rw [show τ 28 = σ 28 from funext fun j => e 28 j (by decide)]; exact C.2.2.2.2.2.2.2.2.2.1.fr (F.ag (by decide))), (by rw [e 30 0 (by decide), e 31 0 (by decide)]; exact C.2.2.2.2.2.2.2.2.2.2.1.fr (F.ag (by decide))), (oK C.2.2.2.2.2.2.2.2.2.2.2 F)⟩, ⟨(G.1.cg fun k i a => e k i (by simp <;> omega)), (G.2.1.cg fun k i a b => e k i (by simp <;> omega)), (G.2.2.1.cg fun k i a b => e k i (by simp <;> omega)), ((G.2.2.2.1.cg fun k i a b => e k i (by simp <;> omega)).mo (Nat.le_refl _) (Nat.le_refl _) a4), (G.2.2.2.2.1.cg fun k i a => e k i (by simp <;> omega)), (G.2.2.2.2.2.1.cg fun k i a b => e k i (by simp <;> omega)), (G.2.2.2.2.2.2.1.cg fun k i a b => e k i (by simp <;> omega)), (G.2.2.2.2.2.2.2.1.cg fun k i a b => e k i (by simp <;> omega)), hs, (G.2.2.2.2.2.2.2.2.2.1.cg fun k i a b => e k i (by simp <;> omega)), (G.2.2.2.2.2.2.2.2.2.2.cg fun i => e 29 i (by decide))⟩, by omega⟩
theorem p_anchor {H : Hp} {c L : Nat} {xs : Nat → Int32} (s d k0 x : Int32) (hc : c ≤ 600) (I : LI c L xs H) : PR mX_anchor mM_anchor 4 0 0 2 [vI s, vI d, vI k0, vI x] c L xs H := by
  obtain ⟨σ, od, K, N, B, R, A, V, O, NS, P, T, n, h0, eH, C, G, hT, hS⟩ := I
  have hcs := fAnchor_cs (σ := σ) (s := s) (d := d) (c := k0) (x := x) (N := N) G.2.2.2.2.2.2.2.2.1.1
  refine PR.mk (x := (fAnchor σ s d k0 x NS N).1) (τ := (fAnchor σ s d k0 x NS N).2) hS eH (Con.mono (c_X_anchor s d k0 x C.1 C.2.2.2.2.2.2.2.1 C.2.2.1 G.2.1.1.1 G.2.2.2.2.2.2.2.2.1.2.2.2.1) (fun v h' q0 => ?_)) (fun h => c_M_anchor s d k0 x G.2.2.2.2.2.2.2.2.1.2.2.2.1 G.2.2.2.2.2.2.2.2.1.2.2.2.2.2.1 G.2.2.2.2.2.2.2.2.1.2.1 G.2.1.2.1 G.2.1.1.1)
  obtain ⟨e1, F, a1⟩ := q0
  refine ⟨e1, F.hi, ?_⟩
  generalize fAnchor σ s d k0 x NS N = f at *
  obtain ⟨x0, τ⟩ := f
  dsimp only at *
  have e : ∀ k i, (∀ z ∈ [44, 45], k ≠ z) → τ k i = σ k i := by
    intro k i hk
    rcases hcs with hc1 | ⟨t, k1, ht, hk1, ek, hok, hrg, hc1⟩
    · rw [hc1]
    · rw [hc1]
      simp only [List.mem_cons, List.not_mem_nil, or_false, forall_eq_or_imp, forall_eq] at hk
      unfold us
      repeat (rw [if_neg (fun z => by omega)])
  have hNN := G.2.1.1.1
  have hs : iN τ NS N B := by
    obtain ⟨b1, b2, b3, b4, b5, b6, b7, b8, b9, E, b10, b11⟩ := G.2.2.2.2.2.2.2.2.1
    rcases hcs with hc1 | ⟨t, k1, ht, hk1, rfl, hok, hrg, hc1⟩
    · rw [hc1]; exact ⟨b1, b2, b3, b4, b5, b6, b7, b8, b9, E, b10, b11⟩
    · have τo : ∀ a, a ≠ t → τ 44 a = σ 44 a ∧ τ 45 a = σ 45 a := fun a z => by rw [hc1]; exact ⟨by rw [us_j z, us_j z], by rw [us_j z, us_j z]⟩
      have τt : τ 44 t = nI k1 ∧ τ 45 t = x := by rw [hc1]; exact ⟨by rw [us_k (by decide), us_s], us_s⟩
      refine ⟨b1, by rw [e 40 0 (by decide)]; exact b2, fun s q1 => by rw [e 42 s (by decide)]; exact b3 s q1, ⟨b4.1, b4.2.1, fun a q1 => ?_⟩, fun a q1 q2 => ?_, ?_, fun s q1 => by rw [e 42 s (by decide), e 43 s (by decide)]; exact b7 s q1, fun i q1 => by rw [(τo i (by omega)).1, (τo i (by omega)).2]; exact b8 i q1, by rw [e 46 0 (by decide)]; exact b9, E, b10, by rw [e 49 0 (by decide)]; exact b11⟩
      · by_cases c2 : a = t
        · subst c2
          rw [τt.1, τt.2]
          refine ⟨k1, by omega, rfl, fun z => anc_23 b1 hok z, fun z => ?_⟩
          subst z
          obtain ⟨y, y1, y2⟩ := anc_4 hNN hok
          exact ⟨y, by omega, y2⟩
        · rw [(τo a c2).1, (τo a c2).2]
          exact b4.2.2 a q1
      · by_cases c2 : a = t
        · subst c2
          rw [τt.1] at q2
          have := nI_inj (by omega) (by omega) q2
          subst this
          rw [τt.2]
          exact anc_4 hNN hok
        · rw [(τo a c2).1] at q2
          rw [(τo a c2).2]
          exact b5 a q1 q2
      · refine b6.anc (by omega) ht hc1 (fun e0 q1 => ?_)
        unfold ring at hrg
        rw [q1] at hrg
        refine ⟨?_, hrg⟩
        unfold evO at q1
        split at q1
        · rename_i z1
          obtain ⟨y, y1, y2⟩ := anc_23 b1 hok (Or.inl (nI_inj (by omega) (by omega) z1))
          rw [y2, nt_nI (by omega)] at q1
          cases q1
          omega
        · split at q1
          · rename_i z1
            obtain ⟨y, y1, y2⟩ := anc_23 b1 hok (Or.inr (nI_inj (by omega) (by omega) z1))
            rw [y2, nt_nI (by omega)] at q1
            cases q1
            omega
          · cases q1
  exact ⟨od, K, N, B, R, A, V, O, NS, P, T, n, ⟨(by rw [e 33 0 (by decide), e 35 0 (by decide), e 37 0 (by decide), e 46 0 (by decide)]; exact C.1.fr (F.ag (by decide))), (C.2.1.fr (F.ag (by decide)) (fun j => e 1 j (by decide))), (by rw [show τ 4 = σ 4 from funext fun j => e 4 j (by decide)]; exact C.2.2.1.fr (F.ag (by decide)) (fun j => e 3 j (by decide))), (C.2.2.2.1.cg (F.ag (by decide)) G.2.2.2.1.1 G.2.2.2.2.1.1 (fun i => e 1 i (by decide)) (fun k i a b d => e k i (by simp <;> omega))), (C.2.2.2.2.1.fr (F.ag (by decide)) (fun j => e 34 j (by decide))), (C.2.2.2.2.2.1.fr (F.ag (by decide)) (fun j => e 36 j (by decide))), (C.2.2.2.2.2.2.1.fr (F.ag (by decide)) (fun j => e 38 j (by decide)) (fun j => e 39 j (by decide))), a1, (C.2.2.2.2.2.2.2.2.1.fr (F.ag (by decide)) (fun j => e 51 j (by decide))), (by rw [show τ 28 = σ 28 from funext fun j => e 28 j (by decide)]; exact C.2.2.2.2.2.2.2.2.2.1.fr (F.ag (by decide))), (by rw [e 30 0 (by decide), e 31 0 (by decide)]; exact C.2.2.2.2.2.2.2.2.2.2.1.fr (F.ag (by decide))), (oK C.2.2.2.2.2.2.2.2.2.2.2 F)⟩, ⟨(G.1.cg fun k i a => e k i (by simp <;> omega)), (G.2.1.cg fun k i a b => e k i (by simp <;> omega)), (G.2.2.1.cg fun k i a b => e k i (by simp <;> omega)), (G.2.2.2.1.cg fun k i a b => e k i (by simp <;> omega)), (G.2.2.2.2.1.cg fun k i a => e k i (by simp <;> omega)), (G.2.2.2.2.2.1.cg fun k i a b => e k i (by simp <;> omega)), (G.2.2.2.2.2.2.1.cg fun k i a b => e k i (by simp <;> omega)), (G.2.2.2.2.2.2.2.1.cg fun k i a b => e k i (by simp <;> omega)), hs, (G.2.2.2.2.2.2.2.2.2.1.cg fun k i a b => e k i (by simp <;> omega)), (G.2.2.2.2.2.2.2.2.2.2.cg fun i => e 29 i (by decide))⟩, by omega⟩
theorem p_row {H : Hp} {c L : Nat} {xs : Nat → Int32} (p i : Int32) (I : LI c L xs H) : PR mX_row mM_row 4 0 0 4 [vI p, vI i] c L xs H := by
  obtain ⟨σ, od, K, N, B, R, A, V, O, NS, P, T, n, h0, eH, C, G, hT, hS⟩ := I
  refine Con.mono (c_X_row p i C.1 C.2.2.2.1 G.2.2.1.1 G.2.2.2.1.1.1 G.2.2.2.2.1.1) (fun v h' q0 => ?_)
  obtain ⟨e1, e2⟩ := q0
  refine ⟨_, σ, h0, e1, e2.trans eH, by rw [e2]; exact hS, Con.mono (c_M_row p i od G.rn.1 G.2.2.1.2.1 G.2.2.1.1 (fun b q1 => (G.2.2.2.2.1.2.2.2.2.2 b (by have := G.2.2.1.1; omega)).ord)) (fun v' h'' q1 => ?_)⟩
  obtain ⟨τ, e3, s1, e4⟩ := q1
  refine ⟨e4, ?_⟩
  have e : ∀ k i, (∀ z ∈ [19, 20], k ≠ z) → τ k i = σ k i := fun k i hk => s1 k i (hk 19 (by decide)) (hk 20 (by decide))
  have F : fT [] H H := fT.rf
  have C1 : KI H τ od K N B R A V O NS P n := ⟨(by rw [e 33 0 (by decide), e 35 0 (by decide), e 37 0 (by decide), e 46 0 (by decide)]; exact C.1.fr (F.ag (by decide))), (C.2.1.fr (F.ag (by decide)) (fun j => e 1 j (by decide))), (by rw [show τ 4 = σ 4 from funext fun j => e 4 j (by decide)]; exact C.2.2.1.fr (F.ag (by decide)) (fun j => e 3 j (by decide))), (C.2.2.2.1.cg (F.ag (by decide)) G.2.2.2.1.1 G.2.2.2.2.1.1 (fun i => e 1 i (by decide)) (fun k i a b d => e k i (by simp <;> omega))), (C.2.2.2.2.1.fr (F.ag (by decide)) (fun j => e 34 j (by decide))), (C.2.2.2.2.2.1.fr (F.ag (by decide)) (fun j => e 36 j (by decide))), (C.2.2.2.2.2.2.1.fr (F.ag (by decide)) (fun j => e 38 j (by decide)) (fun j => e 39 j (by decide))), (C.2.2.2.2.2.2.2.1.fr (F.ag (by decide)) (fun k j a b d => e k j (by simp <;> omega))), (C.2.2.2.2.2.2.2.2.1.fr (F.ag (by decide)) (fun j => e 51 j (by decide))), (by rw [show τ 28 = σ 28 from funext fun j => e 28 j (by decide)]; exact C.2.2.2.2.2.2.2.2.2.1.fr (F.ag (by decide))), (by rw [e 30 0 (by decide), e 31 0 (by decide)]; exact C.2.2.2.2.2.2.2.2.2.2.1.fr (F.ag (by decide))), (oK C.2.2.2.2.2.2.2.2.2.2.2 F)⟩
  have G1 : GI τ od K N B R A V O NS P T n := ⟨(G.1.cg fun k i a => e k i (by simp <;> omega)), (G.2.1.cg fun k i a b => e k i (by simp <;> omega)), (G.2.2.1.cg fun k i a b => e k i (by simp <;> omega)), (G.2.2.2.1.cg fun k i a b => e k i (by simp <;> omega)), (G.2.2.2.2.1.cg fun k i a => e k i (by simp <;> omega)), (G.2.2.2.2.2.1.cg fun k i a b => e k i (by simp <;> omega)), (G.2.2.2.2.2.2.1.cg fun k i a b => e k i (by simp <;> omega)), (G.2.2.2.2.2.2.2.1.cg fun k i a b => e k i (by simp <;> omega)), (G.2.2.2.2.2.2.2.2.1.cg fun k i a b => e k i (by simp <;> omega)), (G.2.2.2.2.2.2.2.2.2.1.cg fun k i a b => e k i (by simp <;> omega)), (G.2.2.2.2.2.2.2.2.2.2.cg fun i => e 29 i (by decide))⟩
  have C2 : KI (hM τ H) τ od K N B R A V O NS P n := C1.hM G1.2.2.2.1.1 G1.2.2.2.2.1.1
  have e5 : h'' = hM τ H := by
    rw [e3, eH]
    funext n
    unfold hM
    by_cases c1 : n = (100, 0, 0)
    · rw [if_pos c1, if_pos c1]
    · rw [if_neg c1, if_neg c1, if_neg c1]
      by_cases c2 : n.1 = 101 ∧ n.2.2 = 0 ∧ mArr n.2.1 = true
      · rw [if_pos c2, if_pos c2]
      · rw [if_neg c2, if_neg c2, if_neg c2]
  rw [e5]
  exact ⟨τ, od, K, N, B, R, A, V, O, NS, P, T, n, H, rfl, C2, G1, by omega, by rw [hM_ag (lo := 0) (hi := 0) rfl _ (Nat.le_refl _) (Nat.le_refl _)]; exact hS⟩
