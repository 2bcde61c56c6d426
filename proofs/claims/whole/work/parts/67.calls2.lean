/-! each call, of both sides: kinds, books, rules, scenes -/
theorem fKind_cs {σ : Sg} {p : Int32} {K : Nat} (hK : K ≤ 20) : (fKind σ p K).2 = σ ∨ ((K ≠ 20 ∧ ∃ k, k < K ∧ p = nI k) ∧ (fKind σ p K).2 = us (us σ 1 K p) 0 0 (nI (K + 1))) := by
  unfold fKind
  rcases iy_cases p (K := K) (by omega) with ⟨q1, -⟩ | ⟨k, hk, e1, q1⟩
  · rw [q1]; exact Or.inl rfl
  · rw [q1]
    dsimp only
    by_cases c1 : K = 20
    · rw [if_pos c1]; exact Or.inl rfl
    · rw [if_neg c1]; exact Or.inr ⟨⟨c1, k, hk, e1⟩, rfl⟩
theorem ownL_no {σ : Sg} {b B R : Nat} (h9 : ∀ r, r < R → ∃ c, c < B ∧ σ 9 r = nI c) (hb : B ≤ b) (hb2 : b ≤ 12) : ownL σ b R = [] ∧ srt σ b R = [] := by
  induction R with
  | zero => exact ⟨rfl, rfl⟩
  | succ R ih =>
    obtain ⟨i1, i2⟩ := ih (fun r q1 => h9 r (by omega))
    obtain ⟨c, q1, q2⟩ := h9 R (by omega)
    have ne : ¬ σ 9 R = nI b := by rw [q2]; exact nI_ne (by omega) (by omega) (by omega)
    refine ⟨by rw [ownL_succ, if_neg ne]; exact i1, ?_⟩
    show (if σ 9 R = nI b then insR σ R (srt σ b R) else srt σ b R) = []
    rw [if_neg ne]
    exact i2
theorem od_no {σ : Sg} {b B R : Nat} {od : Nat → List Nat} (h9 : ∀ r, r < R → ∃ c, c < B ∧ σ 9 r = nI c) (hod : odK σ R od) (hb : B ≤ b) (hb2 : b ≤ 12) : od b = [] := by
  cases h1 : od b with
  | nil => rfl
  | cons r l =>
    obtain ⟨a1, a2, a3⟩ := (hod b).1 r (by rw [h1]; exact List.mem_cons_self)
    obtain ⟨c, q1, q2⟩ := h9 r a1
    rw [a3] at q2
    have := nI_inj (by omega) (by omega) q2
    omega
theorem fRule_cs {σ : Sg} {p s q : Int32} {B R : Nat} (hB : B ≤ 12) : (fRule σ p s q B R).2 = σ ∨ ((R ≠ 60 ∧ ∃ b s0 q0, b < B ∧ s0 < 3 ∧ q0 < 10 ∧ p = nI b ∧ s = nI s0 ∧ q = nI q0) ∧ (fRule σ p s q B R).2 = us (us (us (us (us σ 9 R p) 10 R s) 11 R q) 15 R (-4)) 8 0 (nI (R + 1))) := by
  unfold fRule
  rcases iy_cases p (K := B) (by omega) with ⟨q1, -⟩ | ⟨k, hk, e1, q1⟩
  · rw [q1]; exact Or.inl rfl
  · rcases iy_cases s (K := 3) (by omega) with ⟨q2, -⟩ | ⟨i, hi, e2, q2⟩
    · rw [q1, q2]; exact Or.inl rfl
    · rcases iy_cases q (K := 10) (by omega) with ⟨q3, -⟩ | ⟨j, hj, e3, q3⟩
      · rw [q1, q2, q3]; exact Or.inl rfl
      · rw [q1, q2, q3]
        dsimp only
        by_cases c1 : R = 60
        · rw [if_pos c1]; exact Or.inl rfl
        · rw [if_neg c1]; exact Or.inr ⟨⟨c1, k, i, j, hk, hi, hj, e1, e2, e3⟩, rfl⟩
theorem fDoes_cs {σ : Sg} {r c x y : Int32} {R B : Nat} (hR : R ≤ 60) : (fDoes σ r c x y R B).2 = σ ∨ ((∃ j n, j < R ∧ n < 9 ∧ c = nI n ∧ deed n x y B = true ∧ (fDoes σ r c x y R B).2 = us (us (us σ 14 (3 * j) c) 14 (3 * j + 1) x) 14 (3 * j + 2) y)) := by
  unfold fDoes
  rcases iy_cases r (K := R) (by omega) with ⟨q1, -⟩ | ⟨j, hj, e1, q1⟩
  · rw [q1]; exact Or.inl rfl
  · rcases iy_cases c (K := 9) (by omega) with ⟨q2, -⟩ | ⟨n, hn, e2, q2⟩
    · rw [q1, q2]; exact Or.inl rfl
    · rw [q1, q2]
      dsimp only
      by_cases c1 : deed n x y B = true
      · rw [if_pos c1]; exact Or.inr ⟨j, n, hj, hn, e2, c1, rfl⟩
      · rw [if_neg c1]; exact Or.inl rfl
theorem ix_s {x : Int32} {K : Nat} (hK : K ≤ 100) (h1 : (ix x K).isSome = true) : ∃ i, i < K ∧ x = nI i := by
  rcases iy_cases x (K := K) (by omega) with ⟨q1, -⟩ | ⟨i, hi, e1, -⟩
  · rw [q1] at h1; cases h1
  · exact ⟨i, hi, e1⟩
theorem deed_ok {n : Nat} {x y : Int32} {B : Nat} (hB : B ≤ 12) (hn : n < 9) (h1 : deed n x y B = true) : (n = 1 → ∃ z, 1 ≤ z ∧ z ≤ 99 ∧ x = nI z) ∧ (n = 2 ∨ n = 3 ∨ n = 4 ∨ n = 8 → ∃ z, z < 4 ∧ x = nI z) ∧ (n = 4 ∨ n = 8 → ∃ z, z < 4 ∧ y = nI z) ∧ (n = 5 ∨ n = 6 → ∃ z, z < B ∧ x = nI z) := by
  rcases (show n = 0 ∨ n = 1 ∨ n = 2 ∨ n = 3 ∨ n = 4 ∨ n = 5 ∨ n = 6 ∨ n = 7 ∨ n = 8 by omega) with rfl | rfl | rfl | rfl | rfl | rfl | rfl | rfl | rfl
  · exact ⟨fun z => by omega, fun z => by omega, fun z => by omega, fun z => by omega⟩
  · refine ⟨fun _ => ?_, fun z => by omega, fun z => by omega, fun z => by omega⟩
    simp [deed] at h1
    obtain ⟨z, z1, z2⟩ := nI_of (x := x) (by
      intro q
      have h2 := Int32.le_iff_toInt_le.mp h1.1
      have h3 := Int32.lt_iff_toInt_lt.mp q
      have e0 : (0 : Int32).toInt = 0 := by decide
      have e1 : (1 : Int32).toInt = 1 := by decide
      omega)
    subst z2
    have h2 := Int32.le_iff_toInt_le.mp h1.1
    have h3 := Int32.le_iff_toInt_le.mp h1.2
    have e1 : (1 : Int32).toInt = 1 := by decide
    rw [nI_toInt (by omega), e1] at h2
    rw [nI_toInt (by omega), nI_toInt (by omega)] at h3
    exact ⟨z, by omega, by omega, rfl⟩
  · simp [deed] at h1
    exact ⟨fun z => by omega, fun _ => ix_s (by omega) h1, fun z => by omega, fun z => by omega⟩
  · simp [deed] at h1
    exact ⟨fun z => by omega, fun _ => ix_s (by omega) h1, fun z => by omega, fun z => by omega⟩
  · simp [deed] at h1
    exact ⟨fun z => by omega, fun _ => ix_s (by omega) h1.1, fun _ => ix_s (by omega) h1.2, fun z => by omega⟩
  · simp [deed] at h1
    exact ⟨fun z => by omega, fun z => by omega, fun z => by omega, fun _ => ix_s (by omega) h1⟩
  · simp [deed] at h1
    exact ⟨fun z => by omega, fun z => by omega, fun z => by omega, fun _ => ix_s (by omega) h1⟩
  · exact ⟨fun z => by omega, fun z => by omega, fun z => by omega, fun z => by omega⟩
  · simp [deed] at h1
    exact ⟨fun z => by omega, fun _ => ix_s (by omega) h1.1, fun _ => ix_s (by omega) h1.2, fun z => by omega⟩
theorem fCond_cs {σ : Sg} {r c x y : Int32} {K R NS : Nat} (hR : R ≤ 60) : (fCond σ r c x y K R NS).2 = σ ∨ (∃ j n b, j < R ∧ n < 17 ∧ c = nI n ∧ b ≤ 6 ∧ b = bs n ∧ (7 ≤ n → 10 ≤ n) ∧ cdX σ b j x K R NS = true ∧ ¬ nt (σ 13 j) = 4 ∧ (fCond σ r c x y K R NS).2 = tcS σ j (nt (σ 13 j)) c x y) := by
  unfold fCond
  rcases iy_cases r (K := R) (by omega) with ⟨q1, -⟩ | ⟨j, hj, e1, q1⟩
  · rw [q1]; exact Or.inl rfl
  · rcases cd_cases c with ⟨n, b, rfl, hn, hb, hb6, hbs, ecd⟩ | ⟨ecd, -⟩
    · rw [q1, ecd]
      dsimp only
      cases ecx : cdX σ b j x K R NS with
      | false => rw [if_neg (by decide)]; exact Or.inl rfl
      | true =>
        rw [if_pos rfl]
        by_cases c4 : nt (σ 13 j) = 4
        · rw [if_pos c4]; exact Or.inl rfl
        · rw [if_neg c4]; exact Or.inr ⟨j, n, b, hj, hn, rfl, hb6, hbs, by omega, ecx, c4, rfl⟩
    · rw [q1, ecd]; exact Or.inl rfl
theorem cdX_ok {σ : Sg} {b j : Nat} {x : Int32} {K R NS : Nat} (hK : K ≤ 20) (hR : R ≤ 60) (hNS : NS ≤ 8) (hb : b ≤ 6) (h1 : cdX σ b j x K R NS = true) : ∃ i, x = nI i ∧ xOk b i K NS R := by
  rcases (show b = 0 ∨ b = 1 ∨ b = 2 ∨ b = 3 ∨ b = 4 ∨ b = 5 ∨ b = 6 by omega) with rfl | rfl | rfl | rfl | rfl | rfl | rfl
  · simp [cdX] at h1
    obtain ⟨i, a1, a2⟩ := ix_s (by omega) h1
    exact ⟨i, a2, a1⟩
  · simp [cdX] at h1
    obtain ⟨i, a1, a2⟩ := ix_s (by omega) h1
    exact ⟨i, a2, a1⟩
  · simp [cdX] at h1
    obtain ⟨i, a1, a2⟩ := ix_s (by omega) h1
    exact ⟨i, a2, a1⟩
  · simp [cdX] at h1
    obtain ⟨i, a1, a2⟩ := ix_s (by omega) h1
    exact ⟨i, a2, a1⟩
  · simp [cdX] at h1
    obtain ⟨i, a1, a2⟩ := ix_s (by omega) h1
    exact ⟨i, a2, a1⟩
  · simp [cdX] at h1
    obtain ⟨i, a1, a2⟩ := ix_s (by omega) h1
    exact ⟨i, a2, a1⟩
  · rcases iy_cases x (K := R) (by omega) with ⟨q1, -⟩ | ⟨i, hi, e1, -⟩
    · simp [cdX, q1] at h1
    · exact ⟨i, e1, hi⟩
theorem xOk_b {b i K NS R : Nat} (hK : K ≤ 20) (hR : R ≤ 60) (hNS : NS ≤ 8) (h1 : xOk b i K NS R) : i < 2 ^ 20 := by
  unfold xOk at h1
  split at h1 <;> omega
theorem p_kind {H : Hp} {c L : Nat} {xs : Nat → Int32} (p : Int32) (hc : c ≤ 600) (I : LI c L xs H) : PR mX_kind mM_kind 1 0 0 1 [vI p] c L xs H := by
  obtain ⟨σ, od, K, N, B, R, A, V, O, NS, P, T, n, h0, eH, C, G, hT, hS⟩ := I
  have hcs := fKind_cs (σ := σ) (p := p) G.1.1.2.1
  refine PR.mk (x := (fKind σ p K).1) (τ := (fKind σ p K).2) hS eH (Con.mono (c_X_kind p C.1 C.2.1 G.1.1 G.1.2) (fun v h' q0 => ?_)) (fun h => c_M_kind p G.1.2 G.1.1.1 G.1.1.2.1)
  obtain ⟨e1, F, K', a1, a2, a3, a4⟩ := q0
  refine ⟨e1, F.hi, ?_⟩
  generalize fKind σ p K = f at *
  obtain ⟨x0, τ⟩ := f
  dsimp only at *
  have e : ∀ k i, (∀ z ∈ [0, 1], k ≠ z) → τ k i = σ k i := by
    intro k i hk
    rcases hcs with hc1 | ⟨-, hc1⟩
    · rw [hc1]
    · rw [hc1]
      simp only [List.mem_cons, List.not_mem_nil, or_false, forall_eq_or_imp, forall_eq] at hk
      unfold us
      repeat (rw [if_neg (fun z => by omega)])
  have L := G.2.2.2.1.1
  have kd : ∀ r, r < R → dps τ r (nt (σ 13 r)) = dps σ r (nt (σ 13 r)) ∧ ky τ r = ky σ r := by
    intro r hr
    refine ky_cg1 ⟨e 9 r (by decide), e 10 r (by decide), e 11 r (by decide), e 13 r (by decide), e 15 r (by decide), e 16 r (by decide), fun i _ => e 14 _ (by decide), fun i _ => e 12 _ (by decide)⟩ (L.m4 hr) (fun x => ?_)
    rcases hcs with hc1 | ⟨⟨c1, k, hk, rfl⟩, hc1⟩
    · rw [hc1]; exact Or.inl rfl
    · rw [hc1]
      by_cases cx : x < K
      · have hK20 := G.1.1.2.1
        exact Or.inl (dpt_new G.1.1 hk (by omega) 20 x (by omega) cx)
      · refine Or.inr fun ⟨k0, z1, z2, z3⟩ => ?_
        obtain ⟨-, -, m, b3, b4, b5⟩ := L.2 r hr
        rw [b4, nt_nI (by omega)] at z1
        obtain ⟨x0, y1, y2⟩ := b5 k0 z1 z2
        have hK20 := G.1.1.2.1
        rw [y2, nt_nI (by omega)] at z3
        omega
  have hb : brC h' τ B R od := C.2.2.2.1.fr (F.ag (by decide)) (fun j => e 6 j (by decide)) (fun j => e 7 j (by decide)) (fun r _ => e 9 r (by decide)) (fun r q1 => (kd r q1).2) (fun r _ => ⟨e 15 r (by decide), e 16 r (by decide)⟩) (fun b r q1 => ((G.2.2.2.2.1.1 b).1 r q1).1)
    (C.2.2.2.1.2.fr (fun r q1 => L.m4 q1) (F.ag (by decide)) (fun r _ => ⟨e 9 r (by decide), e 10 r (by decide), e 11 r (by decide), e 13 r (by decide), e 15 r (by decide), e 16 r (by decide), fun i _ => e 14 _ (by decide), fun i _ => e 12 _ (by decide)⟩) (fun r q1 => (kd r q1).1))
  exact ⟨od, K', N, B, R, A, V, O, NS, P, T, n, ⟨(by rw [e 33 0 (by decide), e 35 0 (by decide), e 37 0 (by decide), e 46 0 (by decide)]; exact C.1.fr (F.ag (by decide))), a1, (by rw [show τ 4 = σ 4 from funext fun j => e 4 j (by decide)]; exact C.2.2.1.fr (F.ag (by decide)) (fun j => e 3 j (by decide))), hb, (C.2.2.2.2.1.fr (F.ag (by decide)) (fun j => e 34 j (by decide))), (C.2.2.2.2.2.1.fr (F.ag (by decide)) (fun j => e 36 j (by decide))), (C.2.2.2.2.2.2.1.fr (F.ag (by decide)) (fun j => e 38 j (by decide)) (fun j => e 39 j (by decide))), (C.2.2.2.2.2.2.2.1.fr (F.ag (by decide)) (fun k j a b d => e k j (by simp <;> omega))), (C.2.2.2.2.2.2.2.2.1.fr (F.ag (by decide)) (fun j => e 51 j (by decide))), (by rw [show τ 28 = σ 28 from funext fun j => e 28 j (by decide)]; exact C.2.2.2.2.2.2.2.2.2.1.fr (F.ag (by decide))), (by rw [e 30 0 (by decide), e 31 0 (by decide)]; exact C.2.2.2.2.2.2.2.2.2.2.1.fr (F.ag (by decide))), (oK C.2.2.2.2.2.2.2.2.2.2.2 F)⟩, ⟨⟨a2, a3⟩, ((G.2.1.cg fun k i a b => e k i (by simp <;> omega)).mo a4), (G.2.2.1.cg fun k i a b => e k i (by simp <;> omega)), ((G.2.2.2.1.cg fun k i a b => e k i (by simp <;> omega)).mo a4 (Nat.le_refl _) (Nat.le_refl _)), (G.2.2.2.2.1.cg fun k i a => e k i (by simp <;> omega)), (G.2.2.2.2.2.1.cg fun k i a b => e k i (by simp <;> omega)), (G.2.2.2.2.2.2.1.cg fun k i a b => e k i (by simp <;> omega)), (G.2.2.2.2.2.2.2.1.cg fun k i a b => e k i (by simp <;> omega)), (G.2.2.2.2.2.2.2.2.1.cg fun k i a b => e k i (by simp <;> omega)), ((G.2.2.2.2.2.2.2.2.2.1.cg fun k i a b => e k i (by simp <;> omega)).mo a4), (G.2.2.2.2.2.2.2.2.2.2.cg fun i => e 29 i (by decide))⟩, by omega⟩
theorem p_book {H : Hp} {c L : Nat} {xs : Nat → Int32} (p : Int32) (hc : c ≤ 600) (I : LI c L xs H) : PR mX_book mM_book 7 6 91 1 [vI p] c L xs H := by
  obtain ⟨σ, od, K, N, B, R, A, V, O, NS, P, T, n, h0, eH, C, G, hT, hS⟩ := I
  have hcs := fBook_cs (σ := σ) (p := p) (N := B)
  refine PR.mk (x := (fBook σ p B).1) (τ := (fBook σ p B).2) hS eH (Con.mono (c_X_book p C.1 C.2.2.2.1.1 G.2.2.1.1 G.2.2.1.2.1 G.2.2.1.2.2.2 ⟨(ownL_no G.2.2.2.1.2.2.1 (Nat.le_refl _) G.2.2.1.1).1, od_no G.2.2.2.1.2.2.1 G.2.2.2.2.1.1 (Nat.le_refl _) G.2.2.1.1, by show rowS σ B R (od B) = []; rw [od_no G.2.2.2.1.2.2.1 G.2.2.2.2.1.1 (Nat.le_refl _) G.2.2.1.1]; exact (ownL_no G.2.2.2.1.2.2.1 (Nat.le_refl _) G.2.2.1.1).2⟩) (fun v h' q0 => ?_)) (fun h => c_M_book p G.2.2.1.2.1 G.2.2.1.1)
  obtain ⟨e1, F, B', a1, a2, a3, a4⟩ := q0
  refine ⟨e1, F.hi, ?_⟩
  generalize fBook σ p B = f at *
  obtain ⟨x0, τ⟩ := f
  dsimp only at *
  have e : ∀ k i, (∀ z ∈ [5, 6], k ≠ z) → τ k i = σ k i := by
    intro k i hk
    rcases hcs with hc1 | ⟨-, hc1⟩
    · rw [hc1]
    · rw [hc1]
      simp only [List.mem_cons, List.not_mem_nil, or_false, forall_eq_or_imp, forall_eq] at hk
      unfold us
      repeat (rw [if_neg (fun z => by omega)])
  have hBB := G.2.2.1.1
  have hs : iB τ B' := by
    refine ⟨a2, a4, fun b q1 => ?_, fun i q1 => by rw [e 7 i (by decide)]; exact G.2.2.1.2.2.2 i (by omega)⟩
    rcases hcs with hc1 | ⟨⟨c1, k, hk, ek⟩, hc1⟩
    · rw [hc1] at a4 ⊢
      have := nI_inj (by omega) (by omega) (a4.symm.trans G.2.2.1.2.1)
      exact G.2.2.1.2.2.1 b (by omega)
    · rw [hc1] at a4 ⊢
      rw [us_s] at a4
      have := nI_inj (by omega) (by omega) a4
      rw [us_k (by decide)]
      by_cases c2 : b = B
      · subst c2; rw [us_s]; exact ⟨k, hk, ek⟩
      · rw [us_j c2]; exact G.2.2.1.2.2.1 b (by omega)
  have hb : brC h' τ B' R od := by
    refine ⟨?_, C.2.2.2.1.2.fr (fun r q1 => G.2.2.2.1.1.m4 q1) (F.ag (by decide)) (fun r _ => ⟨e 9 r (by decide), e 10 r (by decide), e 11 r (by decide), e 13 r (by decide), e 15 r (by decide), e 16 r (by decide), fun i _ => e 14 _ (by decide), fun i _ => e 12 _ (by decide)⟩) (fun r _ => dps_cg (fun i => e 1 i (by decide)) (fun i => e 12 i (by decide)) r _)⟩
    have g1 : (fun b => ownL τ b R) = fun b => ownL σ b R := funext fun b => ownL_cg (fun r _ => e 9 r (by decide))
    have g2 : (fun b => rowS τ b R (od b)) = fun b => rowS σ b R (od b) := funext fun b => rowS_cg (fun r _ => e 9 r (by decide)) (fun r _ _ => ky_cgs (fun i => e 1 i (by decide)) (fun k i a b => e k i (by simp <;> omega)) r) (fun r _ => ⟨e 15 r (by decide), e 16 r (by decide)⟩)
    rw [g1, g2]
    exact a3
  exact ⟨od, K, N, B', R, A, V, O, NS, P, T, n, ⟨(by rw [e 33 0 (by decide), e 35 0 (by decide), e 37 0 (by decide), e 46 0 (by decide)]; exact C.1.fr (F.ag (by decide))), (C.2.1.fr (F.ag (by decide)) (fun j => e 1 j (by decide))), (by rw [show τ 4 = σ 4 from funext fun j => e 4 j (by decide)]; exact C.2.2.1.fr (F.ag (by decide)) (fun j => e 3 j (by decide))), hb, (C.2.2.2.2.1.fr (F.ag (by decide)) (fun j => e 34 j (by decide))), (C.2.2.2.2.2.1.fr (F.ag (by decide)) (fun j => e 36 j (by decide))), (C.2.2.2.2.2.2.1.fr (F.ag (by decide)) (fun j => e 38 j (by decide)) (fun j => e 39 j (by decide))), (C.2.2.2.2.2.2.2.1.fr (F.ag (by decide)) (fun k j a b d => e k j (by simp <;> omega))), (C.2.2.2.2.2.2.2.2.1.fr (F.ag (by decide)) (fun j => e 51 j (by decide))), (by rw [show τ 28 = σ 28 from funext fun j => e 28 j (by decide)]; exact C.2.2.2.2.2.2.2.2.2.1.fr (F.ag (by decide))), (by rw [e 30 0 (by decide), e 31 0 (by decide)]; exact C.2.2.2.2.2.2.2.2.2.2.1.fr (F.ag (by decide))), (oK C.2.2.2.2.2.2.2.2.2.2.2 F)⟩, ⟨(G.1.cg fun k i a => e k i (by simp <;> omega)), (G.2.1.cg fun k i a b => e k i (by simp <;> omega)), hs, ((G.2.2.2.1.cg fun k i a b => e k i (by simp <;> omega)).mo (Nat.le_refl _) a1 (Nat.le_refl _)), (G.2.2.2.2.1.cg fun k i a => e k i (by simp <;> omega)), ((G.2.2.2.2.2.1.cg fun k i a b => e k i (by simp <;> omega)).mo a1), ((G.2.2.2.2.2.2.1.cg fun k i a b => e k i (by simp <;> omega)).mo a1), (G.2.2.2.2.2.2.2.1.cg fun k i a b => e k i (by simp <;> omega)), ((G.2.2.2.2.2.2.2.2.1.cg fun k i a b => e k i (by simp <;> omega)).mo (Nat.le_refl _) a1), (G.2.2.2.2.2.2.2.2.2.1.cg fun k i a b => e k i (by simp <;> omega)), (G.2.2.2.2.2.2.2.2.2.2.cg fun i => e 29 i (by decide))⟩, by omega⟩
theorem p_rule {H : Hp} {c L : Nat} {xs : Nat → Int32} (p s q : Int32) (hc : c ≤ 600) (I : LI c L xs H) : PR mX_rule mM_rule 10 124 8924 2 [vI p, vI s, vI q] c L xs H := by
  obtain ⟨σ, od, K, N, B, R, A, V, O, NS, P, T, n, h0, eH, C, G, hT, hS⟩ := I
  have hcs := fRule_cs (σ := σ) (p := p) (s := s) (q := q) (R := R) G.2.2.1.1
  refine PR.mk (x := (fRule σ p s q B R).1) (τ := (fRule σ p s q B R).2) hS eH (Con.mono (c_X_rule p s q C.1 C.2.2.2.1 G.1.1 G.2.2.2.1.1 G.2.2.2.1.2.2.2.1 G.2.2.2.2.1.1 G.2.2.1.1 G.2.2.2.1.2.1 (G.2.2.2.1.2.2.2.2.2.1 R (Nat.le_refl _)) G.2.2.2.1.2.2.2.2.2.2.1) (fun v h' q0 => ?_)) (fun h => c_M_rule p s q G.2.2.1.2.1 G.2.2.1.1 G.2.2.2.1.2.1 G.2.2.2.1.1.1)
  obtain ⟨e1, F, R', a1, a2, a3⟩ := q0
  refine ⟨e1, F.hi, ?_⟩
  generalize fRule σ p s q B R = f at *
  obtain ⟨x0, τ⟩ := f
  dsimp only at *
  have e : ∀ k i, (∀ z ∈ [8, 9, 10, 11, 15], k ≠ z) → τ k i = σ k i := by
    intro k i hk
    rcases hcs with hc1 | ⟨-, hc1⟩
    · rw [hc1]
    · rw [hc1]
      simp only [List.mem_cons, List.not_mem_nil, or_false, forall_eq_or_imp, forall_eq] at hk
      unfold us
      repeat (rw [if_neg (fun z => by omega)])
  have hR0 := G.2.2.2.1.1.1
  have hs : iR τ R' K B NS ∧ iO τ R' T od := by
    rcases hcs with hc1 | ⟨⟨c1, b, s0, q0, hb, hs0, hq0, rfl, rfl, rfl⟩, hc1⟩
    · rw [hc1] at a2 ⊢
      have := nI_inj (by omega) (by omega) (a2.symm.trans G.2.2.2.1.2.1)
      subst this
      exact ⟨G.2.2.2.1, G.2.2.2.2.1⟩
    · have a2' := a2
      rw [hc1, us_s] at a2'
      have := nI_inj (by omega) (by omega) a2'
      subst this
      obtain ⟨r1, r2, r3, r4, r5, r6, r7, r8⟩ := G.2.2.2.1
      obtain ⟨o1, o2, o3, o4, o5, o6⟩ := G.2.2.2.2.1
      have L2 := r1.add (b := b) (s := s0) (p := q0) (by omega) hs0 hq0 (r6 R (Nat.le_refl _))
      have O2 := r4.add (b := b) (s := s0) (p := q0)
      rw [← hc1] at L2 O2
      have τ9 : τ 9 R = nI b := by rw [hc1, us_k (by decide), us_k (by decide), us_k (by decide), us_k (by decide), us_s]
      have τ15 : τ 15 R = -4 := by rw [hc1, us_k (by decide), us_s]
      have τo : ∀ k i, k ≠ 8 → i ≠ R → τ k i = σ k i := fun k i z1 z2 => by rw [hc1, us_k z1, us_j z2, us_j z2, us_j z2, us_j z2]
      have t13 : τ 13 R = 0 := by rw [e 13 R (by decide)]; exact r6 R (Nat.le_refl _)
      refine ⟨⟨L2, a2, fun r q1 => ?_, O2, fun r q1 => ?_, fun r q1 => by rw [e 13 r (by decide)]; exact r6 r (by omega), fun i q1 => by rw [e 14 i (by decide)]; exact r7 i (by omega), fun r q1 => ?_⟩, ⟨fun b0 => ⟨fun r q1 => ?_, (o1 b0).2⟩, fun r q1 q2 => ?_, fun r r' q1 q2 q3 q4 q5 => ?_, by rw [e 18 0 (by decide)]; exact o4, fun r q1 q2 => ?_, fun b0 q1 => ⟨fun r q2 => ?_, fun r q2 q3 => ?_, ?_⟩⟩⟩
      · by_cases c2 : r = R
        · subst c2; exact ⟨b, hb, τ9⟩
        · rw [τo 9 r (by decide) c2]; exact r3 r (by omega)
      · by_cases c2 : r = R
        · subst c2
          refine ⟨0, by omega, by rw [e 14 _ (by decide)]; exact r7 _ (by omega), fun z => by omega, fun z => by omega, fun z => by omega, fun z => by omega⟩
        · rw [e 14 _ (by decide), e 14 _ (by decide), e 14 _ (by decide)]
          exact r5 r (by omega)
      · by_cases c2 : r = R
        · subst c2
          exact ⟨0, by omega, t13, fun k z => by omega⟩
        · obtain ⟨m, y1, y2, y3⟩ := r8 r (by omega)
          refine ⟨m, y1, by rw [e 13 r (by decide)]; exact y2, fun k z => ?_⟩
          obtain ⟨c0, x0, w1, w2, w3, w4, w5, w6⟩ := y3 k z
          refine ⟨c0, x0, w1, w2, w3, by rw [e 12 _ (by decide)]; exact w4, by rw [e 12 _ (by decide)]; exact w5, ?_⟩
          unfold xOk at w6 ⊢
          split at w6 <;> first | exact w6 | omega
      · obtain ⟨y1, y2, y3⟩ := (o1 b0).1 r q1
        rw [τo 15 r (by decide) (by omega), τo 9 r (by decide) (by omega)]
        exact ⟨by omega, y2, y3⟩
      · by_cases c2 : r = R
        · subst c2; exact absurd τ15 q2
        · rw [τo 15 r (by decide) c2] at q2
          rw [e 17 r (by decide)]
          exact o2 r (by omega) q2
      · by_cases c2 : r = R
        · subst c2; exact absurd τ15 q3
        · by_cases c3 : r' = R
          · subst c3; exact absurd τ15 q4
          · rw [τo 15 r (by decide) c2] at q3
            rw [τo 15 r' (by decide) c3] at q4
            rw [e 17 r (by decide), e 17 r' (by decide)] at q5
            exact o3 r r' (by omega) (by omega) q3 q4 q5
      · by_cases c2 : r = R
        · subst c2; exact absurd τ15 q2
        · rw [τo 15 r (by decide) c2] at q2
          rw [e 17 r (by decide)]
          exact o5 r (by omega) q2
      · obtain ⟨y1, y2⟩ := (o6 b0 q1).1 r q2
        refine ⟨by omega, (cand_c2 fun k z => ?_).mpr y2⟩
        rcases z with rfl | rfl | rfl
        · exact τo 9 r (by decide) (by omega)
        · exact τo 15 r (by decide) (by omega)
        · exact e 17 r (by decide)
      · by_cases c2 : r = R
        · subst c2; exact absurd τ15 q3.2.1
        · refine (o6 b0 q1).2.1 r (by omega) ((cand_c2 fun k z => ?_).mp q3)
          rcases z with rfl | rfl | rfl
          · exact τo 9 r (by decide) c2
          · exact τo 15 r (by decide) c2
          · exact e 17 r (by decide)
      · refine (o6 b0 q1).2.2.imp fun {x y} z => ?_
        rw [e 17 x (by decide), e 17 y (by decide)]
        exact z
  exact ⟨od, K, N, B, R', A, V, O, NS, P, T, n, ⟨(by rw [e 33 0 (by decide), e 35 0 (by decide), e 37 0 (by decide), e 46 0 (by decide)]; exact C.1.fr (F.ag (by decide))), (C.2.1.fr (F.ag (by decide)) (fun j => e 1 j (by decide))), (by rw [show τ 4 = σ 4 from funext fun j => e 4 j (by decide)]; exact C.2.2.1.fr (F.ag (by decide)) (fun j => e 3 j (by decide))), a1, (C.2.2.2.2.1.fr (F.ag (by decide)) (fun j => e 34 j (by decide))), (C.2.2.2.2.2.1.fr (F.ag (by decide)) (fun j => e 36 j (by decide))), (C.2.2.2.2.2.2.1.fr (F.ag (by decide)) (fun j => e 38 j (by decide)) (fun j => e 39 j (by decide))), (C.2.2.2.2.2.2.2.1.fr (F.ag (by decide)) (fun k j a b d => e k j (by simp <;> omega))), (C.2.2.2.2.2.2.2.2.1.fr (F.ag (by decide)) (fun j => e 51 j (by decide))), (by rw [show τ 28 = σ 28 from funext fun j => e 28 j (by decide)]; exact C.2.2.2.2.2.2.2.2.2.1.fr (F.ag (by decide))), (by rw [e 30 0 (by decide), e 31 0 (by decide)]; exact C.2.2.2.2.2.2.2.2.2.2.1.fr (F.ag (by decide))), (oK C.2.2.2.2.2.2.2.2.2.2.2 F)⟩, ⟨(G.1.cg fun k i a => e k i (by simp <;> omega)), (G.2.1.cg fun k i a b => e k i (by simp <;> omega)), (G.2.2.1.cg fun k i a b => e k i (by simp <;> omega)), hs.1, hs.2, (G.2.2.2.2.2.1.cg fun k i a b => e k i (by simp <;> omega)), (G.2.2.2.2.2.2.1.cg fun k i a b => e k i (by simp <;> omega)), (G.2.2.2.2.2.2.2.1.cg fun k i a b => e k i (by simp <;> omega)), (G.2.2.2.2.2.2.2.2.1.cg fun k i a b => e k i (by simp <;> omega)), (G.2.2.2.2.2.2.2.2.2.1.cg fun k i a b => e k i (by simp <;> omega)), (G.2.2.2.2.2.2.2.2.2.2.cg fun i => e 29 i (by decide))⟩, by omega⟩
theorem p_does {H : Hp} {c L : Nat} {xs : Nat → Int32} (r k0 x y : Int32) (hc : c ≤ 600) (I : LI c L xs H) : PR mX_does mM_does 5 0 0 2 [vI r, vI k0, vI x, vI y] c L xs H := by
  obtain ⟨σ, od, K, N, B, R, A, V, O, NS, P, T, n, h0, eH, C, G, hT, hS⟩ := I
  have hcs := fDoes_cs (σ := σ) (r := r) (c := k0) (x := x) (y := y) (B := B) G.2.2.2.1.1.1
  refine PR.mk (x := (fDoes σ r k0 x y R B).1) (τ := (fDoes σ r k0 x y R B).2) hS eH (Con.mono (c_X_does r k0 x y C.1 C.2.2.2.1 G.2.2.2.1.1 G.2.2.2.2.1.1 G.2.2.1.1) (fun v h' q0 => ?_)) (fun h => c_M_does r k0 x y G.2.2.2.1.2.1 G.2.2.2.1.1.1 G.2.2.1.2.1 G.2.2.1.1)
  obtain ⟨e1, F, a1⟩ := q0
  refine ⟨e1, F.hi, ?_⟩
  generalize fDoes σ r k0 x y R B = f at *
  obtain ⟨x0, τ⟩ := f
  dsimp only at *
  have e : ∀ k i, (∀ z ∈ [14], k ≠ z) → τ k i = σ k i := by
    intro k i hk
    rcases hcs with hc1 | ⟨j, n0, hj, hn, ec, hd, hc1⟩
    · rw [hc1]
    · rw [hc1]
      simp only [List.mem_cons, List.not_mem_nil, or_false, forall_eq_or_imp, forall_eq] at hk
      unfold us
      repeat (rw [if_neg (fun z => by omega)])
  have hs : iR τ R K B NS := by
    rcases hcs with hc1 | ⟨j, n0, hj, hn, rfl, hd, hc1⟩
    · rw [hc1]; exact G.2.2.2.1
    · obtain ⟨r1, r2, r3, r4, r5, r6, r7, r8⟩ := G.2.2.2.1
      obtain ⟨d1, d2, d3, d4⟩ := deed_ok G.2.2.1.1 hn hd
      refine ⟨r1.cg fun k i a b => e k i (by simp <;> omega), by rw [e 8 0 (by decide)]; exact r2, fun r q1 => by rw [e 9 r (by decide)]; exact r3 r q1, r4.cg fun k i a b => e k i (by simp <;> omega), fun r q1 => ?_, fun r q1 => by rw [e 13 r (by decide)]; exact r6 r q1, fun i q1 => ?_, r8.cg fun k i a b => e k i (by simp <;> omega)⟩
      · rw [hc1]
        by_cases c2 : r = j
        · subst c2
          rw [us_j (by omega), us_j (by omega), us_s, us_j (by omega), us_s, us_s]
          exact ⟨n0, by omega, rfl, d1, d2, d3, d4⟩
        · rw [us_j (by omega), us_j (by omega), us_j (by omega), us_j (by omega), us_j (by omega), us_j (by omega), us_j (by omega), us_j (by omega), us_j (by omega)]
          exact r5 r q1
      · rw [hc1, us_j (by omega), us_j (by omega), us_j (by omega)]; exact r7 i q1
  exact ⟨od, K, N, B, R, A, V, O, NS, P, T, n, ⟨(by rw [e 33 0 (by decide), e 35 0 (by decide), e 37 0 (by decide), e 46 0 (by decide)]; exact C.1.fr (F.ag (by decide))), (C.2.1.fr (F.ag (by decide)) (fun j => e 1 j (by decide))), (by rw [show τ 4 = σ 4 from funext fun j => e 4 j (by decide)]; exact C.2.2.1.fr (F.ag (by decide)) (fun j => e 3 j (by decide))), a1, (C.2.2.2.2.1.fr (F.ag (by decide)) (fun j => e 34 j (by decide))), (C.2.2.2.2.2.1.fr (F.ag (by decide)) (fun j => e 36 j (by decide))), (C.2.2.2.2.2.2.1.fr (F.ag (by decide)) (fun j => e 38 j (by decide)) (fun j => e 39 j (by decide))), (C.2.2.2.2.2.2.2.1.fr (F.ag (by decide)) (fun k j a b d => e k j (by simp <;> omega))), (C.2.2.2.2.2.2.2.2.1.fr (F.ag (by decide)) (fun j => e 51 j (by decide))), (by rw [show τ 28 = σ 28 from funext fun j => e 28 j (by decide)]; exact C.2.2.2.2.2.2.2.2.2.1.fr (F.ag (by decide))), (by rw [e 30 0 (by decide), e 31 0 (by decide)]; exact C.2.2.2.2.2.2.2.2.2.2.1.fr (F.ag (by decide))), (oK C.2.2.2.2.2.2.2.2.2.2.2 F)⟩, ⟨(G.1.cg fun k i a => e k i (by simp <;> omega)), (G.2.1.cg fun k i a b => e k i (by simp <;> omega)), (G.2.2.1.cg fun k i a b => e k i (by simp <;> omega)), hs, (G.2.2.2.2.1.cg fun k i a => e k i (by simp <;> omega)), (G.2.2.2.2.2.1.cg fun k i a b => e k i (by simp <;> omega)), (G.2.2.2.2.2.2.1.cg fun k i a b => e k i (by simp <;> omega)), (G.2.2.2.2.2.2.2.1.cg fun k i a b => e k i (by simp <;> omega)), (G.2.2.2.2.2.2.2.2.1.cg fun k i a b => e k i (by simp <;> omega)), (G.2.2.2.2.2.2.2.2.2.1.cg fun k i a b => e k i (by simp <;> omega)), (G.2.2.2.2.2.2.2.2.2.2.cg fun i => e 29 i (by decide))⟩, by omega⟩
theorem p_condition {H : Hp} {c L : Nat} {xs : Nat → Int32} (r k0 x y : Int32) (hc : c ≤ 600) (I : LI c L xs H) : PR mX_condition mM_condition 9 122 8837 2 [vI r, vI k0, vI x, vI y] c L xs H := by
  obtain ⟨σ, od, K, N, B, R, A, V, O, NS, P, T, n, h0, eH, C, G, hT, hS⟩ := I
  have hcs := fCond_cs (σ := σ) (r := r) (c := k0) (x := x) (y := y) (K := K) (NS := NS) G.2.2.2.1.1.1
  refine PR.mk (x := (fCond σ r k0 x y K R NS).1) (τ := (fCond σ r k0 x y K R NS).2) hS eH (Con.mono (c_X_condition r k0 x y C.1 C.2.2.2.1 C.2.1 C.2.2.2.2.2.2.2.1 G.2.2.2.2.2.2.2.2.1.1 G.1.1 G.2.2.2.1.1 G.2.2.2.1.2.2.2.1 G.2.2.2.2.1.1 G.2.2.1.1 G.2.2.2.1.2.2.1) (fun v h' q0 => ?_)) (fun h => c_M_condition r k0 x y G.1.2 G.1.1.2.1 G.2.2.2.1.2.1 G.2.2.2.1.1.1 G.2.2.2.2.2.2.2.2.1.2.1 G.2.2.2.2.2.2.2.2.1.1 (fun j q1 => by obtain ⟨-, -, m, z1, z2, -⟩ := G.2.2.2.1.1.2 j q1; exact ⟨m, z1, z2⟩))
  obtain ⟨e1, F, a1⟩ := q0
  refine ⟨e1, F.hi, ?_⟩
  generalize fCond σ r k0 x y K R NS = f at *
  obtain ⟨x0, τ⟩ := f
  dsimp only at *
  have e : ∀ k i, (∀ z ∈ [12, 13], k ≠ z) → τ k i = σ k i := by
    intro k i hk
    rcases hcs with hc1 | ⟨j, n0, b, hj, hn, ec, hb, hbs, h7, hx, h4, hc1⟩
    · rw [hc1]
    · rw [hc1]
      simp only [List.mem_cons, List.not_mem_nil, or_false, forall_eq_or_imp, forall_eq] at hk
      unfold tcS us
      repeat (rw [if_neg (fun z => by omega)])
  have hs : iR τ R K B NS := by
    rcases hcs with hc1 | ⟨j, n0, b, hj, hn, rfl, hb, hbs, h7, hx, h4, hc1⟩
    · rw [hc1]; exact G.2.2.2.1
    · obtain ⟨r1, r2, r3, r4, r5, r6, r7, r8⟩ := G.2.2.2.1
      obtain ⟨m, m1, m2, m3⟩ := r8 j hj
      have em : nt (σ 13 j) = m := by rw [m2, nt_nI (by omega)]
      rw [em] at h4 hc1
      obtain ⟨i0, ex, xo⟩ := cdX_ok G.1.1.2.1 G.2.2.2.1.1.1 G.2.2.2.2.2.2.2.2.1.1 hb hx
      subst ex
      have L2 : RK τ R K := by
        rw [hc1]
        refine r1.cond m2 (by omega) (fun z => ?_)
        have z2 : n0 = 0 := nI_inj (b := 0) (by omega) (by omega) z
        subst z2
        have b0 : b = 0 := hbs
        subst b0
        exact ⟨i0, xo, rfl⟩
      refine ⟨L2, by rw [e 8 0 (by decide)]; exact r2, fun r q1 => by rw [e 9 r (by decide)]; exact r3 r q1, r4.cg fun k i a b => e k i (by simp <;> omega), r5.cg fun i => e 14 i (by decide), fun r q1 => ?_, fun i q1 => by rw [e 14 i (by decide)]; exact r7 i q1, fun r q1 => ?_⟩
      · rw [hc1, tcS_13 (by omega)]; exact r6 r q1
      · by_cases c2 : r = j
        · subst c2
          refine ⟨m + 1, by omega, by rw [hc1]; exact us_s, fun k q2 => ?_⟩
          by_cases c3 : k = m
          · subst c3
            refine ⟨n0, i0, by omega, by rw [← hbs]; exact hb, h7, by rw [hc1]; exact tcS_12a, by rw [hc1]; exact tcS_12b, by rw [← hbs]; exact xo⟩
          · obtain ⟨c0, x0, w1, w2, w3, w4, w5, w6⟩ := m3 k (by omega)
            exact ⟨c0, x0, w1, w2, w3, by rw [hc1, tcS_12 (by omega) (by omega) (by omega)]; exact w4, by rw [hc1, tcS_12 (by omega) (by omega) (by omega)]; exact w5, w6⟩
        · obtain ⟨m', y1, y2, y3⟩ := r8 r q1
          refine ⟨m', y1, by rw [hc1, tcS_13 c2]; exact y2, fun k q2 => ?_⟩
          obtain ⟨c0, x0, w1, w2, w3, w4, w5, w6⟩ := y3 k q2
          exact ⟨c0, x0, w1, w2, w3, by rw [hc1, tcS_12 (by omega) (by omega) (by omega)]; exact w4, by rw [hc1, tcS_12 (by omega) (by omega) (by omega)]; exact w5, w6⟩
  exact ⟨od, K, N, B, R, A, V, O, NS, P, T, n, ⟨(by rw [e 33 0 (by decide), e 35 0 (by decide), e 37 0 (by decide), e 46 0 (by decide)]; exact C.1.fr (F.ag (by decide))), (C.2.1.fr (F.ag (by decide)) (fun j => e 1 j (by decide))), (by rw [show τ 4 = σ 4 from funext fun j => e 4 j (by decide)]; exact C.2.2.1.fr (F.ag (by decide)) (fun j => e 3 j (by decide))), a1, (C.2.2.2.2.1.fr (F.ag (by decide)) (fun j => e 34 j (by decide))), (C.2.2.2.2.2.1.fr (F.ag (by decide)) (fun j => e 36 j (by decide))), (C.2.2.2.2.2.2.1.fr (F.ag (by decide)) (fun j => e 38 j (by decide)) (fun j => e 39 j (by decide))), (C.2.2.2.2.2.2.2.1.fr (F.ag (by decide)) (fun k j a b d => e k j (by simp <;> omega))), (C.2.2.2.2.2.2.2.2.1.fr (F.ag (by decide)) (fun j => e 51 j (by decide))), (by rw [show τ 28 = σ 28 from funext fun j => e 28 j (by decide)]; exact C.2.2.2.2.2.2.2.2.2.1.fr (F.ag (by decide))), (by rw [e 30 0 (by decide), e 31 0 (by decide)]; exact C.2.2.2.2.2.2.2.2.2.2.1.fr (F.ag (by decide))), (oK C.2.2.2.2.2.2.2.2.2.2.2 F)⟩, ⟨(G.1.cg fun k i a => e k i (by simp <;> omega)), (G.2.1.cg fun k i a b => e k i (by simp <;> omega)), (G.2.2.1.cg fun k i a b => e k i (by simp <;> omega)), hs, (G.2.2.2.2.1.cg fun k i a => e k i (by simp <;> omega)), (G.2.2.2.2.2.1.cg fun k i a b => e k i (by simp <;> omega)), (G.2.2.2.2.2.2.1.cg fun k i a b => e k i (by simp <;> omega)), (G.2.2.2.2.2.2.2.1.cg fun k i a b => e k i (by simp <;> omega)), (G.2.2.2.2.2.2.2.2.1.cg fun k i a b => e k i (by simp <;> omega)), (G.2.2.2.2.2.2.2.2.2.1.cg fun k i a b => e k i (by simp <;> omega)), (G.2.2.2.2.2.2.2.2.2.2.cg fun i => e 29 i (by decide))⟩, by omega⟩
