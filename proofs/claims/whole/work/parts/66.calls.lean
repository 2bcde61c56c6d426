/-! each call, of both sides -/
theorem fSubject_cs {σ : Sg} {p : Int32} {K N : Nat} (hK : K ≤ 20) : (fSubject σ p K N).2 = σ ∨ (N ≠ 20 ∧ ∃ k, k < K ∧ p = nI k) ∧ (fSubject σ p K N).2 = us (us σ 3 N p) 2 0 (nI (N + 1)) := by
  unfold fSubject
  rcases iy_cases p (K := K) (by omega) with ⟨q1, -⟩ | ⟨k, hk, e1, q1⟩
  · rw [q1]; exact Or.inl rfl
  · rw [q1]
    dsimp only
    by_cases c1 : N = 20
    · rw [if_pos c1]; exact Or.inl rfl
    · rw [if_neg c1]; exact Or.inr ⟨⟨c1, k, hk, e1⟩, rfl⟩
theorem fSet_cs {σ : Sg} {p x v : Int32} {N : Nat} (hN : N ≤ 20) : (fSet σ p x v N).2 = σ ∨ (∃ j, j < 4 * N ∧ (fSet σ p x v N).2 = us σ 4 j v) := by
  unfold fSet
  rcases iy_cases p (K := N) (by omega) with ⟨q1, -⟩ | ⟨k, hk, e1, q1⟩
  · rw [q1]; exact Or.inl rfl
  · rcases iy_cases x (K := 4) (by omega) with ⟨q2, -⟩ | ⟨i, hi, e2, q2⟩
    · rw [q1, q2]; exact Or.inl rfl
    · rw [q1, q2]; exact Or.inr ⟨4 * k + i, by omega, rfl⟩
theorem fBook_cs {σ : Sg} {p : Int32} {N : Nat} : (fBook σ p N).2 = σ ∨ (N ≠ 12 ∧ ∃ k, k ≤ 99 ∧ p = nI k) ∧ (fBook σ p N).2 = us (us σ 6 N p) 5 0 (nI (N + 1)) := by
  unfold fBook
  rcases iy_cases p (K := 100) (by omega) with ⟨q1, -⟩ | ⟨k, hk, e1, q1⟩
  · rw [q1]; exact Or.inl rfl
  · rw [q1]
    dsimp only
    by_cases c1 : N = 12
    · rw [if_pos c1]; exact Or.inl rfl
    · rw [if_neg c1]; exact Or.inr ⟨⟨c1, k, by omega, e1⟩, rfl⟩
theorem fVariable_cs {σ : Sg} {p x v : Int32} {N : Nat} (hN : N ≤ 12) : (fVariable σ p x v N).2 = σ ∨ (∃ j, j < 4 * N ∧ (fVariable σ p x v N).2 = us σ 7 j v) := by
  unfold fVariable
  rcases iy_cases p (K := N) (by omega) with ⟨q1, -⟩ | ⟨k, hk, e1, q1⟩
  · rw [q1]; exact Or.inl rfl
  · rcases iy_cases x (K := 4) (by omega) with ⟨q2, -⟩ | ⟨i, hi, e2, q2⟩
    · rw [q1, q2]; exact Or.inl rfl
    · rw [q1, q2]; exact Or.inr ⟨4 * k + i, by omega, rfl⟩
theorem fEvery_cs {σ : Sg} {p : Int32} {B : Nat} (hB : B ≤ 12) : (fEvery σ p B).2 = σ ∨ ((p = -4 ∨ ∃ b, b < B ∧ p = nI b) ∧ (fEvery σ p B).2 = us σ 46 0 p) := by
  unfold fEvery
  rcases bz_cases p (B := B) (by omega) with ⟨q1, hz⟩ | ⟨q1, -⟩
  · rw [if_pos q1]
    refine Or.inr ⟨?_, rfl⟩
    rcases hz with ⟨-, hz⟩ | ⟨z1, -⟩
    · exact hz
    · cases z1
  · rw [if_neg (by rw [q1]; decide)]; exact Or.inl rfl
theorem fAbandon_cs {σ : Sg} {O : Nat} : (fAbandon σ O).2 = σ ∨ (O ≠ 0 ∧ (fAbandon σ O).2 = us σ 37 0 (nI (O - 1))) := by
  unfold fAbandon
  by_cases c1 : O = 0
  · rw [if_pos c1]; exact Or.inl rfl
  · rw [if_neg c1]; exact Or.inr ⟨c1, rfl⟩
theorem fScene_cs {σ : Sg} {p : Int32} {N : Nat} : (fScene σ p N).2 = σ ∨ (N ≠ 8 ∧ (fScene σ p N).2 = us (us σ 41 N p) 40 0 (nI (N + 1))) := by
  unfold fScene
  rcases iy_cases p (K := 2) (by omega) with ⟨q1, -⟩ | ⟨k, hk, e1, q1⟩
  · rw [q1]; exact Or.inl rfl
  · rw [q1]
    dsimp only
    by_cases c1 : N = 8
    · rw [if_pos c1]; exact Or.inl rfl
    · rw [if_neg c1]; exact Or.inr ⟨c1, rfl⟩
theorem bN_t {b : Int32} {B : Nat} (hB : B ≤ 12) (h1 : bN b B = true) : b = -4 ∨ ∃ k, k < B ∧ b = nI k := by
  rcases bz_cases b (B := B) (by omega) with ⟨q1, hz⟩ | ⟨q1, -⟩
  · rcases hz with ⟨-, hz⟩ | ⟨z1, -⟩
    · exact hz
    · cases z1
  · rw [h1] at q1; cases q1
theorem fAction_cs {σ : Sg} {a b c d e f : Int32} {B N : Nat} (hB : B ≤ 12) : (fAction σ a b c d e f B N).2 = σ ∨ ((N ≠ 8 ∧ ∀ k, k < 6 → l6 a b c d e f k = -4 ∨ ∃ z, z < B ∧ l6 a b c d e f k = nI z) ∧ (fAction σ a b c d e f B N).2 = us (us (us (us (us (us (us σ 34 (6 * N) a) 34 (6 * N + 1) b) 34 (6 * N + 2) c) 34 (6 * N + 3) d) 34 (6 * N + 4) e) 34 (6 * N + 5) f) 33 0 (nI (N + 1))) := by
  unfold fAction
  by_cases c0 : (bN a B && bN b B && bN c B && bN d B && bN e B && bN f B) = true
  · rw [if_pos c0]
    by_cases c1 : N = 8
    · rw [if_pos c1]; exact Or.inl rfl
    · rw [if_neg c1]
      simp only [Bool.and_eq_true] at c0
      refine Or.inr ⟨⟨c1, fun k hk => bN_t hB ?_⟩, rfl⟩
      rcases (show k = 0 ∨ k = 1 ∨ k = 2 ∨ k = 3 ∨ k = 4 ∨ k = 5 by omega) with rfl | rfl | rfl | rfl | rfl | rfl
      · exact c0.1.1.1.1.1
      · exact c0.1.1.1.1.2
      · exact c0.1.1.1.2
      · exact c0.1.1.2
      · exact c0.1.2
      · exact c0.2
  · rw [if_neg c0]; exact Or.inl rfl
theorem fActivity_cs {σ : Sg} {a b c : Int32} {B N : Nat} (hB : B ≤ 12) : (fActivity σ a b c B N).2 = σ ∨ ((N ≠ 6 ∧ ∀ k, k < 3 → l6 a b c 0 0 0 k = -4 ∨ ∃ z, z < B ∧ l6 a b c 0 0 0 k = nI z) ∧ (fActivity σ a b c B N).2 = us (us (us (us σ 36 (3 * N) a) 36 (3 * N + 1) b) 36 (3 * N + 2) c) 35 0 (nI (N + 1))) := by
  unfold fActivity
  by_cases c0 : (bN a B && bN b B && bN c B) = true
  · rw [if_pos c0]
    by_cases c1 : N = 6
    · rw [if_pos c1]; exact Or.inl rfl
    · rw [if_neg c1]
      simp only [Bool.and_eq_true] at c0
      refine Or.inr ⟨⟨c1, fun k hk => bN_t hB ?_⟩, rfl⟩
      rcases (show k = 0 ∨ k = 1 ∨ k = 2 by omega) with rfl | rfl | rfl
      · exact c0.1.1
      · exact c0.1.2
      · exact c0.2
  · rw [if_neg c0]; exact Or.inl rfl
theorem fPhrase_cs {σ : Sg} {a b c : Int32} {K N : Nat} (hK : K ≤ 20) : (fPhrase σ a b c K N).2 = σ ∨ ((N ≠ 40 ∧ isTo σ a b c N = false ∧ (∃ x, x < K ∧ b = nI x) ∧ ∃ y, y < K ∧ c = nI y) ∧ (fPhrase σ a b c K N).2 = us (us (us (us σ 51 (3 * N) a) 51 (3 * N + 1) b) 51 (3 * N + 2) c) 50 0 (nI (N + 1))) := by
  unfold fPhrase
  rcases iy_cases a (K := 10) (by omega) with ⟨q1, -⟩ | ⟨k, hk, e1, q1⟩
  · rw [q1]; exact Or.inl rfl
  · rcases iy_cases b (K := K) (by omega) with ⟨q2, -⟩ | ⟨i, hi, e2, q2⟩
    · rw [q1, q2]; exact Or.inl rfl
    · rcases iy_cases c (K := K) (by omega) with ⟨q3, -⟩ | ⟨j, hj, e3, q3⟩
      · rw [q1, q2, q3]; exact Or.inl rfl
      · rw [q1, q2, q3]
        dsimp only
        cases ht : isTo σ a b c N with
        | true => rw [if_pos rfl]; exact Or.inl rfl
        | false =>
          rw [if_neg (by decide)]
          by_cases c1 : N = 40
          · rw [if_pos c1]; exact Or.inl rfl
          · rw [if_neg c1]; exact Or.inr ⟨⟨c1, rfl, ⟨i, hi, e2⟩, j, hj, e3⟩, rfl⟩
theorem isTo_f {σ : Sg} {a b c : Int32} {N : Nat} (h1 : isTo σ a b c N = false) {k : Nat} (hk : k < N) : ¬ (σ 51 (3 * k) = a ∧ σ 51 (3 * k + 1) = b ∧ σ 51 (3 * k + 2) = c) := fun ⟨z1, z2, z3⟩ => by
  rw [isTo_of hk (by simp [z1, z2, z3])] at h1
  cases h1
theorem p_under {H : Hp} {c L : Nat} {xs : Nat → Int32} (p q : Int32) (I : LI c L xs H) : PR mX_under mM_under 1 0 0 1 [vI p, vI q] c L xs H := by
  have I0 := I
  obtain ⟨σ, od, K, N, B, R, A, V, O, NS, P, T, n, h0, eH, C, G, hT, hS⟩ := I
  exact PR.ro I0 hS eH (c_X_under p q C.1 C.2.1 G.1.1) (c_M_under p q G.1.1 G.1.2)
theorem p_value {H : Hp} {c L : Nat} {xs : Nat → Int32} (p x : Int32) (I : LI c L xs H) : PR mX_value mM_value 4 0 0 2 [vI p, vI x] c L xs H := by
  have I0 := I
  obtain ⟨σ, od, K, N, B, R, A, V, O, NS, P, T, n, h0, eH, C, G, hT, hS⟩ := I
  exact PR.ro I0 hS eH (c_X_value p x C.1 C.2.2.1 G.2.1.1.1) (c_M_value p x G.2.1.2.1 G.2.1.1.1)
theorem p_trace {H : Hp} {c L : Nat} {xs : Nat → Int32} (i w : Int32) (I : LI c L xs H) : PR mX_trace mM_trace 1 0 0 1 [vI i, vI w] c L xs H := by
  have I0 := I
  obtain ⟨σ, od, K, N, B, R, A, V, O, NS, P, T, n, h0, eH, C, G, hT, hS⟩ := I
  exact PR.ro I0 hS eH (c_X_trace i w C.1 C.2.2.2.2.2.2.2.2.2.2.1 C.2.2.2.2.2.2.2.2.2.1 G.2.2.2.2.2.2.2.2.2.2.2) (c_M_trace i w G.2.2.2.2.2.2.2.2.2.2.1 G.2.2.2.2.2.2.2.2.2.2.2)
theorem p_erred {H : Hp} {c L : Nat} {xs : Nat → Int32} (I : LI c L xs H) : PR mX_erred mM_erred 0 0 0 1 [] c L xs H := by
  have I0 := I
  obtain ⟨σ, od, K, N, B, R, A, V, O, NS, P, T, n, h0, eH, C, G, hT, hS⟩ := I
  exact PR.ro I0 hS eH (c_X_erred C.1 C.2.2.2.2.2.2.2.2.2.2.1) (c_M_erred)
theorem p_event {H : Hp} {c L : Nat} {xs : Nat → Int32} (i : Int32) (I : LI c L xs H) : PR mX_event mM_event 0 0 0 1 [vI i] c L xs H := by
  have I0 := I
  obtain ⟨σ, od, K, N, B, R, A, V, O, NS, P, T, n, h0, eH, C, G, hT, hS⟩ := I
  obtain ⟨E, hE, eE⟩ := G.2.2.2.2.2.2.2.2.1.2.2.2.2.2.2.2.2.2
  exact PR.ro I0 hS eH (c_X_event i C.1 C.2.2.2.2.2.2.2.1 eE hE) (c_M_event i eE hE)
theorem p_happens {H : Hp} {c L : Nat} {xs : Nat → Int32} (s w : Int32) (I : LI c L xs H) : PR mX_happens mM_happens 4 0 0 1 [vI s, vI w] c L xs H := by
  have I0 := I
  obtain ⟨σ, od, K, N, B, R, A, V, O, NS, P, T, n, h0, eH, C, G, hT, hS⟩ := I
  exact PR.ro I0 hS eH (c_X_happens s w C.1 C.2.2.2.2.2.2.2.1 G.2.2.2.2.2.2.2.2.1.1 G.2.2.2.2.2.2.2.2.1.2.2.1) (c_M_happens s w G.2.2.2.2.2.2.2.2.1.2.1 G.2.2.2.2.2.2.2.2.1.1)
theorem p_choose {H : Hp} {c L : Nat} {xs : Nat → Int32} (n1 f s : Int32) (I : LI c L xs H) : PR mX_choose mM_choose 4 0 0 2 [vI n1, vI f, vI s] c L xs H := by
  have I0 := I
  obtain ⟨σ, od, K, N, B, R, A, V, O, NS, P, T, n, h0, eH, C, G, hT, hS⟩ := I
  exact PR.ro I0 hS eH (c_X_choose n1 f s C.1 C.2.1 G.1.1 C.2.2.1 G.2.1.1 C.2.2.2.2.2.2.2.2.1 G.2.2.2.2.2.2.2.2.2.1.1 G.2.2.2.2.2.2.2.2.2.1.2.1) (c_M_choose n1 f s G.1.1 G.2.1.1 G.2.2.2.2.2.2.2.2.2.1.1 G.2.1.2.1 G.2.2.2.2.2.2.2.2.2.1.2.2)
theorem p_count {H : Hp} {c L : Nat} {xs : Nat → Int32} (w : Int32) (I : LI c L xs H) : PR mX_count mM_count 1 0 0 1 [vI w] c L xs H := by
  have I0 := I
  obtain ⟨σ, od, K, N, B, R, A, V, O, NS, P, T, n, h0, eH, C, G, hT, hS⟩ := I
  exact PR.ro I0 hS eH (c_X_count w C.1 C.2.1 G.1.2 C.2.2.1 G.2.1.2.1 C.2.2.2.1.1 G.2.2.1.2.1 C.2.2.2.1.2 G.2.2.2.1.2.1 C.2.2.2.2.2.2.2.1 G.2.2.2.2.2.2.2.2.1.2.1 C.2.2.2.2.2.2.2.2.1 G.2.2.2.2.2.2.2.2.2.1.2.2 C.2.2.2.2.2.2.2.2.2.2.1 C.2.2.2.2.2.2.2.2.2.1 G.2.2.2.2.2.2.2.2.2.2.1) (c_M_count w)
theorem p_subject {H : Hp} {c L : Nat} {xs : Nat → Int32} (p : Int32) (hc : c ≤ 600) (I : LI c L xs H) : PR mX_subject mM_subject 7 3 79 1 [vI p] c L xs H := by
  obtain ⟨σ, od, K, N, B, R, A, V, O, NS, P, T, n, h0, eH, C, G, hT, hS⟩ := I
  have hNN := G.2.1.1.1
  have hcs := fSubject_cs (σ := σ) (p := p) (N := N) G.1.1.2.1
  refine PR.mk (x := (fSubject σ p K N).1) (τ := (fSubject σ p K N).2) hS eH (Con.mono (c_X_subject p C.1 C.2.1 G.1.1.2.1 C.2.2.1 G.2.1.1.1 G.2.1.2.1 G.2.1.2.2) (fun v h' q0 => ?_)) (fun h => c_M_subject p G.1.2 G.1.1.2.1 G.2.1.2.1 G.2.1.1.1)
  obtain ⟨e1, F, N', a1, a2, a3, a4, a5⟩ := q0
  refine ⟨e1, F.hi, ?_⟩
  generalize fSubject σ p K N = f at *
  obtain ⟨x0, τ⟩ := f
  dsimp only at *
  have e : ∀ k i, (∀ z ∈ [2, 3], k ≠ z) → τ k i = σ k i := by
    intro k i hk
    rcases hcs with hc1 | ⟨-, hc1⟩
    · rw [hc1]
    · rw [hc1]
      simp only [List.mem_cons, List.not_mem_nil, or_false, forall_eq_or_imp, forall_eq] at hk
      unfold us
      repeat (rw [if_neg (fun z => by omega)])
  have hs : iS τ N' K := by
    refine ⟨⟨a2, fun s q1 => ?_⟩, a4, a5⟩
    rcases hcs with hc1 | ⟨⟨c1, k, hk, ek⟩, hc1⟩
    · rw [hc1] at a4 ⊢
      have hNN := G.2.1.1.1
      have := nI_inj (by omega) (by omega) (a4.symm.trans G.2.1.2.1)
      exact G.2.1.1.2 s (by omega)
    · rw [hc1] at a4 ⊢
      rw [us_s] at a4
      have := nI_inj (by omega) (by omega) a4
      rw [us_k (by decide)]
      by_cases c2 : s = N
      · subst c2; rw [us_s]; exact ⟨k, hk, ek⟩
      · rw [us_j c2]; exact G.2.1.1.2 s (by omega)
  have hNN := G.2.1.1.1
  exact ⟨od, K, N', B, R, A, V, O, NS, P, T, n, ⟨(by rw [e 33 0 (by decide), e 35 0 (by decide), e 37 0 (by decide), e 46 0 (by decide)]; exact C.1.fr (F.ag (by decide))), (C.2.1.fr (F.ag (by decide)) (fun j => e 1 j (by decide))), a3, (C.2.2.2.1.cg (F.ag (by decide)) G.2.2.2.1.1 G.2.2.2.2.1.1 (fun i => e 1 i (by decide)) (fun k i a b d => e k i (by simp <;> omega))), (C.2.2.2.2.1.fr (F.ag (by decide)) (fun j => e 34 j (by decide))), (C.2.2.2.2.2.1.fr (F.ag (by decide)) (fun j => e 36 j (by decide))), (C.2.2.2.2.2.2.1.fr (F.ag (by decide)) (fun j => e 38 j (by decide)) (fun j => e 39 j (by decide))), (C.2.2.2.2.2.2.2.1.fr (F.ag (by decide)) (fun k j a b d => e k j (by simp <;> omega))), (C.2.2.2.2.2.2.2.2.1.fr (F.ag (by decide)) (fun j => e 51 j (by decide))), (by rw [show τ 28 = σ 28 from funext fun j => e 28 j (by decide)]; exact C.2.2.2.2.2.2.2.2.2.1.fr (F.ag (by decide))), (by rw [e 30 0 (by decide), e 31 0 (by decide)]; exact C.2.2.2.2.2.2.2.2.2.2.1.fr (F.ag (by decide))), (oK C.2.2.2.2.2.2.2.2.2.2.2 F)⟩, ⟨(G.1.cg fun k i a => e k i (by simp <;> omega)), hs, (G.2.2.1.cg fun k i a b => e k i (by simp <;> omega)), (G.2.2.2.1.cg fun k i a b => e k i (by simp <;> omega)), (G.2.2.2.2.1.cg fun k i a => e k i (by simp <;> omega)), (G.2.2.2.2.2.1.cg fun k i a b => e k i (by simp <;> omega)), (G.2.2.2.2.2.2.1.cg fun k i a b => e k i (by simp <;> omega)), ((G.2.2.2.2.2.2.2.1.cg fun k i a b => e k i (by simp <;> omega)).mo (Nat.le_refl _) a1), ((G.2.2.2.2.2.2.2.2.1.cg fun k i a b => e k i (by simp <;> omega)).mo a1 (Nat.le_refl _)), (G.2.2.2.2.2.2.2.2.2.1.cg fun k i a b => e k i (by simp <;> omega)), (G.2.2.2.2.2.2.2.2.2.2.cg fun i => e 29 i (by decide))⟩, by omega⟩
theorem p_set {H : Hp} {c L : Nat} {xs : Nat → Int32} (p x w : Int32) (hc : c ≤ 600) (I : LI c L xs H) : PR mX_set mM_set 4 0 0 2 [vI p, vI x, vI w] c L xs H := by
  obtain ⟨σ, od, K, N, B, R, A, V, O, NS, P, T, n, h0, eH, C, G, hT, hS⟩ := I
  have hcs := fSet_cs (σ := σ) (p := p) (x := x) (v := w) G.2.1.1.1
  refine PR.mk (x := (fSet σ p x w N).1) (τ := (fSet σ p x w N).2) hS eH (Con.mono (c_X_set p x w C.1 C.2.2.1 G.2.1.1.1) (fun v h' q0 => ?_)) (fun h => c_M_set p x w G.2.1.2.1 G.2.1.1.1)
  obtain ⟨e1, F, a3⟩ := q0
  refine ⟨e1, F.hi, ?_⟩
  generalize fSet σ p x w N = f at *
  obtain ⟨x0, τ⟩ := f
  dsimp only at *
  have e : ∀ k i, (∀ z ∈ [4], k ≠ z) → τ k i = σ k i := by
    intro k i hk
    rcases hcs with hc1 | ⟨j, hj, hc1⟩
    · rw [hc1]
    · rw [hc1]
      simp only [List.mem_cons, List.not_mem_nil, or_false, forall_eq_or_imp, forall_eq] at hk
      unfold us
      repeat (rw [if_neg (fun z => by omega)])
  have hs : iS τ N K := by
    refine ⟨⟨G.2.1.1.1, fun s q1 => by rw [e 3 s (by decide)]; exact G.2.1.1.2 s q1⟩, by rw [e 2 0 (by decide)]; exact G.2.1.2.1, fun i q1 => ?_⟩
    rcases hcs with hc1 | ⟨j, hj, hc1⟩
    · rw [hc1]; exact G.2.1.2.2 i q1
    · rw [hc1, us_j (by omega)]; exact G.2.1.2.2 i q1
  exact ⟨od, K, N, B, R, A, V, O, NS, P, T, n, ⟨(by rw [e 33 0 (by decide), e 35 0 (by decide), e 37 0 (by decide), e 46 0 (by decide)]; exact C.1.fr (F.ag (by decide))), (C.2.1.fr (F.ag (by decide)) (fun j => e 1 j (by decide))), a3, (C.2.2.2.1.cg (F.ag (by decide)) G.2.2.2.1.1 G.2.2.2.2.1.1 (fun i => e 1 i (by decide)) (fun k i a b d => e k i (by simp <;> omega))), (C.2.2.2.2.1.fr (F.ag (by decide)) (fun j => e 34 j (by decide))), (C.2.2.2.2.2.1.fr (F.ag (by decide)) (fun j => e 36 j (by decide))), (C.2.2.2.2.2.2.1.fr (F.ag (by decide)) (fun j => e 38 j (by decide)) (fun j => e 39 j (by decide))), (C.2.2.2.2.2.2.2.1.fr (F.ag (by decide)) (fun k j a b d => e k j (by simp <;> omega))), (C.2.2.2.2.2.2.2.2.1.fr (F.ag (by decide)) (fun j => e 51 j (by decide))), (by rw [show τ 28 = σ 28 from funext fun j => e 28 j (by decide)]; exact C.2.2.2.2.2.2.2.2.2.1.fr (F.ag (by decide))), (by rw [e 30 0 (by decide), e 31 0 (by decide)]; exact C.2.2.2.2.2.2.2.2.2.2.1.fr (F.ag (by decide))), (oK C.2.2.2.2.2.2.2.2.2.2.2 F)⟩, ⟨(G.1.cg fun k i a => e k i (by simp <;> omega)), hs, (G.2.2.1.cg fun k i a b => e k i (by simp <;> omega)), (G.2.2.2.1.cg fun k i a b => e k i (by simp <;> omega)), (G.2.2.2.2.1.cg fun k i a => e k i (by simp <;> omega)), (G.2.2.2.2.2.1.cg fun k i a b => e k i (by simp <;> omega)), (G.2.2.2.2.2.2.1.cg fun k i a b => e k i (by simp <;> omega)), (G.2.2.2.2.2.2.2.1.cg fun k i a b => e k i (by simp <;> omega)), (G.2.2.2.2.2.2.2.2.1.cg fun k i a b => e k i (by simp <;> omega)), (G.2.2.2.2.2.2.2.2.2.1.cg fun k i a b => e k i (by simp <;> omega)), (G.2.2.2.2.2.2.2.2.2.2.cg fun i => e 29 i (by decide))⟩, by omega⟩
theorem p_variable {H : Hp} {c L : Nat} {xs : Nat → Int32} (p x w : Int32) (hc : c ≤ 600) (I : LI c L xs H) : PR mX_variable mM_variable 4 0 0 2 [vI p, vI x, vI w] c L xs H := by
  obtain ⟨σ, od, K, N, B, R, A, V, O, NS, P, T, n, h0, eH, C, G, hT, hS⟩ := I
  have hcs := fVariable_cs (σ := σ) (p := p) (x := x) (v := w) G.2.2.1.1
  refine PR.mk (x := (fVariable σ p x w B).1) (τ := (fVariable σ p x w B).2) hS eH (Con.mono (c_X_variable p x w C.1 C.2.2.2.1.1 G.2.2.1.1) (fun v h' q0 => ?_)) (fun h => c_M_variable p x w G.2.2.1.2.1 G.2.2.1.1)
  obtain ⟨e1, F, a3⟩ := q0
  refine ⟨e1, F.hi, ?_⟩
  generalize fVariable σ p x w B = f at *
  obtain ⟨x0, τ⟩ := f
  dsimp only at *
  have e : ∀ k i, (∀ z ∈ [7], k ≠ z) → τ k i = σ k i := by
    intro k i hk
    rcases hcs with hc1 | ⟨j, hj, hc1⟩
    · rw [hc1]
    · rw [hc1]
      simp only [List.mem_cons, List.not_mem_nil, or_false, forall_eq_or_imp, forall_eq] at hk
      unfold us
      repeat (rw [if_neg (fun z => by omega)])
  have hs : iB τ B := by
    refine ⟨G.2.2.1.1, by rw [e 5 0 (by decide)]; exact G.2.2.1.2.1, fun b q1 => by rw [e 6 b (by decide)]; exact G.2.2.1.2.2.1 b q1, fun i q1 => ?_⟩
    rcases hcs with hc1 | ⟨j, hj, hc1⟩
    · rw [hc1]; exact G.2.2.1.2.2.2 i q1
    · rw [hc1, us_j (by omega)]; exact G.2.2.1.2.2.2 i q1
  have hb : brC h' τ B R od := by
    refine ⟨?_, C.2.2.2.1.2.fr (fun r q1 => G.2.2.2.1.1.m4 q1) (F.ag (by decide)) (fun r _ => ⟨e 9 r (by decide), e 10 r (by decide), e 11 r (by decide), e 13 r (by decide), e 15 r (by decide), e 16 r (by decide), fun i _ => e 14 _ (by decide), fun i _ => e 12 _ (by decide)⟩) (fun r _ => dps_cg (fun i => e 1 i (by decide)) (fun i => e 12 i (by decide)) r _)⟩
    have g1 : (fun b => ownL τ b R) = fun b => ownL σ b R := funext fun b => ownL_cg (fun r _ => e 9 r (by decide))
    have g2 : (fun b => rowS τ b R (od b)) = fun b => rowS σ b R (od b) := funext fun b => rowS_cg (fun r _ => e 9 r (by decide)) (fun r _ _ => ky_cgs (fun i => e 1 i (by decide)) (fun k i a b => e k i (by simp <;> omega)) r) (fun r _ => ⟨e 15 r (by decide), e 16 r (by decide)⟩)
    rw [g1, g2]
    exact a3
  exact ⟨od, K, N, B, R, A, V, O, NS, P, T, n, ⟨(by rw [e 33 0 (by decide), e 35 0 (by decide), e 37 0 (by decide), e 46 0 (by decide)]; exact C.1.fr (F.ag (by decide))), (C.2.1.fr (F.ag (by decide)) (fun j => e 1 j (by decide))), (by rw [show τ 4 = σ 4 from funext fun j => e 4 j (by decide)]; exact C.2.2.1.fr (F.ag (by decide)) (fun j => e 3 j (by decide))), hb, (C.2.2.2.2.1.fr (F.ag (by decide)) (fun j => e 34 j (by decide))), (C.2.2.2.2.2.1.fr (F.ag (by decide)) (fun j => e 36 j (by decide))), (C.2.2.2.2.2.2.1.fr (F.ag (by decide)) (fun j => e 38 j (by decide)) (fun j => e 39 j (by decide))), (C.2.2.2.2.2.2.2.1.fr (F.ag (by decide)) (fun k j a b d => e k j (by simp <;> omega))), (C.2.2.2.2.2.2.2.2.1.fr (F.ag (by decide)) (fun j => e 51 j (by decide))), (by rw [show τ 28 = σ 28 from funext fun j => e 28 j (by decide)]; exact C.2.2.2.2.2.2.2.2.2.1.fr (F.ag (by decide))), (by rw [e 30 0 (by decide), e 31 0 (by decide)]; exact C.2.2.2.2.2.2.2.2.2.2.1.fr (F.ag (by decide))), (oK C.2.2.2.2.2.2.2.2.2.2.2 F)⟩, ⟨(G.1.cg fun k i a => e k i (by simp <;> omega)), (G.2.1.cg fun k i a b => e k i (by simp <;> omega)), hs, (G.2.2.2.1.cg fun k i a b => e k i (by simp <;> omega)), (G.2.2.2.2.1.cg fun k i a => e k i (by simp <;> omega)), (G.2.2.2.2.2.1.cg fun k i a b => e k i (by simp <;> omega)), (G.2.2.2.2.2.2.1.cg fun k i a b => e k i (by simp <;> omega)), (G.2.2.2.2.2.2.2.1.cg fun k i a b => e k i (by simp <;> omega)), (G.2.2.2.2.2.2.2.2.1.cg fun k i a b => e k i (by simp <;> omega)), (G.2.2.2.2.2.2.2.2.2.1.cg fun k i a b => e k i (by simp <;> omega)), (G.2.2.2.2.2.2.2.2.2.2.cg fun i => e 29 i (by decide))⟩, by omega⟩
theorem p_everyTurn {H : Hp} {c L : Nat} {xs : Nat → Int32} (p : Int32) (hc : c ≤ 600) (I : LI c L xs H) : PR mX_everyTurn mM_everyTurn 5 0 0 3 [vI p] c L xs H := by
  obtain ⟨σ, od, K, N, B, R, A, V, O, NS, P, T, n, h0, eH, C, G, hT, hS⟩ := I
  have hcs := fEvery_cs (σ := σ) (p := p) G.2.2.1.1
  refine PR.mk (x := (fEvery σ p B).1) (τ := (fEvery σ p B).2) hS eH (Con.mono (c_X_everyTurn p C.1 C.2.2.2.1.1 G.2.2.1.1 rfl) (fun v h' q0 => ?_)) (fun h => c_M_everyTurn p G.2.2.1.2.1 (by have := G.2.2.1.1; omega))
  obtain ⟨e1, F, a3⟩ := q0
  refine ⟨e1, F.hi, ?_⟩
  generalize fEvery σ p B = f at *
  obtain ⟨x0, τ⟩ := f
  dsimp only at *
  have e : ∀ k i, (∀ z ∈ [46], k ≠ z) → τ k i = σ k i := by
    intro k i hk
    rcases hcs with hc1 | ⟨-, hc1⟩
    · rw [hc1]
    · rw [hc1]
      simp only [List.mem_cons, List.not_mem_nil, or_false, forall_eq_or_imp, forall_eq] at hk
      unfold us
      repeat (rw [if_neg (fun z => by omega)])
  have hs : iN τ NS N B := by
    obtain ⟨b1, b2, b3, b4, b5, b6, b7, b8, b9, E, b10, b11⟩ := G.2.2.2.2.2.2.2.2.1
    refine ⟨b1, by rw [e 40 0 (by decide)]; exact b2, fun s q1 => by rw [e 42 s (by decide)]; exact b3 s q1, b4.cg fun k i a b => e k i (by simp <;> omega), fun a q1 => by rw [e 44 a (by decide), e 45 a (by decide)]; exact b5 a q1, b6.cg fun k i a b => e k i (by simp <;> omega), fun s q1 => by rw [e 42 s (by decide), e 43 s (by decide)]; exact b7 s q1, fun i q1 => by rw [e 44 i (by decide), e 45 i (by decide)]; exact b8 i q1, ?_, E, b10, by rw [e 49 0 (by decide)]; exact b11⟩
    rcases hcs with hc1 | ⟨hz, hc1⟩
    · rw [hc1]; exact b9
    · rw [hc1, us_s]; exact hz
  exact ⟨od, K, N, B, R, A, V, O, NS, P, T, n, ⟨(by rw [e 33 0 (by decide), e 35 0 (by decide), e 37 0 (by decide)]; exact a3), (C.2.1.fr (F.ag (by decide)) (fun j => e 1 j (by decide))), (by rw [show τ 4 = σ 4 from funext fun j => e 4 j (by decide)]; exact C.2.2.1.fr (F.ag (by decide)) (fun j => e 3 j (by decide))), (C.2.2.2.1.cg (F.ag (by decide)) G.2.2.2.1.1 G.2.2.2.2.1.1 (fun i => e 1 i (by decide)) (fun k i a b d => e k i (by simp <;> omega))), (C.2.2.2.2.1.fr (F.ag (by decide)) (fun j => e 34 j (by decide))), (C.2.2.2.2.2.1.fr (F.ag (by decide)) (fun j => e 36 j (by decide))), (C.2.2.2.2.2.2.1.fr (F.ag (by decide)) (fun j => e 38 j (by decide)) (fun j => e 39 j (by decide))), (C.2.2.2.2.2.2.2.1.fr (F.ag (by decide)) (fun k j a b d => e k j (by simp <;> omega))), (C.2.2.2.2.2.2.2.2.1.fr (F.ag (by decide)) (fun j => e 51 j (by decide))), (by rw [show τ 28 = σ 28 from funext fun j => e 28 j (by decide)]; exact C.2.2.2.2.2.2.2.2.2.1.fr (F.ag (by decide))), (by rw [e 30 0 (by decide), e 31 0 (by decide)]; exact C.2.2.2.2.2.2.2.2.2.2.1.fr (F.ag (by decide))), (oK C.2.2.2.2.2.2.2.2.2.2.2 F)⟩, ⟨(G.1.cg fun k i a => e k i (by simp <;> omega)), (G.2.1.cg fun k i a b => e k i (by simp <;> omega)), (G.2.2.1.cg fun k i a b => e k i (by simp <;> omega)), (G.2.2.2.1.cg fun k i a b => e k i (by simp <;> omega)), (G.2.2.2.2.1.cg fun k i a => e k i (by simp <;> omega)), (G.2.2.2.2.2.1.cg fun k i a b => e k i (by simp <;> omega)), (G.2.2.2.2.2.2.1.cg fun k i a b => e k i (by simp <;> omega)), (G.2.2.2.2.2.2.2.1.cg fun k i a b => e k i (by simp <;> omega)), hs, (G.2.2.2.2.2.2.2.2.2.1.cg fun k i a b => e k i (by simp <;> omega)), (G.2.2.2.2.2.2.2.2.2.2.cg fun i => e 29 i (by decide))⟩, by omega⟩
theorem p_abandon {H : Hp} {c L : Nat} {xs : Nat → Int32} (hc : c ≤ 600) (I : LI c L xs H) : PR mX_abandon mM_abandon 0 0 0 1 [] c L xs H := by
  obtain ⟨σ, od, K, N, B, R, A, V, O, NS, P, T, n, h0, eH, C, G, hT, hS⟩ := I
  have hcs := fAbandon_cs (σ := σ) (O := O)
  refine PR.mk (x := (fAbandon σ O).1) (τ := (fAbandon σ O).2) hS eH (Con.mono (c_X_abandon (O := O) (by have e37 := G.2.2.2.2.2.2.2.1.2.1; rw [← e37]; exact C.1) C.2.2.2.2.2.2.1 G.2.2.2.2.2.2.2.1.1 G.2.2.2.2.2.2.2.1.2.1) (fun v h' q0 => ?_)) (fun h => c_M_abandon G.2.2.2.2.2.2.2.1.2.1 G.2.2.2.2.2.2.2.1.1)
  obtain ⟨e1, F, O', a1, a2, a3⟩ := q0
  refine ⟨e1, F.hi, ?_⟩
  generalize fAbandon σ O = f at *
  obtain ⟨x0, τ⟩ := f
  dsimp only at *
  have e : ∀ k i, (∀ z ∈ [37], k ≠ z) → τ k i = σ k i := by
    intro k i hk
    rcases hcs with hc1 | ⟨-, hc1⟩
    · rw [hc1]
    · rw [hc1]
      simp only [List.mem_cons, List.not_mem_nil, or_false, forall_eq_or_imp, forall_eq] at hk
      unfold us
      repeat (rw [if_neg (fun z => by omega)])
  have hs : OV τ O' V N := by
    have := G.2.2.2.2.2.2.2.1.1
    exact ⟨by omega, a3, fun i q1 => by rw [e 38 i (by decide), e 39 i (by decide)]; exact G.2.2.2.2.2.2.2.1.2.2 i (by omega)⟩
  have hp : pC h' τ O' := by
    obtain ⟨f1, g1, p1, p2, p3⟩ := C.2.2.2.2.2.2.1.fr (F.ag (by decide)) (fun j => e 38 j (by decide)) (fun j => e 39 j (by decide))
    exact ⟨f1, g1, p1, p2, fun i q1 => p3 i (by omega)⟩
  exact ⟨od, K, N, B, R, A, V, O', NS, P, T, n, ⟨(by rw [e 33 0 (by decide), e 35 0 (by decide), e 46 0 (by decide), a3]; exact a2), (C.2.1.fr (F.ag (by decide)) (fun j => e 1 j (by decide))), (by rw [show τ 4 = σ 4 from funext fun j => e 4 j (by decide)]; exact C.2.2.1.fr (F.ag (by decide)) (fun j => e 3 j (by decide))), (C.2.2.2.1.cg (F.ag (by decide)) G.2.2.2.1.1 G.2.2.2.2.1.1 (fun i => e 1 i (by decide)) (fun k i a b d => e k i (by simp <;> omega))), (C.2.2.2.2.1.fr (F.ag (by decide)) (fun j => e 34 j (by decide))), (C.2.2.2.2.2.1.fr (F.ag (by decide)) (fun j => e 36 j (by decide))), hp, (C.2.2.2.2.2.2.2.1.fr (F.ag (by decide)) (fun k j a b d => e k j (by simp <;> omega))), (C.2.2.2.2.2.2.2.2.1.fr (F.ag (by decide)) (fun j => e 51 j (by decide))), (by rw [show τ 28 = σ 28 from funext fun j => e 28 j (by decide)]; exact C.2.2.2.2.2.2.2.2.2.1.fr (F.ag (by decide))), (by rw [e 30 0 (by decide), e 31 0 (by decide)]; exact C.2.2.2.2.2.2.2.2.2.2.1.fr (F.ag (by decide))), (oK C.2.2.2.2.2.2.2.2.2.2.2 F)⟩, ⟨(G.1.cg fun k i a => e k i (by simp <;> omega)), (G.2.1.cg fun k i a b => e k i (by simp <;> omega)), (G.2.2.1.cg fun k i a b => e k i (by simp <;> omega)), (G.2.2.2.1.cg fun k i a b => e k i (by simp <;> omega)), (G.2.2.2.2.1.cg fun k i a => e k i (by simp <;> omega)), (G.2.2.2.2.2.1.cg fun k i a b => e k i (by simp <;> omega)), (G.2.2.2.2.2.2.1.cg fun k i a b => e k i (by simp <;> omega)), hs, (G.2.2.2.2.2.2.2.2.1.cg fun k i a b => e k i (by simp <;> omega)), (G.2.2.2.2.2.2.2.2.2.1.cg fun k i a b => e k i (by simp <;> omega)), (G.2.2.2.2.2.2.2.2.2.2.cg fun i => e 29 i (by decide))⟩, by omega⟩
theorem p_action {H : Hp} {c L : Nat} {xs : Nat → Int32} (a b c0 d e0 f : Int32) (hc : c ≤ 600) (I : LI c L xs H) : PR mX_action mM_action 6 1 6 3 [vI a, vI b, vI c0, vI d, vI e0, vI f] c L xs H := by
  obtain ⟨σ, od, K, N, B, R, A, V, O, NS, P, T, n, h0, eH, C, G, hT, hS⟩ := I
  have hcs := fAction_cs (σ := σ) (a := a) (b := b) (c := c0) (d := d) (e := e0) (f := f) (N := A) G.2.2.1.1
  refine PR.mk (x := (fAction σ a b c0 d e0 f B A).1) (τ := (fAction σ a b c0 d e0 f B A).2) hS eH (Con.mono (c_X_action a b c0 d e0 f (A := A) (by have e33 := G.2.2.2.2.2.1.2; rw [← e33]; exact C.1) C.2.2.2.1.1 G.2.2.1.1 C.2.2.2.2.1 G.2.2.2.2.2.1.1.1 G.2.2.2.2.2.1.2) (fun v h' q0 => ?_)) (fun h => c_M_action a b c0 d e0 f G.2.2.1.2.1 (by have := G.2.2.1.1; omega) G.2.2.2.2.2.1.2 G.2.2.2.2.2.1.1.1)
  obtain ⟨e1, F, A', a1, a2, a3, a4⟩ := q0
  refine ⟨e1, F.hi, ?_⟩
  generalize fAction σ a b c0 d e0 f B A = f at *
  obtain ⟨x0, τ⟩ := f
  dsimp only at *
  have e : ∀ k i, (∀ z ∈ [33, 34], k ≠ z) → τ k i = σ k i := by
    intro k i hk
    rcases hcs with hc1 | ⟨-, hc1⟩
    · rw [hc1]
    · rw [hc1]
      simp only [List.mem_cons, List.not_mem_nil, or_false, forall_eq_or_imp, forall_eq] at hk
      unfold us
      repeat (rw [if_neg (fun z => by omega)])
  have hA := G.2.2.2.2.2.1.1.1
  have hs : iA τ A' B := by
    refine ⟨⟨a1, fun a0 k q1 q2 => ?_⟩, a4⟩
    rcases hcs with hc1 | ⟨⟨c1, hz⟩, hc1⟩
    · rw [hc1] at a4 ⊢
      have := nI_inj (by omega) (by omega) (a4.symm.trans G.2.2.2.2.2.1.2)
      exact G.2.2.2.2.2.1.1.2 a0 k (by omega) q2
    · rw [hc1] at a4 ⊢
      rw [us_s] at a4
      have := nI_inj (by omega) (by omega) a4
      rw [us_k (by decide)]
      by_cases c2 : a0 = A
      · subst c2
        have h3 := hz k q2
        rcases (show k = 0 ∨ k = 1 ∨ k = 2 ∨ k = 3 ∨ k = 4 ∨ k = 5 by omega) with rfl | rfl | rfl | rfl | rfl | rfl
        · rw [us_j (by omega), us_j (by omega), us_j (by omega), us_j (by omega), us_j (by omega), show 6 * a0 + 0 = 6 * a0 by omega, us_s]; exact h3
        · rw [us_j (by omega), us_j (by omega), us_j (by omega), us_j (by omega), us_s]; exact h3
        · rw [us_j (by omega), us_j (by omega), us_j (by omega), us_s]; exact h3
        · rw [us_j (by omega), us_j (by omega), us_s]; exact h3
        · rw [us_j (by omega), us_s]; exact h3
        · rw [us_s]; exact h3
      · rw [us_j (by omega), us_j (by omega), us_j (by omega), us_j (by omega), us_j (by omega), us_j (by omega)]
        exact G.2.2.2.2.2.1.1.2 a0 k (by omega) q2
  exact ⟨od, K, N, B, R, A', V, O, NS, P, T, n, ⟨(by rw [e 35 0 (by decide), e 37 0 (by decide), e 46 0 (by decide), a4]; exact a3), (C.2.1.fr (F.ag (by decide)) (fun j => e 1 j (by decide))), (by rw [show τ 4 = σ 4 from funext fun j => e 4 j (by decide)]; exact C.2.2.1.fr (F.ag (by decide)) (fun j => e 3 j (by decide))), (C.2.2.2.1.cg (F.ag (by decide)) G.2.2.2.1.1 G.2.2.2.2.1.1 (fun i => e 1 i (by decide)) (fun k i a b d => e k i (by simp <;> omega))), a2, (C.2.2.2.2.2.1.fr (F.ag (by decide)) (fun j => e 36 j (by decide))), (C.2.2.2.2.2.2.1.fr (F.ag (by decide)) (fun j => e 38 j (by decide)) (fun j => e 39 j (by decide))), (C.2.2.2.2.2.2.2.1.fr (F.ag (by decide)) (fun k j a b d => e k j (by simp <;> omega))), (C.2.2.2.2.2.2.2.2.1.fr (F.ag (by decide)) (fun j => e 51 j (by decide))), (by rw [show τ 28 = σ 28 from funext fun j => e 28 j (by decide)]; exact C.2.2.2.2.2.2.2.2.2.1.fr (F.ag (by decide))), (by rw [e 30 0 (by decide), e 31 0 (by decide)]; exact C.2.2.2.2.2.2.2.2.2.2.1.fr (F.ag (by decide))), (oK C.2.2.2.2.2.2.2.2.2.2.2 F)⟩, ⟨(G.1.cg fun k i a => e k i (by simp <;> omega)), (G.2.1.cg fun k i a b => e k i (by simp <;> omega)), (G.2.2.1.cg fun k i a b => e k i (by simp <;> omega)), (G.2.2.2.1.cg fun k i a b => e k i (by simp <;> omega)), (G.2.2.2.2.1.cg fun k i a => e k i (by simp <;> omega)), hs, (G.2.2.2.2.2.2.1.cg fun k i a b => e k i (by simp <;> omega)), (G.2.2.2.2.2.2.2.1.cg fun k i a b => e k i (by simp <;> omega)), (G.2.2.2.2.2.2.2.2.1.cg fun k i a b => e k i (by simp <;> omega)), (G.2.2.2.2.2.2.2.2.2.1.cg fun k i a b => e k i (by simp <;> omega)), (G.2.2.2.2.2.2.2.2.2.2.cg fun i => e 29 i (by decide))⟩, by omega⟩
theorem p_activity {H : Hp} {c L : Nat} {xs : Nat → Int32} (a b c0 : Int32) (hc : c ≤ 600) (I : LI c L xs H) : PR mX_activity mM_activity 6 1 3 3 [vI a, vI b, vI c0] c L xs H := by
  obtain ⟨σ, od, K, N, B, R, A, V, O, NS, P, T, n, h0, eH, C, G, hT, hS⟩ := I
  have hcs := fActivity_cs (σ := σ) (a := a) (b := b) (c := c0) (N := V) G.2.2.1.1
  refine PR.mk (x := (fActivity σ a b c0 B V).1) (τ := (fActivity σ a b c0 B V).2) hS eH (Con.mono (c_X_activity a b c0 (A := V) (by have e35 := G.2.2.2.2.2.2.1.2; rw [← e35]; exact C.1) C.2.2.2.1.1 G.2.2.1.1 C.2.2.2.2.2.1 G.2.2.2.2.2.2.1.1.1 G.2.2.2.2.2.2.1.2) (fun v h' q0 => ?_)) (fun h => c_M_activity a b c0 G.2.2.1.2.1 (by have := G.2.2.1.1; omega) G.2.2.2.2.2.2.1.2 G.2.2.2.2.2.2.1.1.1)
  obtain ⟨e1, F, A', a1, a2, a3, a4⟩ := q0
  refine ⟨e1, F.hi, ?_⟩
  generalize fActivity σ a b c0 B V = f at *
  obtain ⟨x0, τ⟩ := f
  dsimp only at *
  have e : ∀ k i, (∀ z ∈ [35, 36], k ≠ z) → τ k i = σ k i := by
    intro k i hk
    rcases hcs with hc1 | ⟨-, hc1⟩
    · rw [hc1]
    · rw [hc1]
      simp only [List.mem_cons, List.not_mem_nil, or_false, forall_eq_or_imp, forall_eq] at hk
      unfold us
      repeat (rw [if_neg (fun z => by omega)])
  have hA := G.2.2.2.2.2.2.1.1.1
  have hVA : V ≤ A' ∧ iV τ A' B := by
    rcases hcs with hc1 | ⟨⟨c1, hz⟩, hc1⟩
    · rw [hc1] at a4 ⊢
      have := nI_inj (by omega) (by omega) (a4.symm.trans G.2.2.2.2.2.2.1.2)
      exact ⟨by omega, ⟨⟨a1, fun a0 k q1 q2 => G.2.2.2.2.2.2.1.1.2 a0 k (by omega) q2⟩, a4⟩⟩
    · rw [hc1] at a4 ⊢
      have a4' := a4
      rw [us_s] at a4'
      have := nI_inj (by omega) (by omega) a4'
      refine ⟨by omega, ⟨⟨a1, fun a0 k q1 q2 => ?_⟩, a4⟩⟩
      rw [us_k (by decide)]
      by_cases c2 : a0 = V
      · subst c2
        have h3 := hz k q2
        rcases (show k = 0 ∨ k = 1 ∨ k = 2 by omega) with rfl | rfl | rfl
        · rw [us_j (by omega), us_j (by omega), show 3 * a0 + 0 = 3 * a0 by omega, us_s]; exact h3
        · rw [us_j (by omega), us_s]; exact h3
        · rw [us_s]; exact h3
      · rw [us_j (by omega), us_j (by omega), us_j (by omega)]
        exact G.2.2.2.2.2.2.1.1.2 a0 k (by omega) q2
  exact ⟨od, K, N, B, R, A, A', O, NS, P, T, n, ⟨(by rw [e 33 0 (by decide), e 37 0 (by decide), e 46 0 (by decide), a4]; exact a3), (C.2.1.fr (F.ag (by decide)) (fun j => e 1 j (by decide))), (by rw [show τ 4 = σ 4 from funext fun j => e 4 j (by decide)]; exact C.2.2.1.fr (F.ag (by decide)) (fun j => e 3 j (by decide))), (C.2.2.2.1.cg (F.ag (by decide)) G.2.2.2.1.1 G.2.2.2.2.1.1 (fun i => e 1 i (by decide)) (fun k i a b d => e k i (by simp <;> omega))), (C.2.2.2.2.1.fr (F.ag (by decide)) (fun j => e 34 j (by decide))), a2, (C.2.2.2.2.2.2.1.fr (F.ag (by decide)) (fun j => e 38 j (by decide)) (fun j => e 39 j (by decide))), (C.2.2.2.2.2.2.2.1.fr (F.ag (by decide)) (fun k j a b d => e k j (by simp <;> omega))), (C.2.2.2.2.2.2.2.2.1.fr (F.ag (by decide)) (fun j => e 51 j (by decide))), (by rw [show τ 28 = σ 28 from funext fun j => e 28 j (by decide)]; exact C.2.2.2.2.2.2.2.2.2.1.fr (F.ag (by decide))), (by rw [e 30 0 (by decide), e 31 0 (by decide)]; exact C.2.2.2.2.2.2.2.2.2.2.1.fr (F.ag (by decide))), (oK C.2.2.2.2.2.2.2.2.2.2.2 F)⟩, ⟨(G.1.cg fun k i a => e k i (by simp <;> omega)), (G.2.1.cg fun k i a b => e k i (by simp <;> omega)), (G.2.2.1.cg fun k i a b => e k i (by simp <;> omega)), (G.2.2.2.1.cg fun k i a b => e k i (by simp <;> omega)), (G.2.2.2.2.1.cg fun k i a => e k i (by simp <;> omega)), (G.2.2.2.2.2.1.cg fun k i a b => e k i (by simp <;> omega)), hVA.2, ((G.2.2.2.2.2.2.2.1.cg fun k i a b => e k i (by simp <;> omega)).mo hVA.1 (Nat.le_refl _)), (G.2.2.2.2.2.2.2.2.1.cg fun k i a b => e k i (by simp <;> omega)), (G.2.2.2.2.2.2.2.2.2.1.cg fun k i a b => e k i (by simp <;> omega)), (G.2.2.2.2.2.2.2.2.2.2.cg fun i => e 29 i (by decide))⟩, by omega⟩
theorem p_phrase {H : Hp} {c L : Nat} {xs : Nat → Int32} (n1 a b : Int32) (hc : c ≤ 600) (I : LI c L xs H) : PR mX_phrase mM_phrase 2 0 0 1 [vI n1, vI a, vI b] c L xs H := by
  obtain ⟨σ, od, K, N, B, R, A, V, O, NS, P, T, n, h0, eH, C, G, hT, hS⟩ := I
  have hcs := fPhrase_cs (σ := σ) (a := n1) (b := a) (c := b) (N := P) G.1.1.2.1
  refine PR.mk (x := (fPhrase σ n1 a b K P).1) (τ := (fPhrase σ n1 a b K P).2) hS eH (Con.mono (c_X_phrase n1 a b C.1 C.2.1 G.1.1.2.1 C.2.2.2.2.2.2.2.2.1 G.2.2.2.2.2.2.2.2.2.1.1.1 G.2.2.2.2.2.2.2.2.2.1.2.2) (fun v h' q0 => ?_)) (fun h => c_M_phrase n1 a b G.1.2 G.1.1.1 G.1.1.2.1 G.2.2.2.2.2.2.2.2.2.1.2.2 G.2.2.2.2.2.2.2.2.2.1.1.1)
  obtain ⟨e1, F, P', a1, a2, a3⟩ := q0
  refine ⟨e1, F.hi, ?_⟩
  generalize fPhrase σ n1 a b K P = f at *
  obtain ⟨x0, τ⟩ := f
  dsimp only at *
  have e : ∀ k i, (∀ z ∈ [50, 51], k ≠ z) → τ k i = σ k i := by
    intro k i hk
    rcases hcs with hc1 | ⟨-, hc1⟩
    · rw [hc1]
    · rw [hc1]
      simp only [List.mem_cons, List.not_mem_nil, or_false, forall_eq_or_imp, forall_eq] at hk
      unfold us
      repeat (rw [if_neg (fun z => by omega)])
  have hP := G.2.2.2.2.2.2.2.2.2.1.1.1
  have hs : iF τ P' K := by
    rcases hcs with hc1 | ⟨⟨c1, hto, ⟨x1, hx, ex⟩, y1, hy, ey⟩, hc1⟩
    · rw [hc1] at a3 ⊢
      have := nI_inj (by omega) (by omega) (a3.symm.trans G.2.2.2.2.2.2.2.2.2.1.2.2)
      subst this
      exact G.2.2.2.2.2.2.2.2.2.1
    · rw [hc1] at a3 ⊢
      have a3' := a3
      rw [us_s] at a3'
      have := nI_inj (by omega) (by omega) a3'
      subst this
      have t0 : us (us (us (us σ 51 (3 * P) n1) 51 (3 * P + 1) a) 51 (3 * P + 2) b) 50 0 (nI (P + 1)) 51 (3 * P) = n1 := by rw [us_k (by decide), us_j (by omega), us_j (by omega), us_s]
      have t1 : us (us (us (us σ 51 (3 * P) n1) 51 (3 * P + 1) a) 51 (3 * P + 2) b) 50 0 (nI (P + 1)) 51 (3 * P + 1) = a := by rw [us_k (by decide), us_j (by omega), us_s]
      have t2 : us (us (us (us σ 51 (3 * P) n1) 51 (3 * P + 1) a) 51 (3 * P + 2) b) 50 0 (nI (P + 1)) 51 (3 * P + 2) = b := by rw [us_k (by decide), us_s]
      have to : ∀ i, i < 3 * P → us (us (us (us σ 51 (3 * P) n1) 51 (3 * P + 1) a) 51 (3 * P + 2) b) 50 0 (nI (P + 1)) 51 i = σ 51 i := fun i q1 => by rw [us_k (by decide), us_j (by omega), us_j (by omega), us_j (by omega)]
      generalize us (us (us (us σ 51 (3 * P) n1) 51 (3 * P + 1) a) 51 (3 * P + 2) b) 50 0 (nI (P + 1)) = ω at *
      refine ⟨⟨a1, fun p q1 => ?_⟩, fun p q q1 q2 => ?_, a3⟩
      · by_cases c2 : p = P
        · subst c2
          rw [t1, t2]
          exact ⟨⟨x1, hx, ex⟩, y1, hy, ey⟩
        · rw [to _ (by omega), to _ (by omega)]
          exact G.2.2.2.2.2.2.2.2.2.1.1.2 p (by omega)
      · rw [to (3 * p) (by omega), to (3 * p + 1) (by omega), to (3 * p + 2) (by omega)]
        by_cases c2 : q = P
        · subst c2
          rw [t0, t1, t2]
          exact isTo_f hto (by omega)
        · rw [to _ (by omega), to _ (by omega), to _ (by omega)]
          exact G.2.2.2.2.2.2.2.2.2.1.2.1 p q q1 (by omega)
  exact ⟨od, K, N, B, R, A, V, O, NS, P', T, n, ⟨(by rw [e 33 0 (by decide), e 35 0 (by decide), e 37 0 (by decide), e 46 0 (by decide)]; exact C.1.fr (F.ag (by decide))), (C.2.1.fr (F.ag (by decide)) (fun j => e 1 j (by decide))), (by rw [show τ 4 = σ 4 from funext fun j => e 4 j (by decide)]; exact C.2.2.1.fr (F.ag (by decide)) (fun j => e 3 j (by decide))), (C.2.2.2.1.cg (F.ag (by decide)) G.2.2.2.1.1 G.2.2.2.2.1.1 (fun i => e 1 i (by decide)) (fun k i a b d => e k i (by simp <;> omega))), (C.2.2.2.2.1.fr (F.ag (by decide)) (fun j => e 34 j (by decide))), (C.2.2.2.2.2.1.fr (F.ag (by decide)) (fun j => e 36 j (by decide))), (C.2.2.2.2.2.2.1.fr (F.ag (by decide)) (fun j => e 38 j (by decide)) (fun j => e 39 j (by decide))), (C.2.2.2.2.2.2.2.1.fr (F.ag (by decide)) (fun k j a b d => e k j (by simp <;> omega))), a2, (by rw [show τ 28 = σ 28 from funext fun j => e 28 j (by decide)]; exact C.2.2.2.2.2.2.2.2.2.1.fr (F.ag (by decide))), (by rw [e 30 0 (by decide), e 31 0 (by decide)]; exact C.2.2.2.2.2.2.2.2.2.2.1.fr (F.ag (by decide))), (oK C.2.2.2.2.2.2.2.2.2.2.2 F)⟩, ⟨(G.1.cg fun k i a => e k i (by simp <;> omega)), (G.2.1.cg fun k i a b => e k i (by simp <;> omega)), (G.2.2.1.cg fun k i a b => e k i (by simp <;> omega)), (G.2.2.2.1.cg fun k i a b => e k i (by simp <;> omega)), (G.2.2.2.2.1.cg fun k i a => e k i (by simp <;> omega)), (G.2.2.2.2.2.1.cg fun k i a b => e k i (by simp <;> omega)), (G.2.2.2.2.2.2.1.cg fun k i a b => e k i (by simp <;> omega)), (G.2.2.2.2.2.2.2.1.cg fun k i a b => e k i (by simp <;> omega)), (G.2.2.2.2.2.2.2.2.1.cg fun k i a b => e k i (by simp <;> omega)), hs, (G.2.2.2.2.2.2.2.2.2.2.cg fun i => e 29 i (by decide))⟩, by omega⟩
