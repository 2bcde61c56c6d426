/-! each call, of both sides: runs -/
def zB (N : Nat) (g : Gs) : Prop := ∀ i, 4 * N ≤ i → gv g i = 0
theorem zB.sv {N i : Nat} {g : Gs} {x : Int32} (I : zB N g) (hi : i < 4 * N) : zB N (gsv g i x) := fun j q1 => by
  show uf (gv g) i x j = 0
  unfold uf
  rw [if_neg (by omega)]
  exact I j q1
theorem goL_zB {sub : Nat → Nat → Gs → Gs × Int32} {σ : Sg} {s d R B N : Nat} (D : DP σ R B) (hB : B ≤ 12) (hs : s < N) (hsub : ∀ r b g, r < R → b < B → zB N g → zB N (sub r b g).1) :
    ∀ (l : List Nat) (g : Gs) (vr : Nat → Int32) (ap : Nat → Bool), (∀ x ∈ l, x < R) → zB N g → zB N (goL sub σ s d l g vr ap).1 := by
  intro l
  induction l with
  | nil => intro g vr ap _ hg; exact hg
  | cons r l ih1 =>
    intro g vr ap hl hg
    have hr := hl r List.mem_cons_self
    have ih := fun g vr ap q1 => ih1 g vr ap (fun x hx1 => hl x (List.mem_cons_of_mem _ hx1)) q1
    by_cases c1 : gn g = 300
    · rw [goL, if_pos c1]
      exact hg
    · cases ha : apP σ r s (gv g) vr ap (nt (σ 13 r)) with
      | false =>
        rw [goL, if_neg c1, if_pos ha]
        exact ih _ _ _ hg
      | true =>
        rw [goL_a c1 ha]
        obtain ⟨c, hc8, ec, h1, h28, h48, h56⟩ := D r hr
        have edc : dC σ r = c := by show nt (σ 14 (3 * r)) = c; rw [ec, nt_nI (by omega)]
        rw [edc]
        have hg1 : zB N (gtr g r true d) := hg
        rcases (show c = 0 ∨ c = 1 ∨ c = 2 ∨ c = 3 ∨ c = 4 ∨ c = 5 ∨ c = 6 ∨ c = 7 ∨ c = 8 by omega) with rfl | rfl | rfl | rfl | rfl | rfl | rfl | rfl | rfl
        · exact ih _ _ _ hg1
        · exact hg1
        · exact ih _ _ _ hg1
        · obtain ⟨x, hx, ex⟩ := h28 (by omega)
          have edx : dX σ r = x := by show nt (σ 14 (3 * r + 1)) = x; rw [ex, nt_nI (by omega)]
          exact ih _ _ _ (hg1.sv (by omega))
        · obtain ⟨x, hx, ex⟩ := h28 (by omega)
          have edx : dX σ r = x := by show nt (σ 14 (3 * r + 1)) = x; rw [ex, nt_nI (by omega)]
          show zB N (if vr (nt (dY σ r)) = 0 then _ else _ : Gs × Int32).1
          by_cases c2 : vr (nt (dY σ r)) = 0
          · rw [if_pos c2]; exact hg1
          · rw [if_neg c2]
            exact ih _ _ _ (hg1.sv (by omega))
        · obtain ⟨x, hx, ex⟩ := h56 (Or.inl rfl)
          have edx : dX σ r = x := by show nt (σ 14 (3 * r + 1)) = x; rw [ex, nt_nI (by omega)]
          have hs1 := hsub r (dX σ r) (gtr g r true d) hr (by omega) hg1
          show zB N (if ge (sub r (dX σ r) (gtr g r true d)).1 ≠ 0 then _ else _ : Gs × Int32).1
          by_cases c2 : ge (sub r (dX σ r) (gtr g r true d)).1 = 0
          · rw [if_neg (fun q0 => q0 c2)]
            exact ih _ _ _ hs1
          · rw [if_pos c2]; exact hs1
        · obtain ⟨x, hx, ex⟩ := h56 (Or.inr rfl)
          have edx : dX σ r = x := by show nt (σ 14 (3 * r + 1)) = x; rw [ex, nt_nI (by omega)]
          have hs1 := hsub r (dX σ r) (gtr g r true d) hr (by omega) hg1
          show zB N (if ge (sub r (dX σ r) (gtr g r true d)).1 ≠ 0 then _ else _ : Gs × Int32).1
          by_cases c2 : ge (sub r (dX σ r) (gtr g r true d)).1 = 0
          · rw [if_neg (fun q0 => q0 c2)]
            by_cases c3 : (sub r (dX σ r) (gtr g r true d)).2 = 0
            · rw [if_neg (fun q0 => q0 c3)]
              exact ih _ _ _ hs1
            · rw [if_pos c3]; exact hs1
          · rw [if_pos c2]; exact hs1
        · exact hg1
        · exact ih _ _ _ hg1
theorem runS_zB {σ : Sg} {rw0 : Nat → List Nat} {s R B N : Nat} (D : DP σ R B) (hB : B ≤ 12) (hs : s < N) (hrw : ∀ b, b < B → ∀ r ∈ rw0 b, r < R) : ∀ (n r b : Nat) (g : Gs), b < B → zB N g → zB N (runS σ rw0 s n r b g).1 := by
  intro n
  induction n with
  | zero => intro r b g _ hg; exact hg
  | succ n ih1 =>
    intro r b g hb hg
    exact goL_zB D hB hs (fun r b g _ q2 q3 => ih1 r b g q2 q3) (rw0 b) g _ _ (hrw b hb) hg
theorem fRun_zB {σ : Sg} {rw0 : Nat → List Nat} {b s : Int32} {R B N : Nat} {g : Gs} (D : DP σ R B) (hB : B ≤ 12) (hN : N ≤ 20) (hrw : ∀ b, b < B → ∀ r ∈ rw0 b, r < R) (hg : zB N g) : zB N (fRun σ rw0 b s B N g).2 := by
  unfold fRun
  rcases iy_cases b (K := B) (by omega) with ⟨q1, -⟩ | ⟨i, hi, -, q1⟩
  · rw [q1]; exact hg
  · rcases iy_cases s (K := N) (by omega) with ⟨q2, -⟩ | ⟨j, hj, -, q2⟩
    · rw [q1, q2]; exact hg
    · rw [q1, q2]
      exact runS_zB D hB hj hrw 6 0 i (gf g) hi hg
theorem fPart_zB {σ : Sg} {rw0 : Nat → List Nat} {a p s : Nat} {R B N V : Nat} {g : Gs} (D : DP σ R B) (hB : B ≤ 12) (hs : s < N) (hrw : ∀ b, b < B → ∀ r ∈ rw0 b, r < R) (W : VP σ V B) (ha : a < V) (hp : p < 3) (hg : zB N g) : zB N (fPart σ rw0 a p s g).2 := by
  unfold fPart
  rcases W.2 a p ha hp with e1 | ⟨b, hb, e1⟩
  · rw [if_pos e1]; exact hg
  · rw [if_neg (by rw [e1]; exact nI_m4 (by omega)), show nt (σ 36 (3 * a + p)) = b by rw [e1, nt_nI (by omega)]]
    exact runS_zB D hB hs hrw 6 0 b (gf g) hb hg
theorem actS_zB {σ : Sg} {rw0 : Nat → List Nat} {a s : Nat} {R B N A : Nat} (D : DP σ R B) (hB : B ≤ 12) (hs : s < N) (hrw : ∀ b, b < B → ∀ r ∈ rw0 b, r < R) (W : SP σ A B) (ha : a < A) : ∀ (n k : Nat) (g : Gs), k + n = 6 → zB N g → zB N (actS σ rw0 s a n k g).2 := by
  intro n
  induction n with
  | zero => intro k g _ hg; exact hg
  | succ n ih =>
    intro k g hk hg
    rw [actS]
    rcases W.2 a k ha (by omega) with e1 | ⟨b, hb, e1⟩
    · rw [if_pos e1]; exact ih (k + 1) g (by omega) hg
    · rw [if_neg (by rw [e1]; exact nI_m4 (by omega)), show nt (σ 34 (6 * a + k)) = b by rw [e1, nt_nI (by omega)]]
      have h1 := runS_zB D hB hs hrw 6 0 b g hb hg
      split
      · exact h1
      · split
        · exact h1
        · exact ih (k + 1) _ (by omega) h1
theorem actF_zB {σ : Sg} {rw0 : Nat → List Nat} {a s : Nat} {R B N A : Nat} (D : DP σ R B) (hB : B ≤ 12) (hs : s < N) (hrw : ∀ b, b < B → ∀ r ∈ rw0 b, r < R) (W : SP σ A B) (ha : a < A) : ∀ (n k : Nat) (g : Gs), k + n = 6 → zB N g → zB N (actF σ rw0 s a n k g).2 := by
  intro n
  induction n with
  | zero => intro k g _ hg; exact hg
  | succ n ih =>
    intro k g hk hg
    rw [actF]
    by_cases c1 : σ 34 (6 * a + k) = -4
    · rw [if_pos c1]; exact ih (k + 1) g (by omega) hg
    · rw [if_neg c1]; exact actS_zB D hB hs hrw W ha (n + 1) k (gf g) hk hg
theorem fAct_zB {σ : Sg} {rw0 : Nat → List Nat} {p s : Int32} {R B N A : Nat} {g : Gs} (D : DP σ R B) (hB : B ≤ 12) (hN : N ≤ 20) (hrw : ∀ b, b < B → ∀ r ∈ rw0 b, r < R) (W : SP σ A B) (hg : zB N g) : zB N (fAct σ rw0 p s A N g).2 := by
  have hA := W.1
  unfold fAct
  rcases iy_cases p (K := A) (by omega) with ⟨q1, -⟩ | ⟨i, hi, -, q1⟩
  · rw [q1]; exact hg
  · rcases iy_cases s (K := N) (by omega) with ⟨q2, -⟩ | ⟨j, hj, -, q2⟩
    · rw [q1, q2]; exact hg
    · rw [q1, q2]
      exact actF_zB D hB hj hrw W hi 6 0 g (by omega) hg
theorem stp_z {σ : Sg} {s x : Nat} (h1 : x ≠ s) : stp σ s 42 x = σ 42 x ∧ stp σ s 43 x = σ 43 x := by
  unfold stp
  split
  · split
    · exact ⟨by rw [us_j h1, us_k (by decide), us_k (by decide), us_k (by decide)], by rw [us_k (by decide), us_j h1, us_k (by decide), us_k (by decide)]⟩
    · exact ⟨by rw [us_j h1, us_k (by decide), us_k (by decide), us_k (by decide)], by rw [us_k (by decide), us_j h1, us_k (by decide), us_k (by decide)]⟩
  · exact ⟨rfl, rfl⟩
theorem rndF_z {x : Nat} : ∀ (n s : Nat) (σ : Sg), s + n ≤ x → rndF n s σ 42 x = σ 42 x ∧ rndF n s σ 43 x = σ 43 x := by
  intro n
  induction n with
  | zero => intro s σ _; exact ⟨rfl, rfl⟩
  | succ n ih =>
    intro s σ h1
    obtain ⟨a1, a2⟩ := ih (s + 1) (stp σ s) (by omega)
    obtain ⟨b1, b2⟩ := stp_z (σ := σ) (s := s) (x := x) (by omega)
    exact ⟨a1.trans b1, a2.trans b2⟩
theorem rnds_z {x NS : Nat} (hx : NS ≤ x) : ∀ (f : Nat) (σ : Sg), rnds NS f σ 42 x = σ 42 x ∧ rnds NS f σ 43 x = σ 43 x := by
  intro f
  induction f with
  | zero => intro σ; exact ⟨rfl, rfl⟩
  | succ f ih =>
    intro σ
    obtain ⟨b1, b2⟩ := rndF_z (x := x) NS 0 σ (by omega)
    rw [rnds]
    split
    · exact ⟨b1, b2⟩
    · obtain ⟨a1, a2⟩ := ih (rndF NS 0 σ)
      exact ⟨a1.trans b1, a2.trans b2⟩
theorem TI.rnd {NS : Nat} : ∀ (n s : Nat) (σ : Sg) (L : List Nat), s + n ≤ NS → TI σ NS L → st σ (rndF n s σ) ∧ ∃ L', TI (rndF n s σ) NS L' := by
  intro n
  induction n with
  | zero => intro s σ L _ I; exact ⟨st.rf, L, I⟩
  | succ n ih =>
    intro s σ L h1 I
    obtain ⟨a1, a2⟩ := I.step (s := s) (by omega)
    have t2 : ∃ L', TI (stp σ s) NS L' := by
      rcases a2 with e | ⟨e, t⟩
      · exact ⟨L, by rw [e]; exact I⟩
      · exact ⟨_, t⟩
    obtain ⟨L2, t2⟩ := t2
    obtain ⟨b1, b2⟩ := ih (s + 1) (stp σ s) L2 (by omega) t2
    exact ⟨a1.tr b1, b2⟩
theorem TI.rndsT {NS : Nat} : ∀ (f : Nat) (σ : Sg) (L : List Nat), TI σ NS L → st σ (rnds NS f σ) ∧ ∃ L', TI (rnds NS f σ) NS L' := by
  intro f
  induction f with
  | zero => intro σ L I; exact ⟨st.rf, L, I⟩
  | succ f ih =>
    intro σ L I
    obtain ⟨a1, L2, a2⟩ := TI.rnd NS 0 σ L (by omega) I
    show st σ (if rndF NS 0 σ 49 0 = σ 49 0 then rndF NS 0 σ else rnds NS f (rndF NS 0 σ)) ∧ ∃ L', TI (if rndF NS 0 σ 49 0 = σ 49 0 then rndF NS 0 σ else rnds NS f (rndF NS 0 σ)) NS L'
    split
    · exact ⟨a1, L2, a2⟩
    · obtain ⟨b1, b2⟩ := ih (rndF NS 0 σ) L2 a2
      exact ⟨a1.tr b1, b2⟩
theorem trn_ok {σ : Sg} {NS : Nat} (hNS : NS ≤ 8) (h42 : ∀ s, s < NS → σ 42 s = 0 ∨ σ 42 s = 1) : st (us σ 47 0 (σ 47 0 + nI 1)) (trnE σ NS) ∧ (∃ L, TI (trnE σ NS) NS L) ∧ ∀ x, NS ≤ x → trnE σ NS 42 x = σ 42 x ∧ trnE σ NS 43 x = σ 43 x := by
  have T1 : TI (us (us σ 47 0 (σ 47 0 + nI 1)) 49 0 0) NS [] := ⟨hNS, List.nodup_nil, (fun x hx1 => by cases hx1), us_s, (fun i x q1 => by simp at q1), fun s q1 => by rw [us_k (by decide), us_k (by decide)]; exact h42 s q1⟩
  obtain ⟨a1, a2⟩ := TI.rndsT 17 _ _ T1
  refine ⟨(st.rf.us rfl).tr a1, a2, fun x hx => ?_⟩
  obtain ⟨b1, b2⟩ := rnds_z hx 17 (us (us σ 47 0 (σ 47 0 + nI 1)) 49 0 0)
  exact ⟨by show rnds NS 17 _ 42 x = _; rw [b1, us_k (by decide), us_k (by decide)], by show rnds NS 17 _ 43 x = _; rw [b2, us_k (by decide), us_k (by decide)]⟩
theorem sr_us2 {σ τ : Sg} {k j : Nat} {x : Int32} (h1 : sr σ τ) : sr (us σ k j x) (us τ k j x) := fun k' j' q1 => by
  by_cases c1 : k' = k ∧ j' = j
  · obtain ⟨rfl, rfl⟩ := c1
    rw [us_s, us_s]
  · rw [us_o (fun z1 z2 => c1 ⟨z1, z2⟩), us_o (fun z1 z2 => c1 ⟨z1, z2⟩)]
    exact h1 k' j' q1
section RPs
variable {h : Hp} {σ τ : Sg} {od : Nat → List Nat} {K N B R A V O NS P T n K0 : Nat} {g : Gs}
theorem RP.e (r : RP σ τ g) : ∀ k i, (∀ z ∈ [4, 19, 20, 21, 22, 23, 24, 25, 26, 27, 28, 29, 30, 31, 32], k ≠ z) → τ k i = σ k i := fun k i hk => r.1 k i (by
  simp only [List.mem_cons, List.not_mem_nil, or_false, forall_eq_or_imp, forall_eq] at hk
  simp only [rk, Bool.or_eq_false_iff, decide_eq_false_iff_not, Bool.and_eq_false_iff]
  omega)
theorem KI.rp (C1 : mnC h (σ 33 0) (σ 35 0) (σ 37 0) (σ 46 0)) (C2 : kC h σ K) (C4 : brC h σ B R od) (C5 : aC h σ A) (C6 : vC h σ V) (C7 : pC h σ O) (C8 : nC h σ NS) (C9 : fC h σ P) (L : RK σ R K0) (hod : odK σ R od) (D : DY h σ N g) (r : RP σ τ g) : KI h τ od K N B R A V O NS P (gn g) := by
  have e := r.e
  have F : fT [] h h := fT.rf
  obtain ⟨-, ⟨g1, g2, g3, g4, g5⟩, -⟩ := r
  have x4 : τ 4 = gv g := funext g1
  have x28 : τ 28 = gt g := funext g2
  refine ⟨by rw [e 33 0 (by decide), e 35 0 (by decide), e 37 0 (by decide), e 46 0 (by decide)]; exact C1, C2.fr (F.ag (by decide)) (fun j => e 1 j (by decide)), by rw [x4]; exact D.1.fr (F.ag (by decide)) (fun j => e 3 j (by decide)), C4.cg (F.ag (by decide)) L hod (fun i => e 1 i (by decide)) (fun k i a b d => e k i (by simp <;> omega)), C5.fr (F.ag (by decide)) (fun j => e 34 j (by decide)), C6.fr (F.ag (by decide)) (fun j => e 36 j (by decide)), C7.fr (F.ag (by decide)) (fun j => e 38 j (by decide)) (fun j => e 39 j (by decide)), C8.fr (F.ag (by decide)) (fun k j a b d => e k j (by simp <;> omega)), C9.fr (F.ag (by decide)) (fun j => e 51 j (by decide)), by rw [x28]; exact D.2.1, by rw [g4, g5]; exact D.2.2.1, D.2.2.2.1⟩
theorem GI.rp (G : GI σ od K N B R A V O NS P T n) (hz : zB N g) (r : RP σ τ g) : GI τ od K N B R A V O NS P T (gn g) := by
  have e := r.e
  obtain ⟨-, ⟨g1, g2, g3, g4, g5⟩, hn⟩ := r
  have hs : iS τ N K := ⟨⟨G.2.1.1.1, fun s q1 => by rw [e 3 s (by decide)]; exact G.2.1.1.2 s q1⟩, by rw [e 2 0 (by decide)]; exact G.2.1.2.1, fun i q1 => by rw [g1]; exact hz i q1⟩
  exact ⟨(G.1.cg fun k i a => e k i (by simp <;> omega)), hs, (G.2.2.1.cg fun k i a b => e k i (by simp <;> omega)), (G.2.2.2.1.cg fun k i a b => e k i (by simp <;> omega)), (G.2.2.2.2.1.cg fun k i a => e k i (by simp <;> omega)), (G.2.2.2.2.2.1.cg fun k i a b => e k i (by simp <;> omega)), (G.2.2.2.2.2.2.1.cg fun k i a b => e k i (by simp <;> omega)), (G.2.2.2.2.2.2.2.1.cg fun k i a b => e k i (by simp <;> omega)), (G.2.2.2.2.2.2.2.2.1.cg fun k i a b => e k i (by simp <;> omega)), (G.2.2.2.2.2.2.2.2.2.1.cg fun k i a b => e k i (by simp <;> omega)), ⟨g3, hn⟩⟩
end RPs
theorem GI.zB {σ : Sg} {od : Nat → List Nat} {K N B R A V O NS P T n : Nat} (G : GI σ od K N B R A V O NS P T n) : zB N (gO σ n) := fun i q1 => G.2.1.2.2 i q1
theorem GI.mem {σ : Sg} {od : Nat → List Nat} {K N B R A V O NS P T n : Nat} (G : GI σ od K N B R A V O NS P T n) : ∀ b, b < B → ∀ r ∈ rowS σ b R (od b), r < R := fun b q1 => (G.rn.mem q1).1
/-- a call with runs: ω is what the call leaves but for the runs -/
theorem PR.rn {mX mM : MD} {lx lm : Nat} {as : List PV} {c L : Nat} {xs : Nat → Int32} {H h0 : Hp} {σ ω : Sg} {x : Int32} {od : Nat → List Nat} {K N B R A V O NS P T n : Nat} {g : Gs} (hS : H (0, 0, 0) = some (29, L, fun j => vI (xs j))) (eH : H = hM σ h0) (G : GI ω od K N B R A V O NS P T n) (hz : zB N g) (hT : T ≤ c + 1)
    (h1 : Con mX lx 0 0 (vR (10, 0, 0) :: as) H (fun v h' => v = some (vI x) ∧ (∀ n, 100 ≤ n.1 ∨ n.1 = 0 → h' n = H n) ∧ mnC h' (ω 33 0) (ω 35 0) (ω 37 0) (ω 46 0) ∧ kC h' ω K ∧ brC h' ω B R od ∧ aC h' ω A ∧ vC h' ω V ∧ pC h' ω O ∧ nC h' ω NS ∧ fC h' ω P ∧ DY h' ω N g))
    (h2 : ∀ h, Con mM lm 0 0 (vR (100, 0, 0) :: as) (hM σ h) (fun v h' => ∃ τ, h' = hM τ h ∧ v = some (vI x) ∧ RP ω τ g)) : PR mX mM lx 0 0 lm as c L xs H := by
  refine Con.mono h1 (fun v h' q0 => ?_)
  obtain ⟨e1, F, c1, c2, c4, c5, c6, c7, c8, c9, D⟩ := q0
  have e2 : h' = hM σ h' := hM_stay eH (fun n q1 => F n (Or.inl q1))
  have e3 : h' (0, 0, 0) = some (29, L, fun j => vI (xs j)) := (F _ (Or.inr rfl)).trans hS
  refine ⟨x, σ, h', e1, e2, e3, Con.mono (h2 h') (fun v' h'' q1 => ?_)⟩
  obtain ⟨τ, q2, q3, q4⟩ := q1
  refine ⟨q3, ?_⟩
  rw [q2]
  have G1 := G.rp hz q4
  exact ⟨τ, od, K, N, B, R, A, V, O, NS, P, T, gn g, h', rfl, (KI.rp c1 c2 c4 c5 c6 c7 c8 c9 G.2.2.2.1.1 G.2.2.2.2.1.1 D q4).hM G1.2.2.2.1.1 G1.2.2.2.2.1.1, G1, hT, by rw [hM_ag (lo := 0) (hi := 0) rfl _ (Nat.le_refl _) (Nat.le_refl _)]; exact e3⟩
theorem p_run {H : Hp} {c L : Nat} {xs : Nat → Int32} (b s : Int32) (I : LI c L xs H) : PR mX_run mM_run 29 0 0 8 [vI b, vI s] c L xs H := by
  obtain ⟨σ, od, K, N, B, R, A, V, O, NS, P, T, n, h0, eH, C, G, hT, hS⟩ := I
  have e : ∀ k i, (∀ z ∈ ([] : List Nat), k ≠ z) → σ k i = σ k i := fun _ _ _ => rfl
  have X := G.rn
  have ST0 := G.st C
  have D0 := C.dy G.2.2.2.2.2.2.2.2.2.2.2
  refine PR.rn (x := (fRun σ (fun b => rowS σ b R (od b)) b s B N (gO σ n)).1) (g := (fRun σ (fun b => rowS σ b R (od b)) b s B N (gO σ n)).2) hS eH G (fRun_zB X.2.2.2.1 G.2.2.1.1 G.2.1.1.1 G.mem G.zB) (by omega) (Con.mono (c_X_run b s C.1 ST0 D0) (fun v h' q0 => ?_)) (fun h => Con.mono (c_M_run b s X G.2.2.1.2.1 G.2.1.2.1 G.gr G.2.2.2.2.2.2.2.2.2.2.2) (fun v h' q0 => q0))
  obtain ⟨e1, F, D1⟩ := q0
  exact ⟨e1, F.hi, (by rw [e 33 0 (by decide), e 35 0 (by decide), e 37 0 (by decide), e 46 0 (by decide)]; exact C.1.fr (F.ag (by decide))), (C.2.1.fr (F.ag (by decide)) (fun j => e 1 j (by decide))), (C.2.2.2.1.cg (F.ag (by decide)) G.2.2.2.1.1 G.2.2.2.2.1.1 (fun i => e 1 i (by decide)) (fun k i a b d => e k i (by simp <;> omega))), (C.2.2.2.2.1.fr (F.ag (by decide)) (fun j => e 34 j (by decide))), (C.2.2.2.2.2.1.fr (F.ag (by decide)) (fun j => e 36 j (by decide))), (C.2.2.2.2.2.2.1.fr (F.ag (by decide)) (fun j => e 38 j (by decide)) (fun j => e 39 j (by decide))), (C.2.2.2.2.2.2.2.1.fr (F.ag (by decide)) (fun k j a b d => e k j (by simp <;> omega))), (C.2.2.2.2.2.2.2.2.1.fr (F.ag (by decide)) (fun j => e 51 j (by decide))), D1⟩
theorem p_act {H : Hp} {c L : Nat} {xs : Nat → Int32} (p s : Int32) (I : LI c L xs H) : PR mX_act mM_act 29 0 0 7 [vI p, vI s] c L xs H := by
  obtain ⟨σ, od, K, N, B, R, A, V, O, NS, P, T, n, h0, eH, C, G, hT, hS⟩ := I
  have e : ∀ k i, (∀ z ∈ ([] : List Nat), k ≠ z) → σ k i = σ k i := fun _ _ _ => rfl
  have X := G.rn
  have ST0 := G.st C
  have D0 := C.dy G.2.2.2.2.2.2.2.2.2.2.2
  refine PR.rn (x := (fAct σ (fun b => rowS σ b R (od b)) p s A N (gO σ n)).1) (g := (fAct σ (fun b => rowS σ b R (od b)) p s A N (gO σ n)).2) hS eH G (fAct_zB X.2.2.2.1 G.2.2.1.1 G.2.1.1.1 G.mem G.2.2.2.2.2.1.1 G.zB) (by omega) (Con.mono (c_X_act p s (by have e33 := G.2.2.2.2.2.1.2; rw [← e33]; exact C.1) ST0 D0 C.2.2.2.2.1 G.2.2.2.2.2.1.1) (fun v h' q0 => ?_)) (fun h => Con.mono (c_M_act p s X G.2.2.2.2.2.1.1 G.2.2.2.2.2.1.2 G.2.1.2.1 G.gr G.2.2.2.2.2.2.2.2.2.2.2) (fun v h' q0 => q0))
  obtain ⟨e1, F, D1⟩ := q0
  exact ⟨e1, F.hi, (by rw [e 33 0 (by decide), e 35 0 (by decide), e 37 0 (by decide), e 46 0 (by decide)]; exact C.1.fr (F.ag (by decide))), (C.2.1.fr (F.ag (by decide)) (fun j => e 1 j (by decide))), (C.2.2.2.1.cg (F.ag (by decide)) G.2.2.2.1.1 G.2.2.2.2.1.1 (fun i => e 1 i (by decide)) (fun k i a b d => e k i (by simp <;> omega))), (C.2.2.2.2.1.fr (F.ag (by decide)) (fun j => e 34 j (by decide))), (C.2.2.2.2.2.1.fr (F.ag (by decide)) (fun j => e 36 j (by decide))), (C.2.2.2.2.2.2.1.fr (F.ag (by decide)) (fun j => e 38 j (by decide)) (fun j => e 39 j (by decide))), (C.2.2.2.2.2.2.2.1.fr (F.ag (by decide)) (fun k j a b d => e k j (by simp <;> omega))), (C.2.2.2.2.2.2.2.2.1.fr (F.ag (by decide)) (fun j => e 51 j (by decide))), D1⟩
theorem p_middle {H : Hp} {c L : Nat} {xs : Nat → Int32} (I : LI c L xs H) : PR mX_middle mM_middle 29 0 0 9 [] c L xs H := by
  have I0 := I
  obtain ⟨σ, od, K, N, B, R, A, V, O, NS, P, T, n, h0, eH, C, G, hT, hS⟩ := I
  have e : ∀ k i, (∀ z ∈ ([] : List Nat), k ≠ z) → σ k i = σ k i := fun _ _ _ => rfl
  have X := G.rn
  have ST0 := G.st C
  have D0 := C.dy G.2.2.2.2.2.2.2.2.2.2.2
  by_cases c0 : O = 0
  · refine Con.mono (c_X_middle (by have e37 := G.2.2.2.2.2.2.2.1.2.1; rw [← e37]; exact C.1) ST0 D0 C.2.2.2.2.2.1 G.2.2.2.2.2.2.1.1 C.2.2.2.2.2.2.1 G.2.2.2.2.2.2.2.1) (fun v h' q0 => ?_)
    rw [if_pos c0] at q0
    obtain ⟨e1, e2⟩ := q0
    refine ⟨-2, σ, h0, e1, e2.trans eH, by rw [e2]; exact hS, Con.mono (c_M_middle X G.2.2.2.2.2.2.1.1 G.2.2.2.2.2.2.2.1 G.gr G.2.2.2.2.2.2.2.2.2.2.2) (fun v' h'' q1 => ?_)⟩
    rw [if_pos c0] at q1
    refine ⟨q1.1, ?_⟩
    rw [q1.2, ← eH]
    exact I0.up
  · obtain ⟨⟨a, ha, ea⟩, s, hs, es⟩ := G.2.2.2.2.2.2.2.1.2.2 (O - 1) (by omega)
    have hVV := G.2.2.2.2.2.2.1.1.1
    have hNN := G.2.1.1.1
    have ea2 : nt (σ 38 (O - 1)) = a := by rw [ea, nt_nI (by omega)]
    have es2 : nt (σ 39 (O - 1)) = s := by rw [es, nt_nI (by omega)]
    refine PR.rn (x := (fPart σ (fun b => rowS σ b R (od b)) (nt (σ 38 (O - 1))) 1 (nt (σ 39 (O - 1))) (gO σ n)).1) (g := (fPart σ (fun b => rowS σ b R (od b)) (nt (σ 38 (O - 1))) 1 (nt (σ 39 (O - 1))) (gO σ n)).2) hS eH G (fPart_zB X.2.2.2.1 G.2.2.1.1 (by rw [es2]; exact hs) G.mem G.2.2.2.2.2.2.1.1 (by rw [ea2]; exact ha) (by omega) G.zB) (by omega) (Con.mono (c_X_middle (by have e37 := G.2.2.2.2.2.2.2.1.2.1; rw [← e37]; exact C.1) ST0 D0 C.2.2.2.2.2.1 G.2.2.2.2.2.2.1.1 C.2.2.2.2.2.2.1 G.2.2.2.2.2.2.2.1) (fun v h' q0 => ?_)) (fun h => Con.mono (c_M_middle X G.2.2.2.2.2.2.1.1 G.2.2.2.2.2.2.2.1 G.gr G.2.2.2.2.2.2.2.2.2.2.2) (fun v h' q0 => ?_))
    · rw [if_neg c0] at q0
      obtain ⟨e1, F, D1⟩ := q0
      exact ⟨e1, F.hi, (by rw [e 33 0 (by decide), e 35 0 (by decide), e 37 0 (by decide), e 46 0 (by decide)]; exact C.1.fr (F.ag (by decide))), (C.2.1.fr (F.ag (by decide)) (fun j => e 1 j (by decide))), (C.2.2.2.1.cg (F.ag (by decide)) G.2.2.2.1.1 G.2.2.2.2.1.1 (fun i => e 1 i (by decide)) (fun k i a b d => e k i (by simp <;> omega))), (C.2.2.2.2.1.fr (F.ag (by decide)) (fun j => e 34 j (by decide))), (C.2.2.2.2.2.1.fr (F.ag (by decide)) (fun j => e 36 j (by decide))), (C.2.2.2.2.2.2.1.fr (F.ag (by decide)) (fun j => e 38 j (by decide)) (fun j => e 39 j (by decide))), (C.2.2.2.2.2.2.2.1.fr (F.ag (by decide)) (fun k j a b d => e k j (by simp <;> omega))), (C.2.2.2.2.2.2.2.2.1.fr (F.ag (by decide)) (fun j => e 51 j (by decide))), D1⟩
    · rw [if_neg c0] at q0
      obtain ⟨τ, y1, y2, y3⟩ := q0
      exact ⟨τ, y3, y2, y1⟩
theorem p_finish {H : Hp} {c L : Nat} {xs : Nat → Int32} (I : LI c L xs H) : PR mX_finish mM_finish 29 0 0 9 [] c L xs H := by
  have I0 := I
  obtain ⟨σ, od, K, N, B, R, A, V, O, NS, P, T, n, h0, eH, C, G, hT, hS⟩ := I
  have X := G.rn
  have ST0 := G.st C
  have D0 := C.dy G.2.2.2.2.2.2.2.2.2.2.2
  by_cases c0 : O = 0
  · refine Con.mono (c_X_finish (by have e37 := G.2.2.2.2.2.2.2.1.2.1; rw [← e37]; exact C.1) ST0 D0 C.2.2.2.2.2.1 G.2.2.2.2.2.2.1.1 C.2.2.2.2.2.2.1 G.2.2.2.2.2.2.2.1) (fun v h' q0 => ?_)
    rw [if_pos c0] at q0
    obtain ⟨e1, e2⟩ := q0
    refine ⟨-2, σ, h0, e1, e2.trans eH, by rw [e2]; exact hS, Con.mono (c_M_finish X G.2.2.2.2.2.2.1.1 G.2.2.2.2.2.2.2.1 G.gr G.2.2.2.2.2.2.2.2.2.2.2) (fun v' h'' q1 => ?_)⟩
    rw [if_pos c0] at q1
    refine ⟨q1.1, ?_⟩
    rw [q1.2, ← eH]
    exact I0.up
  · obtain ⟨⟨a, ha, ea⟩, s, hs, es⟩ := G.2.2.2.2.2.2.2.1.2.2 (O - 1) (by omega)
    have hVV := G.2.2.2.2.2.2.1.1.1
    have hNN := G.2.1.1.1
    have ea2 : nt (σ 38 (O - 1)) = a := by rw [ea, nt_nI (by omega)]
    have es2 : nt (σ 39 (O - 1)) = s := by rw [es, nt_nI (by omega)]
    have e : ∀ k i, (∀ z ∈ [37], k ≠ z) → us σ 37 0 (nI (O - 1)) k i = σ k i := fun k i hk => us_k (hk 37 (by decide))
    have hO4 := G.2.2.2.2.2.2.2.1.1
    have G1 : GI (us σ 37 0 (nI (O - 1))) od K N B R A V (O - 1) NS P T n := ⟨(G.1.cg fun k i a => e k i (by simp <;> omega)), (G.2.1.cg fun k i a b => e k i (by simp <;> omega)), (G.2.2.1.cg fun k i a b => e k i (by simp <;> omega)), (G.2.2.2.1.cg fun k i a b => e k i (by simp <;> omega)), (G.2.2.2.2.1.cg fun k i a => e k i (by simp <;> omega)), (G.2.2.2.2.2.1.cg fun k i a b => e k i (by simp <;> omega)), (G.2.2.2.2.2.2.1.cg fun k i a b => e k i (by simp <;> omega)), ⟨by omega, us_s, fun i q1 => by rw [e 38 i (by decide), e 39 i (by decide)]; exact G.2.2.2.2.2.2.2.1.2.2 i (by omega)⟩, (G.2.2.2.2.2.2.2.2.1.cg fun k i a b => e k i (by simp <;> omega)), (G.2.2.2.2.2.2.2.2.2.1.cg fun k i a b => e k i (by simp <;> omega)), (G.2.2.2.2.2.2.2.2.2.2.cg fun i => e 29 i (by decide))⟩
    refine PR.rn (x := (fPart σ (fun b => rowS σ b R (od b)) (nt (σ 38 (O - 1))) 2 (nt (σ 39 (O - 1))) (gO σ n)).1) (g := (fPart σ (fun b => rowS σ b R (od b)) (nt (σ 38 (O - 1))) 2 (nt (σ 39 (O - 1))) (gO σ n)).2) hS eH G1 (fPart_zB X.2.2.2.1 G.2.2.1.1 (by rw [es2]; exact hs) G.mem G.2.2.2.2.2.2.1.1 (by rw [ea2]; exact ha) (by omega) G.zB) (by omega) (Con.mono (c_X_finish (by have e37 := G.2.2.2.2.2.2.2.1.2.1; rw [← e37]; exact C.1) ST0 D0 C.2.2.2.2.2.1 G.2.2.2.2.2.2.1.1 C.2.2.2.2.2.2.1 G.2.2.2.2.2.2.2.1) (fun v h' q0 => ?_)) (fun h => Con.mono (c_M_finish X G.2.2.2.2.2.2.1.1 G.2.2.2.2.2.2.2.1 G.gr G.2.2.2.2.2.2.2.2.2.2.2) (fun v h' q0 => ?_))
    · rw [if_neg c0] at q0
      obtain ⟨e1, F, D1, M1⟩ := q0
      have hp : pC h' (us σ 37 0 (nI (O - 1))) (O - 1) := by
        obtain ⟨f1, g1, p1, p2, p3⟩ := C.2.2.2.2.2.2.1.fr (F.ag (by decide)) (fun j => e 38 j (by decide)) (fun j => e 39 j (by decide))
        exact ⟨f1, g1, p1, p2, fun i q1 => p3 i (by omega)⟩
      have D2 : DY h' (us σ 37 0 (nI (O - 1))) N (fPart σ (fun b => rowS σ b R (od b)) (nt (σ 38 (O - 1))) 2 (nt (σ 39 (O - 1))) (gO σ n)).2 := ⟨D1.1.fr (fT.ag (ts := []) fT.rf (by decide)) (fun j => e 3 j (by decide)), D1.2⟩
      exact ⟨e1, F.hi, (by rw [e 33 0 (by decide), e 35 0 (by decide), e 46 0 (by decide), us_s]; exact M1), (C.2.1.fr (F.ag (by decide)) (fun j => e 1 j (by decide))), (C.2.2.2.1.cg (F.ag (by decide)) G.2.2.2.1.1 G.2.2.2.2.1.1 (fun i => e 1 i (by decide)) (fun k i a b d => e k i (by simp <;> omega))), (C.2.2.2.2.1.fr (F.ag (by decide)) (fun j => e 34 j (by decide))), (C.2.2.2.2.2.1.fr (F.ag (by decide)) (fun j => e 36 j (by decide))), hp, (C.2.2.2.2.2.2.2.1.fr (F.ag (by decide)) (fun k j a b d => e k j (by simp <;> omega))), (C.2.2.2.2.2.2.2.2.1.fr (F.ag (by decide)) (fun j => e 51 j (by decide))), D2⟩
    · rw [if_neg c0] at q0
      obtain ⟨τ, y1, y2, y3⟩ := q0
      exact ⟨τ, y3, y2, y1⟩
theorem p_turn {H : Hp} {c L : Nat} {xs : Nat → Int32} (I : LI c L xs H) : PR mX_turn mM_turn 29 0 0 7 [] c L xs H := by
  obtain ⟨σ, od, K, N, B, R, A, V, O, NS, P, T, n, h0, eH, C, G, hT, hS⟩ := I
  have X := G.rn
  have ST0 := G.st C
  have D0 := C.dy G.2.2.2.2.2.2.2.2.2.2.2
  obtain ⟨b1, b2, b3, b4, b5, b6, b7, b8, b9, E, b10, b11⟩ := id G.2.2.2.2.2.2.2.2.1
  have hR0 := G.2.2.2.1.1.1
  have key : ∀ ω L0, st (us σ 47 0 (σ 47 0 + nI 1)) ω → TI ω NS L0 → (∀ s, NS ≤ s → ω 42 s = 0 ∧ ω 43 s = 0) → GI ω od K N B R A V O NS P T n := by
    intro ω L0 s1 t1 hz
    have e : ∀ k i, (∀ z ∈ [42, 43, 47, 48, 49], k ≠ z) → ω k i = σ k i := fun k i hk => by
      simp only [List.mem_cons, List.not_mem_nil, or_false, forall_eq_or_imp, forall_eq] at hk
      rw [s1 k i (by simp only [tk, decide_eq_false_iff_not]; omega), us_k (by omega)]
    have hl := t1.len
    have hs : iN ω NS N B := ⟨b1, by rw [e 40 0 (by decide)]; exact b2, t1.2.2.2.2.2, b4.cg fun k i a b => e k i (by simp <;> omega), fun a q1 => by rw [e 44 a (by decide), e 45 a (by decide)]; exact b5 a q1, b6.cg fun k i a b => e k i (by simp <;> omega), hz, fun i q1 => by rw [e 44 i (by decide), e 45 i (by decide)]; exact b8 i q1, by rw [e 46 0 (by decide)]; exact b9, L0.length, by omega, t1.2.2.2.1⟩
    exact ⟨(G.1.cg fun k i a => e k i (by simp <;> omega)), (G.2.1.cg fun k i a b => e k i (by simp <;> omega)), (G.2.2.1.cg fun k i a b => e k i (by simp <;> omega)), (G.2.2.2.1.cg fun k i a b => e k i (by simp <;> omega)), (G.2.2.2.2.1.cg fun k i a => e k i (by simp <;> omega)), (G.2.2.2.2.2.1.cg fun k i a b => e k i (by simp <;> omega)), (G.2.2.2.2.2.2.1.cg fun k i a b => e k i (by simp <;> omega)), (G.2.2.2.2.2.2.2.1.cg fun k i a b => e k i (by simp <;> omega)), hs, (G.2.2.2.2.2.2.2.2.2.1.cg fun k i a b => e k i (by simp <;> omega)), (G.2.2.2.2.2.2.2.2.2.2.cg fun i => e 29 i (by decide))⟩
  obtain ⟨s1, ⟨L0, t1⟩, z1⟩ := trn_ok (σ := σ) b1 b3
  have G1 := key (trnE σ NS) L0 s1 t1 (fun s q1 => by rw [(z1 s q1).1, (z1 s q1).2]; exact b7 s q1)
  have zb : zB N (fTurn σ (fun b => rowS σ b R (od b)) NS N (gO σ n)).2 := by
    unfold fTurn
    by_cases c1 : σ 46 0 = -4 ∨ N = 0
    · rw [if_pos c1]; exact G.zB
    · rw [if_neg c1]
      rcases b9 with z | ⟨b, hb, eb⟩
      · exact absurd (Or.inl z) c1
      · have hBB := G.2.2.1.1
        rw [show nt (σ 46 0) = b by rw [eb, nt_nI (by omega)]]
        exact runS_zB G1.2.2.2.1.2.2.2.2.1 hBB (by omega) G.mem 6 0 b (gf (gO σ n)) hb G.zB
  refine PR.rn (ω := trnE σ NS) (x := (fTurn σ (fun b => rowS σ b R (od b)) NS N (gO σ n)).1) (g := (fTurn σ (fun b => rowS σ b R (od b)) NS N (gO σ n)).2) hS eH G1 zb (by omega) (Con.mono (c_X_turn C.1 ST0 D0 rfl b1 b4 b5 b9 G.2.2.1.2.2.1 hR0) (fun v h' q0 => ?_)) (fun h => Con.mono (c_M_turn X b4 b2 G.2.1.2.1 b9 G.gr G.2.2.2.2.2.2.2.2.2.2.2) (fun v h' q0 => ?_))
  · obtain ⟨e1, F, n1, D1⟩ := q0
    have e : ∀ k i, (∀ z ∈ [42, 43, 47, 48, 49], k ≠ z) → trnE σ NS k i = σ k i := fun k i hk => by
      simp only [List.mem_cons, List.not_mem_nil, or_false, forall_eq_or_imp, forall_eq] at hk
      rw [s1 k i (by simp only [tk, decide_eq_false_iff_not]; omega), us_k (by omega)]
    exact ⟨e1, F.hi, (by rw [e 33 0 (by decide), e 35 0 (by decide), e 37 0 (by decide), e 46 0 (by decide)]; exact C.1.fr (F.ag (by decide))), (C.2.1.fr (F.ag (by decide)) (fun j => e 1 j (by decide))), (C.2.2.2.1.cg (F.ag (by decide)) G.2.2.2.1.1 G.2.2.2.2.1.1 (fun i => e 1 i (by decide)) (fun k i a b d => e k i (by simp <;> omega))), (C.2.2.2.2.1.fr (F.ag (by decide)) (fun j => e 34 j (by decide))), (C.2.2.2.2.2.1.fr (F.ag (by decide)) (fun j => e 36 j (by decide))), (C.2.2.2.2.2.2.1.fr (F.ag (by decide)) (fun j => e 38 j (by decide)) (fun j => e 39 j (by decide))), n1, (C.2.2.2.2.2.2.2.2.1.fr (F.ag (by decide)) (fun j => e 51 j (by decide))), D1⟩
  · obtain ⟨τ, L9, y1, y2, -, -, y3⟩ := q0
    exact ⟨τ, y1, y2, y3⟩
theorem p_begin {H : Hp} {c L : Nat} {xs : Nat → Int32} (p s : Int32) (I : LI c L xs H) : PR mX_begin mM_begin 29 0 0 9 [vI p, vI s] c L xs H := by
  have I0 := I
  obtain ⟨σ, od, K, N, B, R, A, V, O, NS, P, T, n, h0, eH, C, G, hT, hS⟩ := I
  have X := G.rn
  have ST0 := G.st C
  have D0 := C.dy G.2.2.2.2.2.2.2.2.2.2.2
  have hVV := G.2.2.2.2.2.2.1.1.1
  have hNN := G.2.1.1.1
  have hO4 := G.2.2.2.2.2.2.2.1.1
  have ans : ∀ a s, a < V → s < N → -2 < (fPart σ (fun b => rowS σ b R (od b)) a 0 s (gO σ n)).1 ∨ ¬ -10 < (fPart σ (fun b => rowS σ b R (od b)) a 0 s (gO σ n)).1 := fun a s q1 q2 => fPart_ok X.2.2.2.1 G.2.2.1.1 G.2.2.2.1.1.1 G.mem G.2.2.1.2.2.1 G.2.2.2.2.2.2.1.1 q1 (by omega)
  have M1 : mnC H (σ 33 0) (nI V) (nI O) (σ 46 0) := by
    have e35 := G.2.2.2.2.2.2.1.2
    have e37 := G.2.2.2.2.2.2.2.1.2.1
    rw [← e35, ← e37]
    exact C.1
  have cx := c_X_begin p s M1 ST0 D0 C.2.2.2.2.2.1 G.2.2.2.2.2.2.1.1 C.2.2.2.2.2.2.1 G.2.2.2.2.2.2.2.1 ans
  have cm := fun h => c_M_begin (h := h) p s X G.2.2.2.2.2.2.1.1 G.2.2.2.2.2.2.1.2 G.2.1.2.1 G.2.2.2.2.2.2.2.1 G.gr G.2.2.2.2.2.2.2.2.2.2.2
  have rd : ∀ x : Int32, (∀ v h', (match ix p V, ix s N with
      | some a, some s => if O = 4 then v = some (vI (-3)) ∧ h' = H else v = some (vI (fPart σ (fun b => rowS σ b R (od b)) a 0 s (gO σ n)).1) ∧ fT [10, 15, 37, 44, 45, 46, 47] H h' ∧ DY h' σ N (fPart σ (fun b => rowS σ b R (od b)) a 0 s (gO σ n)).2 ∧ (if -2 < (fPart σ (fun b => rowS σ b R (od b)) a 0 s (gO σ n)).1 then mnC h' (σ 33 0) (nI V) (nI (O + 1)) (σ 46 0) ∧ pC h' (us (us σ 38 O (nI a)) 39 O (nI s)) (O + 1) else mnC h' (σ 33 0) (nI V) (nI O) (σ 46 0) ∧ pC h' σ O)
      | _, _ => v = some (vI (-1)) ∧ h' = H) → v = some (vI x) ∧ h' = H) → (∀ h v h', (match ix p V, ix s N with
      | some a, some s => if O = 4 then v = some (vI (-3)) ∧ h' = hM σ h else ∃ σ', RP σ σ' (fPart σ (fun b => rowS σ b R (od b)) a 0 s (gO σ n)).2 ∧ v = some (vI (fPart σ (fun b => rowS σ b R (od b)) a 0 s (gO σ n)).1) ∧ h' = hM (if -2 < (fPart σ (fun b => rowS σ b R (od b)) a 0 s (gO σ n)).1 then us (us (us σ' 38 O (nI a)) 39 O (nI s)) 37 0 (nI (O + 1)) else σ') h
      | _, _ => v = some (vI (-1)) ∧ h' = hM σ h) → v = some (vI x) ∧ h' = hM σ h) → PR mX_begin mM_begin 29 0 0 9 [vI p, vI s] c L xs H := by
    intro x h1 h2
    refine Con.mono cx (fun v h' q0 => ?_)
    obtain ⟨e1, e2⟩ := h1 v h' q0
    refine ⟨x, σ, h0, e1, e2.trans eH, by rw [e2]; exact hS, Con.mono (cm h0) (fun v' h'' q1 => ?_)⟩
    obtain ⟨e3, e4⟩ := h2 h0 v' h'' q1
    refine ⟨e3, ?_⟩
    rw [e4, ← eH]
    exact I0.up
  rcases iy_cases p (K := V) (by omega) with ⟨q1, -⟩ | ⟨a, ha, rfl, q1⟩
  · exact rd (-1) (fun v h' z => by rw [q1] at z; exact z) (fun h v h' z => by rw [q1] at z; exact z)
  · rcases iy_cases s (K := N) (by omega) with ⟨q2, -⟩ | ⟨s0, hs0, rfl, q2⟩
    · exact rd (-1) (fun v h' z => by rw [q1, q2] at z; exact z) (fun h v h' z => by rw [q1, q2] at z; exact z)
    · by_cases c4 : O = 4
      · exact rd (-3) (fun v h' z => by rw [q1, q2] at z; dsimp only at z; rw [if_pos c4] at z; exact z) (fun h v h' z => by rw [q1, q2] at z; dsimp only at z; rw [if_pos c4] at z; exact z)
      · clear rd
        have zb : zB N (fPart σ (fun b => rowS σ b R (od b)) a 0 s0 (gO σ n)).2 := fPart_zB X.2.2.2.1 G.2.2.1.1 hs0 G.mem G.2.2.2.2.2.2.1.1 ha (by omega) G.zB
        by_cases cA : -2 < (fPart σ (fun b => rowS σ b R (od b)) a 0 s0 (gO σ n)).1
        · have e : ∀ k i, (∀ z ∈ [37, 38, 39], k ≠ z) → us (us (us σ 38 O (nI a)) 39 O (nI s0)) 37 0 (nI (O + 1)) k i = σ k i := fun k i hk => by rw [us_k (hk 37 (by decide)), us_k (hk 39 (by decide)), us_k (hk 38 (by decide))]
          have hov : OV (us (us (us σ 38 O (nI a)) 39 O (nI s0)) 37 0 (nI (O + 1))) (O + 1) V N := by
            refine ⟨by omega, us_s, fun i z => ?_⟩
            by_cases c5 : i = O
            · subst c5
              exact ⟨⟨a, ha, by rw [us_k (by decide), us_k (by decide), us_s]⟩, s0, hs0, by rw [us_k (by decide), us_s]⟩
            · have := G.2.2.2.2.2.2.2.1.2.2 i (by omega)
              rw [us_k (k' := 38) (by decide), us_k (k' := 38) (by decide), us_j (k := 38) c5, us_k (k' := 39) (by decide), us_j (k := 39) c5, us_k (k' := 39) (by decide)]
              exact this
          have G1 : GI (us (us (us σ 38 O (nI a)) 39 O (nI s0)) 37 0 (nI (O + 1))) od K N B R A V (O + 1) NS P T n := ⟨(G.1.cg fun k i a => e k i (by simp <;> omega)), (G.2.1.cg fun k i a b => e k i (by simp <;> omega)), (G.2.2.1.cg fun k i a b => e k i (by simp <;> omega)), (G.2.2.2.1.cg fun k i a b => e k i (by simp <;> omega)), (G.2.2.2.2.1.cg fun k i a => e k i (by simp <;> omega)), (G.2.2.2.2.2.1.cg fun k i a b => e k i (by simp <;> omega)), (G.2.2.2.2.2.2.1.cg fun k i a b => e k i (by simp <;> omega)), hov, (G.2.2.2.2.2.2.2.2.1.cg fun k i a b => e k i (by simp <;> omega)), (G.2.2.2.2.2.2.2.2.2.1.cg fun k i a b => e k i (by simp <;> omega)), (G.2.2.2.2.2.2.2.2.2.2.cg fun i => e 29 i (by decide))⟩
          refine PR.rn (x := (fPart σ (fun b => rowS σ b R (od b)) a 0 s0 (gO σ n)).1) (g := (fPart σ (fun b => rowS σ b R (od b)) a 0 s0 (gO σ n)).2) hS eH G1 zb (by omega) (Con.mono cx (fun v h' q0 => ?_)) (fun h => Con.mono (cm h) (fun v h' q0 => ?_))
          · rw [q1, q2] at q0
            dsimp only at q0
            rw [if_neg c4, if_pos cA] at q0
            obtain ⟨e1, F, D1, M2, P2⟩ := q0
            have hp : pC h' (us (us (us σ 38 O (nI a)) 39 O (nI s0)) 37 0 (nI (O + 1))) (O + 1) := P2.fr (fT.ag (ts := []) fT.rf (by decide)) (fun j => us_k (by decide)) (fun j => us_k (by decide))
            have D2 : DY h' (us (us (us σ 38 O (nI a)) 39 O (nI s0)) 37 0 (nI (O + 1))) N (fPart σ (fun b => rowS σ b R (od b)) a 0 s0 (gO σ n)).2 := ⟨D1.1.fr (fT.ag (ts := []) fT.rf (by decide)) (fun j => e 3 j (by decide)), D1.2⟩
            exact ⟨e1, F.hi, (by have e35 := G.2.2.2.2.2.2.1.2; rw [e 33 0 (by decide), e 35 0 (by decide), e 46 0 (by decide), us_s, e35]; exact M2), (C.2.1.fr (F.ag (by decide)) (fun j => e 1 j (by decide))), (C.2.2.2.1.cg (F.ag (by decide)) G.2.2.2.1.1 G.2.2.2.2.1.1 (fun i => e 1 i (by decide)) (fun k i a b d => e k i (by simp <;> omega))), (C.2.2.2.2.1.fr (F.ag (by decide)) (fun j => e 34 j (by decide))), (C.2.2.2.2.2.1.fr (F.ag (by decide)) (fun j => e 36 j (by decide))), hp, (C.2.2.2.2.2.2.2.1.fr (F.ag (by decide)) (fun k j a b d => e k j (by simp <;> omega))), (C.2.2.2.2.2.2.2.2.1.fr (F.ag (by decide)) (fun j => e 51 j (by decide))), D2⟩
          · rw [q1, q2] at q0
            dsimp only at q0
            rw [if_neg c4] at q0
            simp only [if_pos cA] at q0
            obtain ⟨τ, y1, y2, y3⟩ := q0
            exact ⟨_, y3, y2, sr_us2 (sr_us2 (sr_us2 y1.1)), ((y1.2.1.us (by decide)).us (by decide)).us (by decide), y1.2.2⟩
        · have e : ∀ k i, (∀ z ∈ ([] : List Nat), k ≠ z) → σ k i = σ k i := fun _ _ _ => rfl
          refine PR.rn (x := (fPart σ (fun b => rowS σ b R (od b)) a 0 s0 (gO σ n)).1) (g := (fPart σ (fun b => rowS σ b R (od b)) a 0 s0 (gO σ n)).2) hS eH G zb (by omega) (Con.mono cx (fun v h' q0 => ?_)) (fun h => Con.mono (cm h) (fun v h' q0 => ?_))
          · rw [q1, q2] at q0
            dsimp only at q0
            rw [if_neg c4, if_neg cA] at q0
            obtain ⟨e1, F, D1, M2, P2⟩ := q0
            exact ⟨e1, F.hi, (by have e35 := G.2.2.2.2.2.2.1.2; have e37 := G.2.2.2.2.2.2.2.1.2.1; rw [e35, e37]; exact M2), (C.2.1.fr (F.ag (by decide)) (fun j => e 1 j (by decide))), (C.2.2.2.1.cg (F.ag (by decide)) G.2.2.2.1.1 G.2.2.2.2.1.1 (fun i => e 1 i (by decide)) (fun k i a b d => e k i (by simp <;> omega))), (C.2.2.2.2.1.fr (F.ag (by decide)) (fun j => e 34 j (by decide))), (C.2.2.2.2.2.1.fr (F.ag (by decide)) (fun j => e 36 j (by decide))), P2, (C.2.2.2.2.2.2.2.1.fr (F.ag (by decide)) (fun k j a b d => e k j (by simp <;> omega))), (C.2.2.2.2.2.2.2.2.1.fr (F.ag (by decide)) (fun j => e 51 j (by decide))), D1⟩
          · rw [q1, q2] at q0
            dsimp only at q0
            rw [if_neg c4] at q0
            simp only [if_neg cA] at q0
            obtain ⟨τ, y1, y2, y3⟩ := q0
            exact ⟨τ, y3, y2, y1⟩
