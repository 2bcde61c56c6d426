/-! what holds between two calls -/
def iK (σ : Sg) (K : Nat) : Prop := KP σ K ∧ σ 0 0 = nI K
def iS (σ : Sg) (N K : Nat) : Prop := SK σ N K ∧ σ 2 0 = nI N ∧ ∀ i, 4 * N ≤ i → σ 4 i = 0
def iB (σ : Sg) (B : Nat) : Prop := B ≤ 12 ∧ σ 5 0 = nI B ∧ BD σ B ∧ ∀ i, 4 * B ≤ i → σ 7 i = 0
def cdK (σ : Sg) (R K NS : Nat) : Prop := ∀ r, r < R → ∃ m, m ≤ 4 ∧ σ 13 r = nI m ∧ ∀ k, k < m → ∃ c x, c ≤ 16 ∧ bs c ≤ 6 ∧ (7 ≤ c → 10 ≤ c) ∧ σ 12 (12 * r + 3 * k) = nI c ∧ σ 12 (12 * r + 3 * k + 1) = nI x ∧ xOk (bs c) x K NS R
def iR (σ : Sg) (R K B NS : Nat) : Prop := RK σ R K ∧ σ 8 0 = nI R ∧ (∀ r, r < R → ∃ c, c < B ∧ σ 9 r = nI c) ∧ OP σ R ∧ DP σ R B ∧ (∀ r, R ≤ r → σ 13 r = 0) ∧ (∀ i, 3 * R ≤ i → σ 14 i = 0) ∧ cdK σ R K NS
def oOK (σ : Sg) (b R t : Nat) (O : List Nat) : Prop := (∀ r ∈ O, r < R ∧ cand σ b t r) ∧ (∀ r, r < R → cand σ b t r → r ∈ O) ∧ O.Pairwise (fun x y => nt (σ 17 x) < nt (σ 17 y))
theorem oOK.ord {σ : Sg} {b R : Nat} : ∀ {O : List Nat} {t : Nat}, oOK σ b R t O → ordL σ b R t O := by
  intro O
  induction O with
  | nil => intro t h1; exact fun r q1 q2 => by cases h1.2.1 r q1 q2
  | cons r O ih1 =>
    intro t h1
    obtain ⟨a1, a2, a3⟩ := h1
    rw [List.pairwise_cons] at a3
    refine ⟨⟨(a1 r List.mem_cons_self).1, (a1 r List.mem_cons_self).2, fun x q1 q2 => ?_⟩, ih1 ⟨fun x q1 => ?_, fun x q1 q2 => ?_, a3.2⟩⟩
    · rcases List.mem_cons.mp (a2 x q1 q2) with c1 | c1
      · rw [c1]; exact Nat.le_refl _
      · exact Nat.le_of_lt (a3.1 x c1)
    · obtain ⟨b1, b2, b3, b4⟩ := a1 x (List.mem_cons_of_mem _ q1)
      exact ⟨b1, b2, b3, a3.1 x q1⟩
    · have tr0 := (a1 r List.mem_cons_self).2.2.2
      rcases List.mem_cons.mp (a2 x q1 ⟨q2.1, q2.2.1, Nat.lt_trans tr0 q2.2.2⟩) with c1 | c1
      · have := q2.2.2
        rw [c1] at this
        omega
      · exact c1
theorem cand_c2 {σ τ : Sg} {b t r : Nat} (e : ∀ k, k = 9 ∨ k = 15 ∨ k = 17 → τ k r = σ k r) : cand τ b t r ↔ cand σ b t r := by
  unfold cand
  rw [e 9 (by omega), e 15 (by omega), e 17 (by omega)]
def iO (σ : Sg) (R T : Nat) (od : Nat → List Nat) : Prop := odK σ R od ∧ TP σ R ∧ TD σ R ∧ σ 18 0 = nI T ∧ (∀ r, r < R → ¬ σ 15 r = -4 → nt (σ 17 r) ≤ T) ∧ ∀ b, b < 12 → oOK σ b R 0 (od b)
def iA (σ : Sg) (A B : Nat) : Prop := SP σ A B ∧ σ 33 0 = nI A
def iV (σ : Sg) (V B : Nat) : Prop := VP σ V B ∧ σ 35 0 = nI V
def iN (σ : Sg) (NS N B : Nat) : Prop := NS ≤ 8 ∧ σ 40 0 = nI NS ∧ (∀ s, s < NS → σ 42 s = 0 ∨ σ 42 s = 1) ∧ AP σ (2 * NS) NS ∧ AQ σ (2 * NS) N ∧ CH σ (2 * NS) ∧ (∀ s, NS ≤ s → σ 42 s = 0 ∧ σ 43 s = 0) ∧ (∀ i, 2 * NS ≤ i → σ 44 i = 0 ∧ σ 45 i = 0) ∧ (σ 46 0 = -4 ∨ ∃ b, b < B ∧ σ 46 0 = nI b) ∧ ∃ E, E ≤ 16 ∧ σ 49 0 = nI E
def iF (σ : Sg) (P K : Nat) : Prop := PH σ P K ∧ PD σ P ∧ σ 50 0 = nI P
def iT (σ : Sg) (n : Nat) : Prop := σ 29 0 = nI n ∧ n ≤ 300
section CGs
variable {σ τ : Sg} {K N B R A V O NS P T n : Nat} {od : Nat → List Nat}
theorem iK.cg (I : iK σ K) (e : ∀ k i, k ≤ 1 → τ k i = σ k i) : iK τ K := by
  obtain ⟨⟨a1, a2, a3, a4⟩, a5⟩ := I
  exact ⟨⟨a1, a2, by rw [e 1 0 (by omega)]; exact a3, fun i h1 h2 => by rw [e 1 i (by omega)]; exact a4 i h1 h2⟩, by rw [e 0 0 (by omega)]; exact a5⟩
theorem iS.cg (I : iS σ N K) (e : ∀ k i, 2 ≤ k → k ≤ 4 → τ k i = σ k i) : iS τ N K := by
  obtain ⟨⟨a1, a2⟩, a3, a4⟩ := I
  exact ⟨⟨a1, fun s h1 => by rw [e 3 s (by omega) (by omega)]; exact a2 s h1⟩, by rw [e 2 0 (by omega) (by omega)]; exact a3, fun i h1 => by rw [e 4 i (by omega) (by omega)]; exact a4 i h1⟩
theorem iB.cg (I : iB σ B) (e : ∀ k i, 5 ≤ k → k ≤ 7 → τ k i = σ k i) : iB τ B := by
  obtain ⟨a1, a2, a3, a4⟩ := I
  exact ⟨a1, by rw [e 5 0 (by omega) (by omega)]; exact a2, fun b h1 => by rw [e 6 b (by omega) (by omega)]; exact a3 b h1, fun i h1 => by rw [e 7 i (by omega) (by omega)]; exact a4 i h1⟩
theorem RK.cg (L : RK σ R K) (e : ∀ k i, 10 ≤ k → k ≤ 13 → τ k i = σ k i) : RK τ R K := by
  refine ⟨L.1, fun r hr1 => ?_⟩
  have l1 := L.2 r hr1
  have u10 := fun i => e 10 i (by omega) (by omega)
  have u11 := fun i => e 11 i (by omega) (by omega)
  have u12 := fun i => e 12 i (by omega) (by omega)
  have u13 := fun i => e 13 i (by omega) (by omega)
  simp only [u10, u11, u12, u13]
  exact l1
theorem OP.cg (L : OP σ R) (e : ∀ k i, 15 ≤ k → k ≤ 16 → τ k i = σ k i) : OP τ R := by
  intro r hr1
  rw [e 15 r (by omega) (by omega), e 16 r (by omega) (by omega)]
  exact L r hr1
theorem DP.cg (L : DP σ R B) (e : ∀ i, τ 14 i = σ 14 i) : DP τ R B := by
  intro r hr1
  simp only [e]
  exact L r hr1
theorem cdK.cg (L : cdK σ R K NS) (e : ∀ k i, 12 ≤ k → k ≤ 13 → τ k i = σ k i) : cdK τ R K NS := by
  intro r hr1
  have u12 := fun i => e 12 i (by omega) (by omega)
  have u13 := fun i => e 13 i (by omega) (by omega)
  simp only [u12, u13]
  exact L r hr1
theorem iR.cg (I : iR σ R K B NS) (e : ∀ k i, 8 ≤ k → k ≤ 16 → τ k i = σ k i) : iR τ R K B NS := by
  obtain ⟨a1, a2, a3, a4, a5, a6, a7, a8⟩ := I
  exact ⟨a1.cg fun k i h1 h2 => e k i (by omega) (by omega), by rw [e 8 0 (by omega) (by omega)]; exact a2, fun r h1 => by rw [e 9 r (by omega) (by omega)]; exact a3 r h1, a4.cg fun k i h1 h2 => e k i (by omega) (by omega), a5.cg fun i => e 14 i (by omega) (by omega), fun r h1 => by rw [e 13 r (by omega) (by omega)]; exact a6 r h1, fun i h1 => by rw [e 14 i (by omega) (by omega)]; exact a7 i h1, a8.cg fun k i h1 h2 => e k i (by omega) (by omega)⟩
theorem oOK.cg {b t : Nat} {O : List Nat} (I : oOK σ b R t O) (e : ∀ k i, k = 9 ∨ k = 15 ∨ k = 17 → τ k i = σ k i) : oOK τ b R t O := by
  obtain ⟨a1, a2, a3⟩ := I
  refine ⟨fun r q1 => ⟨(a1 r q1).1, (cand_c2 fun k h1 => e k r h1).mpr (a1 r q1).2⟩, fun r q1 q2 => a2 r q1 ((cand_c2 fun k h1 => e k r h1).mp q2), a3.imp fun {x y} q => ?_⟩
  rw [e 17 x (by omega), e 17 y (by omega)]
  exact q
theorem odK.cg (I : odK σ R od) (e : ∀ k i, k = 9 ∨ k = 15 → τ k i = σ k i) : odK τ R od := fun b => ⟨fun r h1 => by rw [e 15 r (by omega), e 9 r (by omega)]; exact (I b).1 r h1, (I b).2⟩
theorem iO.cg (I : iO σ R T od) (e : ∀ k i, k = 9 ∨ k = 15 ∨ k = 17 ∨ k = 18 → τ k i = σ k i) : iO τ R T od := by
  obtain ⟨a1, a2, a3, a4, a5, a6⟩ := I
  refine ⟨a1.cg fun k i h1 => e k i (by omega), fun r h1 => ?_, fun r r' h1 h2 => ?_, by rw [e 18 0 (by omega)]; exact a4, fun r h1 => ?_, fun b h1 => (a6 b h1).cg (fun k i h1 => e k i (by omega))⟩
  · rw [e 15 r (by omega), e 17 r (by omega)]; exact a2 r h1
  · rw [e 15 r (by omega), e 17 r (by omega), e 15 r' (by omega), e 17 r' (by omega)]; exact a3 r r' h1 h2
  · rw [e 15 r (by omega), e 17 r (by omega)]; exact a5 r h1
theorem iA.cg (I : iA σ A B) (e : ∀ k i, 33 ≤ k → k ≤ 34 → τ k i = σ k i) : iA τ A B := by
  obtain ⟨⟨a1, a2⟩, a3⟩ := I
  exact ⟨⟨a1, fun a k h1 h2 => by rw [e 34 _ (by omega) (by omega)]; exact a2 a k h1 h2⟩, by rw [e 33 0 (by omega) (by omega)]; exact a3⟩
theorem iV.cg (I : iV σ V B) (e : ∀ k i, 35 ≤ k → k ≤ 36 → τ k i = σ k i) : iV τ V B := by
  obtain ⟨⟨a1, a2⟩, a3⟩ := I
  exact ⟨⟨a1, fun a k h1 h2 => by rw [e 36 _ (by omega) (by omega)]; exact a2 a k h1 h2⟩, by rw [e 35 0 (by omega) (by omega)]; exact a3⟩
theorem OV.cg (I : OV σ O V N) (e : ∀ k i, 37 ≤ k → k ≤ 39 → τ k i = σ k i) : OV τ O V N := by
  obtain ⟨a1, a2, a3⟩ := I
  exact ⟨a1, by rw [e 37 0 (by omega) (by omega)]; exact a2, fun i h1 => by rw [e 38 i (by omega) (by omega), e 39 i (by omega) (by omega)]; exact a3 i h1⟩
theorem AP.cg {Z : Nat} (I : AP σ Z NS) (e : ∀ k i, 44 ≤ k → k ≤ 45 → τ k i = σ k i) : AP τ Z NS := by
  refine ⟨I.1, I.2.1, fun a h1 => ?_⟩
  rw [e 44 a (by omega) (by omega), e 45 a (by omega) (by omega)]
  exact I.2.2 a h1
theorem CH.cg {Z : Nat} (I : CH σ Z) (e : ∀ k i, 44 ≤ k → k ≤ 45 → τ k i = σ k i) : CH τ Z := by
  obtain ⟨μ, m1, m2⟩ := I
  refine ⟨μ, m1, fun x x' h1 h2 => ?_⟩
  rw [e 44 x (by omega) (by omega), e 45 x (by omega) (by omega)] at h2
  exact m2 x x' h1 h2
theorem iN.cg (I : iN σ NS N B) (e : ∀ k i, 40 ≤ k → k ≤ 49 → τ k i = σ k i) : iN τ NS N B := by
  obtain ⟨a1, a2, a3, a4, a5, a6, a7, a8, a9, E, a10, a11⟩ := I
  refine ⟨a1, by rw [e 40 0 (by omega) (by omega)]; exact a2, fun s h1 => by rw [e 42 s (by omega) (by omega)]; exact a3 s h1, a4.cg fun k i h1 h2 => e k i (by omega) (by omega), fun a h1 => ?_, a6.cg fun k i h1 h2 => e k i (by omega) (by omega), fun s h1 => ?_, fun i h1 => ?_, by rw [e 46 0 (by omega) (by omega)]; exact a9, E, a10, by rw [e 49 0 (by omega) (by omega)]; exact a11⟩
  · rw [e 44 a (by omega) (by omega), e 45 a (by omega) (by omega)]; exact a5 a h1
  · rw [e 42 s (by omega) (by omega), e 43 s (by omega) (by omega)]; exact a7 s h1
  · rw [e 44 i (by omega) (by omega), e 45 i (by omega) (by omega)]; exact a8 i h1
theorem iF.cg (I : iF σ P K) (e : ∀ k i, 50 ≤ k → k ≤ 51 → τ k i = σ k i) : iF τ P K := by
  obtain ⟨⟨a1, a2⟩, a3, a4⟩ := I
  have u := fun i => e 51 i (by omega) (by omega)
  refine ⟨⟨a1, fun p h1 => ?_⟩, fun p q h1 h2 => ?_, by rw [e 50 0 (by omega) (by omega)]; exact a4⟩
  · rw [u, u]; exact a2 p h1
  · simp only [u]; exact a3 p q h1 h2
theorem iT.cg (I : iT σ n) (e : ∀ i, τ 29 i = σ 29 i) : iT τ n := ⟨by rw [e]; exact I.1, I.2⟩
end CGs
/-- the reference's side -/
def GI (σ : Sg) (od : Nat → List Nat) (K N B R A V O NS P T n : Nat) : Prop := iK σ K ∧ iS σ N K ∧ iB σ B ∧ iR σ R K B NS ∧ iO σ R T od ∧ iA σ A B ∧ iV σ V B ∧ OV σ O V N ∧ iN σ NS N B ∧ iF σ P K ∧ iT σ n
/-- the class's side -/
def KI (h : Hp) (σ : Sg) (od : Nat → List Nat) (K N B R A V O NS P n : Nat) : Prop := mnC h (σ 33 0) (σ 35 0) (σ 37 0) (σ 46 0) ∧ kC h σ K ∧ sC h σ (σ 4) N ∧ brC h σ B R od ∧ aC h σ A ∧ vC h σ V ∧ pC h σ O ∧ nC h σ NS ∧ fC h σ P ∧ tC h (σ 28) n ∧ uC h (σ 30 0) (σ 31 0) ∧ ∀ d, d < 6 → ∃ vr ap, oC h d vr ap
theorem dps_cg {σ τ : Sg} (e1 : ∀ i, τ 1 i = σ 1 i) (e12 : ∀ i, τ 12 i = σ 12 i) (r : Nat) : ∀ m, dps τ r m = dps σ r m := by
  intro m
  induction m with
  | zero => rfl
  | succ m ih1 =>
    unfold dps dp1
    rw [ih1, e12, e12, dpt_cg e1]
theorem ky_cgs {σ τ : Sg} (e1 : ∀ i, τ 1 i = σ 1 i) (e : ∀ k i, 10 ≤ k → k ≤ 13 → τ k i = σ k i) (r : Nat) : ky τ r = ky σ r := by
  unfold ky
  rw [e 10 r (by omega) (by omega), e 11 r (by omega) (by omega), e 13 r (by omega) (by omega), dps_cg e1 (fun i => e 12 i (by omega) (by omega))]
theorem RK.m4 {σ : Sg} {R K : Nat} (L : RK σ R K) {r : Nat} (hr : r < R) : nt (σ 13 r) ≤ 4 := by
  obtain ⟨-, -, m, a2, a3, -⟩ := L.2 r hr
  rw [a3, nt_nI (by omega)]
  exact a2
theorem brC.cg {h h' : Hp} {σ τ : Sg} {B R K : Nat} {od : Nat → List Nat} (I : brC h σ B R od) (F : agT 16 31 h h') (L : RK σ R K) (hod : odK σ R od) (e1 : ∀ i, τ 1 i = σ 1 i) (e : ∀ k i, 6 ≤ k → k ≤ 16 → k ≠ 8 → τ k i = σ k i) : brC h' τ B R od :=
  I.fr (F.s (by decide) (by decide)) (fun j => e 6 j (by omega) (by omega) (by omega)) (fun j => e 7 j (by omega) (by omega) (by omega)) (fun r _ => e 9 r (by omega) (by omega) (by omega)) (fun r _ => ky_cgs e1 (fun k i a b => e k i (by omega) (by omega) (by omega)) r) (fun r _ => ⟨e 15 r (by omega) (by omega) (by omega), e 16 r (by omega) (by omega) (by omega)⟩) (fun b r q1 => ((hod b).1 r q1).1)
    (I.2.fr (fun r q1 => L.m4 q1) (F.s (by decide) (by decide)) (fun r _ => ⟨e 9 r (by omega) (by omega) (by omega), e 10 r (by omega) (by omega) (by omega), e 11 r (by omega) (by omega) (by omega), e 13 r (by omega) (by omega) (by omega), e 15 r (by omega) (by omega) (by omega), e 16 r (by omega) (by omega) (by omega), fun i _ => e 14 _ (by omega) (by omega) (by omega), fun i _ => e 12 _ (by omega) (by omega) (by omega)⟩) (fun r _ => dps_cg e1 (fun i => e 12 i (by omega) (by omega) (by omega)) r _))
theorem hM_ag {σ : Sg} {h : Hp} {lo hi : Nat} (h1 : Nat.blt hi 100 = true) : agT lo hi h (hM σ h) := fun n _ h3 => hM_x (fun q => by have e1 : n.1 = 100 := (by rw [q]); have e2 := Nat.le_of_ble_eq_true h1; omega) (fun q => by have e2 := Nat.le_of_ble_eq_true h1; omega)
theorem hM_stay {σ : Sg} {h0 H h' : Hp} (eH : H = hM σ h0) (F : ∀ n, 100 ≤ n.1 → h' n = H n) : h' = hM σ h' := by
  funext n
  unfold hM
  by_cases c1 : n = (100, 0, 0)
  · rw [if_pos c1, F n (by rw [c1]; decide), eH, c1]
    exact hM_o
  · rw [if_neg c1]
    by_cases c2 : n.1 = 101 ∧ n.2.2 = 0 ∧ mArr n.2.1 = true
    · rw [if_pos c2, F n (by rw [c2.1]; decide), eH]
      unfold hM
      rw [if_neg c1, if_pos c2]
    · rw [if_neg c2]
theorem KI.hM {h : Hp} {σ τ : Sg} {od : Nat → List Nat} {K N B R A V O NS P n K0 : Nat} (I : KI h σ od K N B R A V O NS P n) (L : RK σ R K0) (hod : odK σ R od) : KI (hM τ h) σ od K N B R A V O NS P n := by
  obtain ⟨c1, c2, c3, c4, c5, c6, c7, c8, c9, c10, c11, c12⟩ := I
  refine ⟨c1.fr (hM_ag rfl), c2.fr (hM_ag rfl) (fun _ => rfl), c3.fr (hM_ag rfl) (fun _ => rfl), c4.cg (hM_ag rfl) L hod (fun _ => rfl) (fun _ _ _ _ _ => rfl), c5.fr (hM_ag rfl) (fun _ => rfl), c6.fr (hM_ag rfl) (fun _ => rfl), c7.fr (hM_ag rfl) (fun _ => rfl) (fun _ => rfl), c8.fr (hM_ag rfl) (fun _ _ _ _ _ => rfl), c9.fr (hM_ag rfl) (fun _ => rfl), c10.fr (hM_ag rfl), c11.fr (hM_ag rfl), fun d q1 => ?_⟩
  obtain ⟨vr, ap, o1⟩ := c12 d q1
  exact ⟨vr, ap, o1.fr (hM_ag (lo := 45) (hi := 46) rfl _ (show (45 : Nat) ≤ 45 by decide) (show (45 : Nat) ≤ 46 by decide)) (hM_ag (lo := 45) (hi := 46) rfl _ (show (45 : Nat) ≤ 46 by decide) (show (46 : Nat) ≤ 46 by decide))⟩
theorem GI.cp {σ : Sg} {R K NS : Nat} (h1 : NS ≤ 8) (h2 : R ≤ 60) (h3 : ∀ s, s < NS → σ 42 s = 0 ∨ σ 42 s = 1) (h4 : cdK σ R K NS) : CP σ R K NS := ⟨h1, h2, h3, h4⟩
theorem GI.rn {σ : Sg} {od : Nat → List Nat} {K N B R A V O NS P T n : Nat} (G : GI σ od K N B R A V O NS P T n) : RN σ (fun b => rowS σ b R (od b)) R K N NS B := by
  obtain ⟨g1, g2, g3, g4, g5, g6, g7, g8, g9, g10, g11⟩ := G
  have hB := g3.1
  refine ⟨⟨g1.1, g4.1, g4.2.1, g5.2.1, g5.2.2.1, g4.2.2.2.1, fun r h1 => ?_⟩, g2.1, ⟨g9.1, g4.1.1, g9.2.2.1, g4.2.2.2.2.2.2.2⟩, g4.2.2.2.2.1, g3.1, fun b h1 => ⟨od b, (g5.2.2.2.2.2 b (by omega)).ord, rfl⟩⟩
  obtain ⟨c, q1, q2⟩ := g4.2.2.1 r h1
  exact ⟨c, by omega, q2⟩
theorem GI.st {h : Hp} {σ : Sg} {od : Nat → List Nat} {K N B R A V O NS P T n : Nat} (G : GI σ od K N B R A V O NS P T n) (C : KI h σ od K N B R A V O NS P n) : ST h σ (fun b => ownL σ b R) od (fun b => rowS σ b R (od b)) K N NS B R := by
  have X := G.rn
  have hR := X.1.2.1.1
  exact ⟨C.2.1, C.2.2.2.1.1, C.2.2.2.1.2, C.2.2.2.2.2.2.2.1, X.1.1, X.2.1, X.2.2.1, X.2.2.2.1, X.2.2.2.2.1, fun b h1 => ⟨(X.mem h1).1, Nat.le_trans (X.mem h1).2 hR⟩⟩
def gO (σ : Sg) (n : Nat) : Gs := (σ 4, σ 28, n, σ 30 0, σ 31 0)
theorem GI.gr {σ : Sg} {od : Nat → List Nat} {K N B R A V O NS P T n : Nat} (G : GI σ od K N B R A V O NS P T n) : gR σ (gO σ n) := ⟨fun _ => rfl, fun _ => rfl, G.2.2.2.2.2.2.2.2.2.2.1, rfl, rfl⟩
theorem KI.dy {h : Hp} {σ : Sg} {od : Nat → List Nat} {K N B R A V O NS P n : Nat} (C : KI h σ od K N B R A V O NS P n) (hn : n ≤ 300) : DY h σ N (gO σ n) := ⟨C.2.2.1, C.2.2.2.2.2.2.2.2.2.1, C.2.2.2.2.2.2.2.2.2.2.1, C.2.2.2.2.2.2.2.2.2.2.2, hn⟩
/-- between two calls: T calls so far at most -/
def LI (c : Nat) (L : Nat) (xs : Nat → Int32) (H : Hp) : Prop := ∃ (σ : Sg) (od : Nat → List Nat) (K N B R A V O NS P T n : Nat) (h0 : Hp), H = hM σ h0 ∧ KI H σ od K N B R A V O NS P n ∧ GI σ od K N B R A V O NS P T n ∧ T ≤ c ∧ H (0, 0, 0) = some (29, L, fun j => vI (xs j))
/-- a call of both sides -/
def PR (mX mM : MD) (lx cx sx lm : Nat) (as : List PV) (c L : Nat) (xs : Nat → Int32) (H : Hp) : Prop := Con mX lx cx sx (vR (10, 0, 0) :: as) H (fun v h' => ∃ x σ h0, v = some (vI x) ∧ h' = hM σ h0 ∧ h' (0, 0, 0) = some (29, L, fun j => vI (xs j)) ∧ Con mM lm 0 0 (vR (100, 0, 0) :: as) (hM σ h0) (fun v' h'' => v' = some (vI x) ∧ LI (c + 1) L xs h''))
section MO
variable {σ τ : Sg} {K K' N N' B B' R A V V' O NS NS' P T n : Nat} {od : Nat → List Nat}
theorem iS.mo (I : iS σ N K) (h1 : K ≤ K') : iS σ N K' := ⟨⟨I.1.1, fun s q1 => by obtain ⟨k, a, b⟩ := I.1.2 s q1; exact ⟨k, by omega, b⟩⟩, I.2⟩
theorem xOk.mo {c x : Nat} (h1 : K ≤ K') (h2 : NS ≤ NS') (I : xOk c x K NS R) : xOk c x K' NS' R := by
  unfold xOk at *
  split at I <;> first | exact I | omega
theorem iR.mo (I : iR σ R K B NS) (h1 : K ≤ K') (h2 : B ≤ B') (h3 : NS ≤ NS') : iR σ R K' B' NS' := by
  obtain ⟨a1, a2, a3, a4, a5, a6, a7, a8⟩ := I
  refine ⟨⟨a1.1, fun r q1 => ?_⟩, a2, fun r q1 => ?_, a4, fun r q1 => ?_, a6, a7, fun r q1 => ?_⟩
  · obtain ⟨b1, b2, m, b3, b4, b5⟩ := a1.2 r q1
    exact ⟨b1, b2, m, b3, b4, fun k q2 q3 => by obtain ⟨x, y1, y2⟩ := b5 k q2 q3; exact ⟨x, by omega, y2⟩⟩
  · obtain ⟨c, b1, b2⟩ := a3 r q1
    exact ⟨c, by omega, b2⟩
  · obtain ⟨c, b1, b2, b3, b4, b5, b6⟩ := a5 r q1
    exact ⟨c, b1, b2, b3, b4, b5, fun q2 => by obtain ⟨x, y1, y2⟩ := b6 q2; exact ⟨x, by omega, y2⟩⟩
  · obtain ⟨m, b1, b2, b3⟩ := a8 r q1
    refine ⟨m, b1, b2, fun k q2 => ?_⟩
    obtain ⟨c, x, d1, d2, d3, d4, d5, d6⟩ := b3 k q2
    exact ⟨c, x, d1, d2, d3, d4, d5, d6.mo h1 h3⟩
theorem iA.mo (I : iA σ A B) (h1 : B ≤ B') : iA σ A B' := ⟨⟨I.1.1, fun a k q1 q2 => (I.1.2 a k q1 q2).imp id fun ⟨b, x, y⟩ => ⟨b, by omega, y⟩⟩, I.2⟩
theorem iV.mo (I : iV σ V B) (h1 : B ≤ B') : iV σ V B' := ⟨⟨I.1.1, fun a k q1 q2 => (I.1.2 a k q1 q2).imp id fun ⟨b, x, y⟩ => ⟨b, by omega, y⟩⟩, I.2⟩
theorem OV.mo (I : OV σ O V N) (h1 : V ≤ V') (h2 : N ≤ N') : OV σ O V' N' := ⟨I.1, I.2.1, fun i q1 => by obtain ⟨⟨a, x, y⟩, s, z, w⟩ := I.2.2 i q1; exact ⟨⟨a, by omega, y⟩, s, by omega, w⟩⟩
theorem iN.mo (I : iN σ NS N B) (h1 : N ≤ N') (h2 : B ≤ B') : iN σ NS N' B' := by
  obtain ⟨a1, a2, a3, a4, a5, a6, a7, a8, a9, a10⟩ := I
  exact ⟨a1, a2, a3, a4, fun a q1 q2 => by obtain ⟨x, y, z⟩ := a5 a q1 q2; exact ⟨x, by omega, z⟩, a6, a7, a8, a9.imp id fun ⟨b, x, y⟩ => ⟨b, by omega, y⟩, a10⟩
theorem iF.mo (I : iF σ P K) (h1 : K ≤ K') : iF σ P K' := ⟨⟨I.1.1, fun p q1 => by obtain ⟨⟨a, x, y⟩, b, z, w⟩ := I.1.2 p q1; exact ⟨⟨a, by omega, y⟩, b, by omega, w⟩⟩, I.2⟩
end MO
theorem oK {h h' : Hp} {ts : List Nat} (h1 : ∀ d, d < 6 → ∃ vr ap, oC h d vr ap) (F : fT ts h h') (a : 45 ∉ ts := by decide) (b : 46 ∉ ts := by decide) : ∀ d, d < 6 → ∃ vr ap, oC h' d vr ap := fun d q1 => by
  obtain ⟨vr, ap, o1⟩ := h1 d q1
  exact ⟨vr, ap, o1.fr (F _ a) (F _ b)⟩
theorem LI.up {c L : Nat} {xs : Nat → Int32} {H : Hp} (I : LI c L xs H) : LI (c + 1) L xs H := by
  obtain ⟨σ, od, K, N, B, R, A, V, O, NS, P, T, n, h0, eH, C, G, hT, hS⟩ := I
  exact ⟨σ, od, K, N, B, R, A, V, O, NS, P, T, n, h0, eH, C, G, by omega, hS⟩
theorem PR.ro {mX mM : MD} {lx lm : Nat} {as : List PV} {c L : Nat} {xs : Nat → Int32} {H h0 : Hp} {σ : Sg} {x : Int32} (I : LI c L xs H) (hS : H (0, 0, 0) = some (29, L, fun j => vI (xs j))) (eH : H = hM σ h0) (h1 : ConF mX lx (vR (10, 0, 0) :: as) H (some (vI x)) H) (h2 : ConF mM lm (vR (100, 0, 0) :: as) (hM σ h0) (some (vI x)) (hM σ h0)) : PR mX mM lx 0 0 lm as c L xs H := by
  refine Con.mono h1 (fun v h' q0 => ?_)
  obtain ⟨e1, e2⟩ := q0
  refine ⟨x, σ, h0, e1, e2.trans eH, by rw [e2]; exact hS, Con.mono h2 (fun v' h'' q1 => ?_)⟩
  refine ⟨q1.1, ?_⟩
  rw [q1.2, ← eH]
  exact I.up
theorem PR.mk {mX mM : MD} {lx cx sx lm : Nat} {as : List PV} {c L : Nat} {xs : Nat → Int32} {H h0 : Hp} {σ τ : Sg} {x : Int32} (hS : H (0, 0, 0) = some (29, L, fun j => vI (xs j))) (eH : H = hM σ h0)
    (h1 : Con mX lx cx sx (vR (10, 0, 0) :: as) H (fun v h' => v = some (vI x) ∧ (∀ n, 100 ≤ n.1 ∨ n.1 = 0 → h' n = H n) ∧ ∃ (od : Nat → List Nat) (K N B R A V O NS P T n : Nat), KI h' τ od K N B R A V O NS P n ∧ GI τ od K N B R A V O NS P T n ∧ T ≤ c + 1)) (h2 : ∀ h, ConF mM lm (vR (100, 0, 0) :: as) (hM σ h) (some (vI x)) (hM τ h)) : PR mX mM lx cx sx lm as c L xs H := by
  refine Con.mono h1 (fun v h' q0 => ?_)
  obtain ⟨e1, F, od, K, N, B, R, A, V, O, NS, P, T, n, C, G, hT⟩ := q0
  have e2 : h' = hM σ h' := hM_stay eH (fun n q1 => F n (Or.inl q1))
  have e3 : h' (0, 0, 0) = some (29, L, fun j => vI (xs j)) := (F _ (Or.inr rfl)).trans hS
  refine ⟨x, σ, h', e1, e2, e3, Con.mono (h2 h') (fun v' h'' q1 => ⟨q1.1, ?_⟩)⟩
  rw [q1.2]
  exact ⟨τ, od, K, N, B, R, A, V, O, NS, P, T, n, h', rfl, C.hM G.2.2.2.1.1 G.2.2.2.2.1.1, G, hT, by rw [hM_ag (lo := 0) (hi := 0) rfl _ (Nat.le_refl _) (Nat.le_refl _)]; exact e3⟩
theorem fT.hi {ts : List Nat} {h h' : Hp} (F : fT ts h h') (h1 : ∀ t ∈ ts, 0 < t ∧ t < 100 := by decide) : ∀ n : Nm, 100 ≤ n.1 ∨ n.1 = 0 → h' n = h n := fun n q1 => F n fun q2 => by
  have := h1 _ q2
  omega
