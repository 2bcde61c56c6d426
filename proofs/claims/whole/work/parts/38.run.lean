/-! run, act, begin, middle, finish -/
/-- the fields that the rows and runs read -/
def qk (k : Nat) : Bool := decide (k = 1 ∨ k = 3 ∨ (6 ≤ k ∧ k ≤ 17) ∨ k = 34 ∨ k = 36)
def sq (σ σ' : Sg) : Prop := ∀ k j, qk k = true → σ' k j = σ k j
theorem sq.us {σ σ' : Sg} {k j : Nat} {x : Int32} (h1 : sq σ σ') (hk1 : qk k = false) : sq σ (us σ' k j x) := fun k' j' q1 => by
  have c1 : k' ≠ k := fun z1 => by rw [z1, hk1] at q1; cases q1
  rw [us_k c1]
  exact h1 k' j' q1
theorem sq.rf {σ : Sg} : sq σ σ := fun _ _ _ => rfl
theorem sq.tr {a b c : Sg} (h1 : sq a b) (h2 : sq b c) : sq a c := fun k j q1 => (h2 k j q1).trans (h1 k j q1)
theorem sr.q {σ σ' : Sg} (h1 : sr σ σ') : sq σ σ' := fun k j q1 => h1 k j (by
  simp only [qk, decide_eq_true_eq] at q1
  simp only [rk, Bool.or_eq_false_iff, decide_eq_false_iff_not, Bool.and_eq_false_iff]
  omega)
theorem KP.sq {σ σ' : Sg} {K : Nat} (c1 : sq σ σ') (P : KP σ K) : KP σ' K := by
  obtain ⟨p1, p2, p3, p4⟩ := P
  exact ⟨p1, p2, by rw [c1 1 0 rfl]; exact p3, fun i a b => by rw [c1 1 i rfl]; exact p4 i a b⟩
theorem RK.sq {σ σ' : Sg} {R K : Nat} (c1 : sq σ σ') (P : RK σ R K) : RK σ' R K := by
  refine ⟨P.1, fun r hr1 => ?_⟩
  have l1 := P.2 r hr1
  simp only [c1 10 _ rfl, c1 11 _ rfl, c1 12 _ rfl, c1 13 _ rfl]
  exact l1
theorem TP.sq {σ σ' : Sg} {R : Nat} (c1 : sq σ σ') (P : TP σ R) : TP σ' R := by
  intro r hr1
  rw [c1 15 _ rfl, c1 17 _ rfl]
  exact P r hr1
theorem TD.sq {σ σ' : Sg} {R : Nat} (c1 : sq σ σ') (P : TD σ R) : TD σ' R := by
  intro r r' h1 h2
  rw [c1 15 _ rfl, c1 15 _ rfl, c1 17 _ rfl, c1 17 _ rfl]
  exact P r r' h1 h2
theorem OP.sq {σ σ' : Sg} {R : Nat} (c1 : sq σ σ') (P : OP σ R) : OP σ' R := by
  intro r hr1
  rw [c1 15 _ rfl, c1 16 _ rfl]
  exact P r hr1
theorem RW.sq {σ σ' : Sg} {R K : Nat} (c1 : sq σ σ') (P : RW σ R K) : RW σ' R K := by
  obtain ⟨p1, p2, p3, p4, p5, p6, p7⟩ := P
  refine ⟨p1.sq c1, p2.sq c1, by rw [c1 8 0 rfl]; exact p3, p4.sq c1, p5.sq c1, p6.sq c1, fun r hr1 => by rw [c1 9 r rfl]; exact p7 r hr1⟩
theorem SK.sq {σ σ' : Sg} {N K : Nat} (c1 : sq σ σ') (P : SK σ N K) : SK σ' N K := ⟨P.1, fun s hs1 => by rw [c1 3 s rfl]; exact P.2 s hs1⟩
theorem CP.sq {σ σ' : Sg} {R K NS : Nat} (c1 : sq σ σ') (c42 : ∀ x, x < NS → σ' 42 x = 0 ∨ σ' 42 x = 1) (P : CP σ R K NS) : CP σ' R K NS := by
  obtain ⟨p1, p2, p3, p4⟩ := P
  refine ⟨p1, p2, c42, fun r hr1 => ?_⟩
  have l1 := p4 r hr1
  simp only [c1 12 _ rfl, c1 13 _ rfl]
  exact l1
theorem best_sq {σ σ' : Sg} {b t k : Nat} {o : Option Nat} (c1 : sq σ σ') (hb1 : best σ b t k o) : best σ' b t k o := by
  have c2 : ∀ r, cand σ' b t r ↔ cand σ b t r := fun r => by unfold cand; rw [c1 9 _ rfl, c1 15 _ rfl, c1 17 _ rfl]
  cases o with
  | none => exact fun r hr1 z1 => hb1 r hr1 ((c2 r).mp z1)
  | some r0 =>
    refine ⟨hb1.1, (c2 r0).mpr hb1.2.1, fun r hr1 z1 => ?_⟩
    have e1 := hb1.2.2 r hr1 ((c2 r).mp z1)
    rwa [c1 17 _ rfl, c1 17 _ rfl]
theorem ordL_sq {σ σ' : Sg} {b R : Nat} (c1 : sq σ σ') : ∀ {O : List Nat} {t : Nat}, ordL σ b R t O → ordL σ' b R t O := by
  intro O
  induction O with
  | nil => intro t h1; exact best_sq c1 h1
  | cons r O ih1 =>
    intro t h1
    refine ⟨best_sq c1 h1.1, ?_⟩
    rw [c1 17 _ rfl]
    exact ih1 h1.2
theorem ky_sq {σ σ' : Sg} (c1 : sq σ σ') (r : Nat) : ky σ' r = ky σ r := by
  have d1 : ∀ k, dp1 σ' r k = dp1 σ r k := fun k => by
    unfold dp1
    rw [c1 12 _ rfl, c1 12 _ rfl, dpt_cg (fun j => c1 1 j rfl)]
  have d2 : ∀ m, dps σ' r m = dps σ r m := fun m => by
    induction m with
    | zero => rfl
    | succ m ih1 => simp only [dps, ih1, d1]
  unfold ky
  rw [c1 10 _ rfl, c1 11 _ rfl, c1 13 _ rfl, d2]
theorem srt_sq {σ σ' : Sg} (c1 : sq σ σ') {b : Nat} : ∀ k, srt σ' b k = srt σ b k := by
  have a1 : ∀ x r, ahd σ' x r = ahd σ x r := fun x r => by unfold ahd; rw [ky_sq c1, ky_sq c1]
  intro k
  induction k with
  | zero => rfl
  | succ k ih1 =>
    have i1 : ∀ l, insR σ' k l = insR σ k l := fun l => by unfold insR; simp only [a1]
    simp only [srt, ih1, i1, c1 9 k rfl]
theorem rowS_sq {σ σ' : Sg} (c1 : sq σ σ') {b R : Nat} {O : List Nat} : rowS σ' b R O = rowS σ b R O := by
  have m1 : (fun (l : List Nat) (r : Nat) => mvS σ' r l) = fun (l : List Nat) (r : Nat) => mvS σ r l := by
    funext l r
    unfold mvS
    rw [c1 15 _ rfl, c1 16 _ rfl]
  unfold rowS
  rw [m1, srt_sq c1]
theorem apP_sq {σ σ' : Sg} (c1 : sq σ σ') (c42 : ∀ x, σ' 42 x = σ 42 x) {r s : Nat} {v vr : Nat → Int32} {ap : Nat → Bool} : ∀ k, apP σ' r s v vr ap k = apP σ r s v vr ap k := by
  have s1 : ∀ c x y, soP σ' c x y s v vr ap = soP σ c x y s v vr ap := fun c x y => by
    unfold soP
    rw [c1 3 _ rfl, c42]
    simp only [und_cg (fun j => c1 1 j rfl)]
  intro k
  induction k with
  | zero => rfl
  | succ k ih1 => simp only [apP, ih1, cnP, cCd, cXx, cYy, s1, c1 12 _ rfl]
theorem goL_sq {sub : Nat → Nat → Gs → Gs × Int32} {σ σ' : Sg} (c1 : sq σ σ') (c42 : ∀ x, σ' 42 x = σ 42 x) {s d : Nat} : ∀ (l : List Nat) (g : Gs) (vr : Nat → Int32) (ap : Nat → Bool), goL sub σ' s d l g vr ap = goL sub σ s d l g vr ap := by
  intro l
  induction l with
  | nil => intro g vr ap; rfl
  | cons r l ih1 =>
    intro g vr ap
    simp only [goL, dC, dX, dY, c1 13 _ rfl, c1 14 _ rfl, apP_sq c1 c42, ih1]
theorem runS_sq {σ σ' : Sg} (c1 : sq σ σ') (c42 : ∀ x, σ' 42 x = σ 42 x) {rw0 : Nat → List Nat} {s : Nat} : ∀ n, runS σ' rw0 s n = runS σ rw0 s n := by
  intro n
  induction n with
  | zero => rfl
  | succ n ih1 =>
    funext r b g
    simp only [runS, ih1, c1 7 _ rfl, goL_sq c1 c42]
theorem runS_sr {σ σ' : Sg} (c1 : sr σ σ') {rw0 : Nat → List Nat} {s : Nat} (n : Nat) : runS σ' rw0 s n = runS σ rw0 s n := runS_sq c1.q (fun x => c1 42 x rfl) n
theorem RN.sq {σ σ' : Sg} {rw0 : Nat → List Nat} {R K N NS B : Nat} (c1 : sq σ σ') (c42 : ∀ x, x < NS → σ' 42 x = 0 ∨ σ' 42 x = 1) (X : RN σ rw0 R K N NS B) : RN σ' rw0 R K N NS B := by
  obtain ⟨x1, x2, x3, x4, x5, x6⟩ := X
  refine ⟨x1.sq c1, x2.sq c1, x3.sq c1 c42, fun r hr1 => by simp only [c1 14 _ rfl]; exact x4 r hr1, x5, fun b hb1 => ?_⟩
  obtain ⟨O, h1, h2⟩ := x6 b hb1
  exact ⟨O, ordL_sq c1 h1, by rw [rowS_sq c1]; exact h2⟩
theorem RN.sr {σ σ' : Sg} {rw0 : Nat → List Nat} {R K N NS B : Nat} (c1 : sr σ σ') (X : RN σ rw0 R K N NS B) : RN σ' rw0 R K N NS B := by
  obtain ⟨x1, x2, x3, x4, x5, x6⟩ := X
  refine ⟨x1.sr c1, x2.sr c1, x3.sr c1, x4.sr c1, x5, fun b hb1 => ?_⟩
  obtain ⟨O, h1, h2⟩ := x6 b hb1
  exact ⟨O, ordL_sr c1 h1, by rw [rowS_sr c1]; exact h2⟩
def gf (g : Gs) : Gs := (gv g, gt g, 0, 0, gs g)
def RP (σ σ' : Sg) (g : Gs) : Prop := sr σ σ' ∧ gR σ' g ∧ gn g ≤ 300
theorem l_M_top {σ : Sg} {h : Hp} {rw0 : Nat → List Nat} {R K N NS B s b : Nat} {g : Gs} {F : Gs × Int32} {Q : Option PV → Hp → Prop} (X : RN σ rw0 R K N NS B) (hs : s < N) (hb : b < B) (hg : gR σ g) (hn : gn g ≤ 300) (h0 : ge g = 0) (h32 : σ 32 0 = 0) (h21 : σ 21 0 = 0) (hF : runS σ rw0 s 6 0 b g = F)
    (kk : ∀ σ' o, (ge F.1 = 0 → o = F.2) → RP σ σ' F.1 → σ' 32 0 = 0 → Q (some (vI o)) (hM σ' h)) :
    S mM_runs 6 0 0 Q 27 [some (vR (100, 0, 0)), some (vI (nI b)), some (vI (nI s)), none, none, none, none] [] (hM σ h) 0 0 := by
  obtain ⟨O, h1, h2⟩ := X.2.2.2.2.2 b hb
  have hB := X.2.2.2.2.1
  have hm1 := X.mem hb
  have hR60 := X.1.2.1.1
  refine s_aload_n dM_runs_27 rfl rfl ?_
  refine s_iload_n dM_runs_28 rfl rfl ?_
  refine s_iconst (v := 0) dM_runs_29 (by decide) ?_
  refine s_callV (As := [_, _]) dM_runs_30 cv_M_197 hM_o (c_M_pushes (d := 0) X.1 (by omega) h1 (by omega) h21 (Or.inl rfl)) rfl rfl rfl rfl (fun v h' q => ?_)
  obtain ⟨rfl, σ2, rfl, U⟩ := q
  rw [← h2] at U
  have I3 := U.iv sr.rf hg h0 hn (by omega)
  have e32 : σ2 32 0 = 0 := (U.1 32 0 (by decide)).trans h32
  refine s_iconst (v := 0) dM_runs_33 (by decide) ?_
  refine s_istore_n dM_runs_34 rfl rfl ?_
  refine l_M_runs X hs 5 0 σ2 F (by omega) ?_ ?_ (rw0 b) 0 σ2 g _ _ _ _ _ I3 hm1.1 hF
  · intro σ' a1 a2 a3 a4 a5
    exact kk σ' 0 (fun z1 => absurd z1 a3) ⟨a1, a2, a4⟩ (a5.trans e32)
  · intro σ' o5 o6 a1 a2 a3 a4 a5 a6 a7 a8
    refine s_aload_n dM_runs_71 rfl rfl ?_
    refine s_mgi dM_runs_72 gf_M_184 rfl ?_
    refine s_top a6 ?_
    refine s_iconst (v := 1) dM_runs_75 (by decide) ?_
    refine s_icmp_le dM_runs_76 (fun _ => ?_) (fun q => absurd (by exact Int32.le_refl 1) q)
    refine s_iload_n dM_runs_93 rfl rfl ?_
    refine s_istore_n dM_runs_94 rfl rfl ?_
    refine s_aload_n dM_runs_95 rfl rfl ?_
    refine s_dup dM_runs_96 rfl ?_
    refine s_mgi dM_runs_97 gf_M_184 rfl ?_
    refine s_top a6 ?_
    refine s_iconst (v := nI 1) dM_runs_100 (by decide) ?_
    first | refine s_isubN dM_runs_101 (by omega) ?_ | refine s_isub dM_runs_101 ?_
    refine s_mpi dM_runs_102 gf_M_184 rfl rfl (by first | exact ⟨_, rfl⟩ | exact Or.inl rfl | exact Or.inr rfl) ?_
    refine s_goto dM_runs_105 ?_
    refine s_aload_n dM_runs_35 rfl rfl ?_
    refine s_mgi dM_runs_36 gf_M_184 rfl ?_
    refine s_top us_s ?_
    refine s_if_le dM_runs_39 (fun _ => ?_) (fun q => absurd (by exact Int32.le_refl 0) q)
    refine s_iload_n dM_runs_272 rfl rfl ?_
    refine s_iret dM_runs_273 rfl (by first | exact Nat.le_refl _ | decide | omega) (by first | exact Nat.le_refl _ | decide | omega) ?_
    refine kk _ F.2 (fun _ => rfl) ⟨a1.us rfl, ⟨fun i => ?_, fun i => ?_, ?_, ?_, ?_⟩, a4⟩ ?_
    · rw [us_k (by decide)]; exact a2.1 i
    · rw [us_k (by decide)]; exact a2.2.1 i
    · rw [us_k (by decide)]; exact a2.2.2.1
    · rw [us_k (by decide)]; exact a2.2.2.2.1
    · rw [us_k (by decide)]; exact a2.2.2.2.2
    · rw [us_k (by decide)]; exact a8.trans e32
theorem c_M_runs1 {σ : Sg} {h : Hp} {rw0 : Nat → List Nat} {R K N NS B s b : Nat} {g : Gs} (X : RN σ rw0 R K N NS B) (hs : s < N) (hb : b < B) (hg : gR σ g) (h32 : σ 32 0 = 1) :
    Con mM_runs 6 0 0 [vR (100, 0, 0), vI (nI b), vI (nI s)] (hM σ h) (fun v h' => ∃ σ' o, h' = hM σ' h ∧ v = some (vI o) ∧ (ge (runS σ rw0 s 6 0 b (gf g)).1 = 0 → o = (runS σ rw0 s 6 0 b (gf g)).2) ∧ RP σ σ' (runS σ rw0 s 6 0 b (gf g)).1 ∧ σ' 32 0 = 0) := by
  have c1 : sr σ (us (us (us (us σ 29 0 0) 30 0 0) 32 0 0) 21 0 0) := (((sr.rf.us rfl).us rfl).us rfl).us rfl
  refine c_enter (by decide +kernel) rfl rfl ?_
  refine s_aload_n dM_runs_0 rfl rfl ?_
  refine s_mgi dM_runs_1 gf_M_187 rfl ?_
  refine s_if_eq dM_runs_4 (fun q => absurd q (by rw [h32]; decide)) (fun _ => ?_)
  refine s_aload_n dM_runs_7 rfl rfl ?_
  refine s_iconst (v := 0) dM_runs_8 (by decide) ?_
  refine s_mpi dM_runs_9 gf_M_191 rfl rfl (by first | exact ⟨_, rfl⟩ | exact Or.inl rfl | exact Or.inr rfl) ?_
  refine s_aload_n dM_runs_12 rfl rfl ?_
  refine s_iconst (v := 0) dM_runs_13 (by decide) ?_
  refine s_mpi dM_runs_14 gf_M_194 rfl rfl (by first | exact ⟨_, rfl⟩ | exact Or.inl rfl | exact Or.inr rfl) ?_
  refine s_aload_n dM_runs_17 rfl rfl ?_
  refine s_iconst (v := 0) dM_runs_18 (by decide) ?_
  refine s_mpi dM_runs_19 gf_M_187 rfl rfl (by first | exact ⟨_, rfl⟩ | exact Or.inl rfl | exact Or.inr rfl) ?_
  refine s_aload_n dM_runs_22 rfl rfl ?_
  refine s_iconst (v := 0) dM_runs_23 (by decide) ?_
  refine s_mpi dM_runs_24 gf_M_184 rfl rfl (by first | exact ⟨_, rfl⟩ | exact Or.inl rfl | exact Or.inr rfl) ?_
  refine l_M_top (g := gf g) (F := runS σ rw0 s 6 0 b (gf g)) (X.sr c1) hs hb ⟨fun i => ?_, fun i => ?_, ?_, ?_, ?_⟩ (by show (0 : Nat) ≤ 300; omega) rfl ?_ us_s (by rw [runS_sr c1]) (fun σ' o q1 q2 q3 => ⟨σ', o, rfl, rfl, q1, ⟨c1.tr q2.1, q2.2⟩, q3⟩)
  · rw [us_k (by decide), us_k (by decide), us_k (by decide), us_k (by decide)]; exact hg.1 i
  · rw [us_k (by decide), us_k (by decide), us_k (by decide), us_k (by decide)]; exact hg.2.1 i
  · rw [us_k (by decide), us_k (by decide), us_k (by decide), us_s]; rfl
  · rw [us_k (by decide), us_k (by decide), us_s]; rfl
  · rw [us_k (by decide), us_k (by decide), us_k (by decide), us_k (by decide)]; exact hg.2.2.2.2
  · rw [us_k (by decide), us_s]
theorem c_M_runs0 {σ : Sg} {h : Hp} {rw0 : Nat → List Nat} {R K N NS B s b : Nat} {g : Gs} (X : RN σ rw0 R K N NS B) (hs : s < N) (hb : b < B) (hg : gR σ g) (hn : gn g ≤ 300) (h0 : ge g = 0) (h32 : σ 32 0 = 0) :
    Con mM_runs 6 0 0 [vR (100, 0, 0), vI (nI b), vI (nI s)] (hM σ h) (fun v h' => ∃ σ' o, h' = hM σ' h ∧ v = some (vI o) ∧ (ge (runS σ rw0 s 6 0 b g).1 = 0 → o = (runS σ rw0 s 6 0 b g).2) ∧ RP σ σ' (runS σ rw0 s 6 0 b g).1 ∧ σ' 32 0 = 0) := by
  have c1 : sr σ (us σ 21 0 0) := sr.rf.us rfl
  refine c_enter (by decide +kernel) rfl rfl ?_
  refine s_aload_n dM_runs_0 rfl rfl ?_
  refine s_mgi dM_runs_1 gf_M_187 rfl ?_
  refine s_if_eq dM_runs_4 (fun _ => ?_) (fun q => absurd h32 q)
  refine s_aload_n dM_runs_22 rfl rfl ?_
  refine s_iconst (v := 0) dM_runs_23 (by decide) ?_
  refine s_mpi dM_runs_24 gf_M_184 rfl rfl (by first | exact ⟨_, rfl⟩ | exact Or.inl rfl | exact Or.inr rfl) ?_
  refine l_M_top (g := g) (F := runS σ rw0 s 6 0 b g) (X.sr c1) hs hb ⟨fun i => ?_, fun i => ?_, ?_, ?_, ?_⟩ hn h0 ?_ us_s (by rw [runS_sr c1]) (fun σ' o q1 q2 q3 => ⟨σ', o, rfl, rfl, q1, ⟨c1.tr q2.1, q2.2⟩, q3⟩)
  · rw [us_k (by decide)]; exact hg.1 i
  · rw [us_k (by decide)]; exact hg.2.1 i
  · rw [us_k (by decide)]; exact hg.2.2.1
  · rw [us_k (by decide)]; exact hg.2.2.2.1
  · rw [us_k (by decide)]; exact hg.2.2.2.2
  · rw [us_k (by decide)]; exact h32
def aN (σ : Sg) (b : Nat) (F : Gs × Int32) : Int32 := if ge F.1 = 0 then (if F.2 = 0 then σ 6 b else F.2) else -10 - gs F.1
theorem c_M_answer {σ : Sg} {h : Hp} {rw0 : Nat → List Nat} {R K N NS B s b : Nat} {g : Gs} (X : RN σ rw0 R K N NS B) (hs : s < N) (hb : b < B) (hg : gR σ g) (h32 : σ 32 0 = 1) :
    Con mM_answer 7 0 0 [vR (100, 0, 0), vI (nI b), vI (nI s)] (hM σ h) (fun v h' => ∃ σ', h' = hM σ' h ∧ v = some (vI (aN σ b (runS σ rw0 s 6 0 b (gf g)))) ∧ RP σ σ' (runS σ rw0 s 6 0 b (gf g)).1) := by
  have hB := X.2.2.2.2.1
  refine c_enter (by decide +kernel) rfl rfl ?_
  refine s_aload_n dM_answer_0 rfl rfl ?_
  refine s_iload_n dM_answer_1 rfl rfl ?_
  refine s_iload_n dM_answer_2 rfl rfl ?_
  refine s_callV (As := [_, _]) dM_answer_3 cv_M_221 hM_o (c_M_runs1 X hs hb hg h32) rfl rfl rfl rfl (fun v h' q => ?_)
  obtain ⟨σ1, o, rfl, rfl, q1, q2, q3⟩ := q
  generalize runS σ rw0 s 6 0 b (gf g) = F at q1 q2 ⊢
  have e30 := q2.2.1.2.2.2.1
  have e31 := q2.2.1.2.2.2.2
  unfold aN
  by_cases c1 : ge F.1 = 0
  · have eo := q1 c1
    subst eo
    rw [if_pos c1]
    by_cases c2 : F.2 = 0
    · rw [if_pos c2]
      refine s_istore_n dM_answer_6 rfl rfl ?_
      refine s_aload_n dM_answer_7 rfl rfl ?_
      refine s_mgi dM_answer_8 gf_M_194 rfl ?_
      refine s_if_eq dM_answer_11 (fun _ => ?_) (fun q => absurd (e30.trans c1) q)
      refine s_iload_n dM_answer_24 rfl rfl ?_
      refine s_if_eq dM_answer_25 (fun _ => ?_) (fun q => absurd c2 q)
      refine s_aload_n dM_answer_32 rfl rfl ?_
      refine s_mga dM_answer_33 gf_M_19 rfl ?_
      refine s_iload_n dM_answer_36 rfl rfl ?_
      refine s_mald dM_answer_37 rfl rfl (show _ < 12 by omega) rfl ?_
      refine s_iret dM_answer_38 rfl (by first | exact Nat.le_refl _ | decide | omega) (by first | exact Nat.le_refl _ | decide | omega) ?_
      exact ⟨σ1, rfl, by rw [q2.1 6 b rfl], q2⟩
    · rw [if_neg c2]
      refine s_istore_n dM_answer_6 rfl rfl ?_
      refine s_aload_n dM_answer_7 rfl rfl ?_
      refine s_mgi dM_answer_8 gf_M_194 rfl ?_
      refine s_if_eq dM_answer_11 (fun _ => ?_) (fun q => absurd (e30.trans c1) q)
      refine s_iload_n dM_answer_24 rfl rfl ?_
      refine s_if_eq dM_answer_25 (fun q => absurd q c2) (fun _ => ?_)
      refine s_iload_n dM_answer_28 rfl rfl ?_
      refine s_goto dM_answer_29 ?_
      refine s_iret dM_answer_38 rfl (by first | exact Nat.le_refl _ | decide | omega) (by first | exact Nat.le_refl _ | decide | omega) ?_
      exact ⟨σ1, rfl, rfl, q2⟩
  · rw [if_neg c1]
    refine s_istore_n dM_answer_6 rfl rfl ?_
    refine s_aload_n dM_answer_7 rfl rfl ?_
    refine s_mgi dM_answer_8 gf_M_194 rfl ?_
    refine s_if_eq dM_answer_11 (fun q => absurd q (by rw [e30]; exact c1)) (fun _ => ?_)
    refine s_bipush (v := (-10)) dM_answer_14 (by decide) ?_
    refine s_aload_n dM_answer_16 rfl rfl ?_
    refine s_mgi dM_answer_17 gf_M_211 rfl ?_
    first | refine s_isubN dM_answer_20 (by omega) ?_ | refine s_isub dM_answer_20 ?_
    refine s_goto dM_answer_21 ?_
    refine s_iret dM_answer_38 rfl (by first | exact Nat.le_refl _ | decide | omega) (by first | exact Nat.le_refl _ | decide | omega) ?_
    exact ⟨σ1, rfl, by rw [e31], q2⟩
def fRun (σ : Sg) (rw0 : Nat → List Nat) (b s : Int32) (B N : Nat) (g : Gs) : Int32 × Gs := match ix b B, ix s N with
  | some b, some s => (aN σ b (runS σ rw0 s 6 0 b (gf g)), (runS σ rw0 s 6 0 b (gf g)).1)
  | _, _ => (-1, g)
theorem gR.us {σ : Sg} {g : Gs} {k j : Nat} {x : Int32} (h1 : gR σ g) (h2 : k ≠ 4 ∧ k ≠ 28 ∧ k ≠ 29 ∧ k ≠ 30 ∧ k ≠ 31) : gR (us σ k j x) g :=
  ⟨fun i => by rw [us_k (Ne.symm h2.1)]; exact h1.1 i, fun i => by rw [us_k (Ne.symm h2.2.1)]; exact h1.2.1 i, by rw [us_k (Ne.symm h2.2.2.1)]; exact h1.2.2.1, by rw [us_k (Ne.symm h2.2.2.2.1)]; exact h1.2.2.2.1, by rw [us_k (Ne.symm h2.2.2.2.2)]; exact h1.2.2.2.2⟩
theorem c_M_run {σ : Sg} {h : Hp} {rw0 : Nat → List Nat} {R K N NS B : Nat} {g : Gs} (b s : Int32) (X : RN σ rw0 R K N NS B) (hB : σ 5 0 = nI B) (hN : σ 2 0 = nI N) (hg : gR σ g) (hn : gn g ≤ 300) :
    Con mM_run 8 0 0 [vR (100, 0, 0), vI b, vI s] (hM σ h) (fun v h' => ∃ σ', h' = hM σ' h ∧ v = some (vI (fRun σ rw0 b s B N g).1) ∧ RP σ σ' (fRun σ rw0 b s B N g).2) := by
  have hB12 := X.2.2.2.2.1
  have hN20 := X.2.1.1
  have c1 : sr σ (us σ 32 0 1) := sr.rf.us rfl
  unfold fRun
  refine c_enter (by decide +kernel) rfl rfl ?_
  rcases iz_cases b (K := B) (by omega) with ⟨e1, hz⟩ | ⟨b, hb1, rfl, e1⟩
  · rw [e1]
    refine s_aload_n dM_run_0 rfl rfl ?_
    refine s_iload_n dM_run_1 rfl rfl ?_
    refine s_v1 dM_run_2 cv_M_135 hM_o (c_M_isBook hB (by omega) hz) rfl rfl rfl rfl ?_
    refine s_if_eq dM_run_5 (fun _ => ?_) (fun q => absurd rfl q)
    refine s_iconst (v := (-1)) dM_run_16 (by decide) ?_
    refine s_iret dM_run_17 rfl (by first | exact Nat.le_refl _ | decide | omega) (by first | exact Nat.le_refl _ | decide | omega) ?_
    exact ⟨σ, rfl, rfl, sr.rf, hg, hn⟩
  · rw [e1]
    rcases iz_cases s (K := N) (by omega) with ⟨e2, hz⟩ | ⟨s, hs1, rfl, e2⟩
    · rw [e2]
      refine s_aload_n dM_run_0 rfl rfl ?_
      refine s_iload_n dM_run_1 rfl rfl ?_
      refine s_v1 dM_run_2 cv_M_135 hM_o (c_M_isBook hB (by omega) (Iz1 hb1)) rfl rfl rfl rfl ?_
      refine s_if_eq dM_run_5 (fun q => absurd q (by decide)) (fun _ => ?_)
      refine s_aload_n dM_run_8 rfl rfl ?_
      refine s_iload_n dM_run_9 rfl rfl ?_
      refine s_v1 dM_run_10 cv_M_128 hM_o (c_M_isSubject hN (by omega) hz) rfl rfl rfl rfl ?_
      refine s_if_ne dM_run_13 (fun q => absurd rfl q) (fun _ => ?_)
      refine s_iconst (v := (-1)) dM_run_16 (by decide) ?_
      refine s_iret dM_run_17 rfl (by first | exact Nat.le_refl _ | decide | omega) (by first | exact Nat.le_refl _ | decide | omega) ?_
      exact ⟨σ, rfl, rfl, sr.rf, hg, hn⟩
    · rw [e2]
      dsimp only
      refine s_aload_n dM_run_0 rfl rfl ?_
      refine s_iload_n dM_run_1 rfl rfl ?_
      refine s_v1 dM_run_2 cv_M_135 hM_o (c_M_isBook hB (by omega) (Iz1 hb1)) rfl rfl rfl rfl ?_
      refine s_if_eq dM_run_5 (fun q => absurd q (by decide)) (fun _ => ?_)
      refine s_aload_n dM_run_8 rfl rfl ?_
      refine s_iload_n dM_run_9 rfl rfl ?_
      refine s_v1 dM_run_10 cv_M_128 hM_o (c_M_isSubject hN (by omega) (Iz1 hs1)) rfl rfl rfl rfl ?_
      refine s_if_ne dM_run_13 (fun _ => ?_) (fun q => absurd q (by decide))
      refine s_aload_n dM_run_18 rfl rfl ?_
      refine s_iconst (v := 1) dM_run_19 (by decide) ?_
      refine s_mpi dM_run_20 gf_M_187 rfl rfl (by first | exact ⟨_, rfl⟩ | exact Or.inl rfl | exact Or.inr rfl) ?_
      refine s_aload_n dM_run_23 rfl rfl ?_
      refine s_iload_n dM_run_24 rfl rfl ?_
      refine s_iload_n dM_run_25 rfl rfl ?_
      refine s_callV (As := [_, _]) dM_run_26 cv_M_218 hM_o (c_M_answer (g := g) (X.sr c1) hs1 hb1 (hg.us (by decide)) us_s) rfl rfl rfl rfl (fun v h' q => ?_)
      obtain ⟨σ1, rfl, rfl, q2⟩ := q
      rw [runS_sr c1] at q2
      refine s_iret dM_run_29 rfl (by first | exact Nat.le_refl _ | decide | omega) (by first | exact Nat.le_refl _ | decide | omega) ?_
      refine ⟨σ1, rfl, ?_, c1.tr q2.1, q2.2⟩
      rw [runS_sr c1]
      unfold aN
      rw [c1 6 b rfl]
/-- a part of an activity -/
def fPart (σ : Sg) (rw0 : Nat → List Nat) (a p s : Nat) (g : Gs) : Int32 × Gs := if σ 36 (3 * a + p) = -4 then (0, g) else (aN σ (nt (σ 36 (3 * a + p))) (runS σ rw0 s 6 0 (nt (σ 36 (3 * a + p))) (gf g)), (runS σ rw0 s 6 0 (nt (σ 36 (3 * a + p))) (gf g)).1)
def VP (σ : Sg) (A B : Nat) : Prop := A ≤ 6 ∧ ∀ a p, a < A → p < 3 → σ 36 (3 * a + p) = -4 ∨ ∃ b, b < B ∧ σ 36 (3 * a + p) = nI b
theorem c_M_part {σ : Sg} {h : Hp} {rw0 : Nat → List Nat} {R K N NS B A a p s : Nat} {g : Gs} (X : RN σ rw0 R K N NS B) (V : VP σ A B) (hg : gR σ g) (hn : gn g ≤ 300) (ha : a < A) (hp : p < 3) (hs : s < N) :
    Con mM_part 8 0 0 [vR (100, 0, 0), vI (nI a), vI (nI p), vI (nI s)] (hM σ h) (fun v h' => ∃ σ', h' = hM σ' h ∧ v = some (vI (fPart σ rw0 a p s g).1) ∧ RP σ σ' (fPart σ rw0 a p s g).2) := by
  have hB12 := X.2.2.2.2.1
  have hN20 := X.2.1.1
  have hA := V.1
  have c1 : sr σ (us σ 32 0 1) := sr.rf.us rfl
  unfold fPart
  refine c_enter (by decide +kernel) rfl rfl ?_
  rcases V.2 a p ha hp with e1 | ⟨b, hb1, e1⟩
  · rw [if_pos e1]
    refine s_aload_n dM_part_0 rfl rfl ?_
    refine s_mga dM_part_1 gf_M_80 rfl ?_
    refine s_iconst (v := nI 3) dM_part_4 (by decide) ?_
    refine s_iload_n dM_part_5 rfl rfl ?_
    first | refine s_imulN dM_part_6 ?_ | refine s_imul dM_part_6 ?_
    refine s_iload_n dM_part_7 rfl rfl ?_
    first | refine s_iaddN dM_part_8 ?_ | refine s_iadd dM_part_8 ?_
    refine s_mald dM_part_9 rfl rfl (show _ < 18 by omega) rfl ?_
    refine s_top e1 ?_
    refine s_istore dM_part_10 rfl ?_
    refine s_aload_n dM_part_12 rfl rfl ?_
    refine s_iconst (v := 1) dM_part_13 (by decide) ?_
    refine s_mpi dM_part_14 gf_M_187 rfl rfl (by first | exact ⟨_, rfl⟩ | exact Or.inl rfl | exact Or.inr rfl) ?_
    refine s_iload dM_part_17 rfl ?_
    refine s_bipush (v := (-4)) dM_part_19 (by decide) ?_
    refine s_icmp_ne dM_part_21 (fun q => absurd rfl q) (fun _ => ?_)
    refine s_iconst (v := 0) dM_part_24 (by decide) ?_
    refine s_goto dM_part_25 ?_
    refine s_iret dM_part_35 rfl (by first | exact Nat.le_refl _ | decide | omega) (by first | exact Nat.le_refl _ | decide | omega) ?_
    exact ⟨_, rfl, rfl, c1, hg.us (by decide), hn⟩
  · rw [if_neg (by rw [e1]; exact nI_m4 (by omega)), e1, nt_nI (by omega)]
    dsimp only
    refine s_aload_n dM_part_0 rfl rfl ?_
    refine s_mga dM_part_1 gf_M_80 rfl ?_
    refine s_iconst (v := nI 3) dM_part_4 (by decide) ?_
    refine s_iload_n dM_part_5 rfl rfl ?_
    first | refine s_imulN dM_part_6 ?_ | refine s_imul dM_part_6 ?_
    refine s_iload_n dM_part_7 rfl rfl ?_
    first | refine s_iaddN dM_part_8 ?_ | refine s_iadd dM_part_8 ?_
    refine s_mald dM_part_9 rfl rfl (show _ < 18 by omega) rfl ?_
    refine s_top e1 ?_
    refine s_istore dM_part_10 rfl ?_
    refine s_aload_n dM_part_12 rfl rfl ?_
    refine s_iconst (v := 1) dM_part_13 (by decide) ?_
    refine s_mpi dM_part_14 gf_M_187 rfl rfl (by first | exact ⟨_, rfl⟩ | exact Or.inl rfl | exact Or.inr rfl) ?_
    refine s_iload dM_part_17 rfl ?_
    refine s_bipush (v := (-4)) dM_part_19 (by decide) ?_
    refine s_icmp_ne dM_part_21 (fun _ => ?_) (fun q => absurd q (nI_m4 (by omega)))
    refine s_aload_n dM_part_28 rfl rfl ?_
    refine s_iload dM_part_29 rfl ?_
    refine s_iload_n dM_part_31 rfl rfl ?_
    refine s_callV (As := [_, _]) dM_part_32 cv_M_218 hM_o (c_M_answer (g := g) (X.sr c1) hs hb1 (hg.us (by decide)) us_s) rfl rfl rfl rfl (fun v h' q => ?_)
    obtain ⟨σ1, rfl, rfl, q2⟩ := q
    rw [runS_sr c1] at q2
    refine s_iret dM_part_35 rfl (by first | exact Nat.le_refl _ | decide | omega) (by first | exact Nat.le_refl _ | decide | omega) ?_
    refine ⟨σ1, rfl, ?_, c1.tr q2.1, q2.2⟩
    rw [runS_sr c1]
    unfold aN
    rw [c1 6 b rfl]
theorem fPart_sq {σ σ' : Sg} (c1 : sq σ σ') (c42 : ∀ x, σ' 42 x = σ 42 x) {rw0 : Nat → List Nat} {a p s : Nat} {g : Gs} : fPart σ' rw0 a p s g = fPart σ rw0 a p s g := by
  unfold fPart aN
  rw [c1 36 _ rfl, runS_sq c1 c42, c1 6 _ rfl]
/-- activities that are open -/
def OV (σ : Sg) (O A N : Nat) : Prop := O ≤ 4 ∧ σ 37 0 = nI O ∧ ∀ i, i < O → (∃ a, a < A ∧ σ 38 i = nI a) ∧ ∃ s, s < N ∧ σ 39 i = nI s
theorem c_M_begin {σ : Sg} {h : Hp} {rw0 : Nat → List Nat} {R K N NS B A O : Nat} {g : Gs} (a s : Int32) (X : RN σ rw0 R K N NS B) (V : VP σ A B) (hA : σ 35 0 = nI A) (hN : σ 2 0 = nI N) (hO : OV σ O A N) (hg : gR σ g) (hn : gn g ≤ 300) :
    Con mM_begin 9 0 0 [vR (100, 0, 0), vI a, vI s] (hM σ h) (fun v h' => match ix a A, ix s N with
      | some a, some s => if O = 4 then v = some (vI (-3)) ∧ h' = hM σ h else ∃ σ', RP σ σ' (fPart σ rw0 a 0 s g).2 ∧ v = some (vI (fPart σ rw0 a 0 s g).1) ∧ h' = hM (if -2 < (fPart σ rw0 a 0 s g).1 then us (us (us σ' 38 O (nI a)) 39 O (nI s)) 37 0 (nI (O + 1)) else σ') h
      | _, _ => v = some (vI (-1)) ∧ h' = hM σ h) := by
  have hN20 := X.2.1.1
  have hA6 := V.1
  obtain ⟨hO4, e37, hO2⟩ := hO
  refine c_enter (by decide +kernel) rfl rfl ?_
  rcases iz_cases a (K := A) (by omega) with ⟨e1, hz⟩ | ⟨a, ha1, rfl, e1⟩
  · rw [e1]
    refine s_iload_n dM_begin_0 rfl rfl ?_
    refine s_iconst (v := 0) dM_begin_1 (by decide) ?_
    refine s_aload_n dM_begin_2 rfl rfl ?_
    refine s_mgi dM_begin_3 gf_M_230 rfl ?_
    refine s_top hA ?_
    refine s_iconst (v := nI 1) dM_begin_6 (by decide) ?_
    first | refine s_isubN dM_begin_7 (by omega) ?_ | refine s_isub dM_begin_7 ?_
    refine s_t3 dM_begin_8 cs_M_117 (c_inZ (by omega) hz) rfl rfl rfl rfl ?_
    refine s_if_eq dM_begin_11 (fun _ => ?_) (fun q => absurd rfl q)
    refine s_iconst (v := (-1)) dM_begin_22 (by decide) ?_
    refine s_iret dM_begin_23 rfl (by first | exact Nat.le_refl _ | decide | omega) (by first | exact Nat.le_refl _ | decide | omega) ?_
    exact ⟨rfl, rfl⟩
  · rw [e1]
    rcases iz_cases s (K := N) (by omega) with ⟨e2, hz⟩ | ⟨s, hs1, rfl, e2⟩
    · rw [e2]
      refine s_iload_n dM_begin_0 rfl rfl ?_
      refine s_iconst (v := 0) dM_begin_1 (by decide) ?_
      refine s_aload_n dM_begin_2 rfl rfl ?_
      refine s_mgi dM_begin_3 gf_M_230 rfl ?_
      refine s_top hA ?_
      refine s_iconst (v := nI 1) dM_begin_6 (by decide) ?_
      first | refine s_isubN dM_begin_7 (by omega) ?_ | refine s_isub dM_begin_7 ?_
      refine s_t3 dM_begin_8 cs_M_117 (c_inZ (by omega) (Iz1 ha1)) rfl rfl rfl rfl ?_
      refine s_if_eq dM_begin_11 (fun q => absurd q (by decide)) (fun _ => ?_)
      refine s_aload_n dM_begin_14 rfl rfl ?_
      refine s_iload_n dM_begin_15 rfl rfl ?_
      refine s_v1 dM_begin_16 cv_M_128 hM_o (c_M_isSubject hN (by omega) hz) rfl rfl rfl rfl ?_
      refine s_if_ne dM_begin_19 (fun q => absurd rfl q) (fun _ => ?_)
      refine s_iconst (v := (-1)) dM_begin_22 (by decide) ?_
      refine s_iret dM_begin_23 rfl (by first | exact Nat.le_refl _ | decide | omega) (by first | exact Nat.le_refl _ | decide | omega) ?_
      exact ⟨rfl, rfl⟩
    · rw [e2]
      dsimp only
      by_cases c4 : O = 4
      · subst c4
        refine s_iload_n dM_begin_0 rfl rfl ?_
        refine s_iconst (v := 0) dM_begin_1 (by decide) ?_
        refine s_aload_n dM_begin_2 rfl rfl ?_
        refine s_mgi dM_begin_3 gf_M_230 rfl ?_
        refine s_top hA ?_
        refine s_iconst (v := nI 1) dM_begin_6 (by decide) ?_
        first | refine s_isubN dM_begin_7 (by omega) ?_ | refine s_isub dM_begin_7 ?_
        refine s_t3 dM_begin_8 cs_M_117 (c_inZ (by omega) (Iz1 ha1)) rfl rfl rfl rfl ?_
        refine s_if_eq dM_begin_11 (fun q => absurd q (by decide)) (fun _ => ?_)
        refine s_aload_n dM_begin_14 rfl rfl ?_
        refine s_iload_n dM_begin_15 rfl rfl ?_
        refine s_v1 dM_begin_16 cv_M_128 hM_o (c_M_isSubject hN (by omega) (Iz1 hs1)) rfl rfl rfl rfl ?_
        refine s_if_ne dM_begin_19 (fun _ => ?_) (fun q => absurd q (by decide))
        refine s_aload_n dM_begin_24 rfl rfl ?_
        refine s_mgi dM_begin_25 gf_M_233 rfl ?_
        refine s_top e37 ?_
        refine s_iconst (v := nI 4) dM_begin_28 (by decide) ?_
        refine s_icmp_ne dM_begin_29 (fun q => absurd rfl q) (fun _ => ?_)
        refine s_bipush (v := (-3)) dM_begin_32 (by decide) ?_
        refine s_iret dM_begin_34 rfl (by first | exact Nat.le_refl _ | decide | omega) (by first | exact Nat.le_refl _ | decide | omega) ?_
        rw [if_pos rfl]
        exact ⟨rfl, rfl⟩
      · refine s_iload_n dM_begin_0 rfl rfl ?_
        refine s_iconst (v := 0) dM_begin_1 (by decide) ?_
        refine s_aload_n dM_begin_2 rfl rfl ?_
        refine s_mgi dM_begin_3 gf_M_230 rfl ?_
        refine s_top hA ?_
        refine s_iconst (v := nI 1) dM_begin_6 (by decide) ?_
        first | refine s_isubN dM_begin_7 (by omega) ?_ | refine s_isub dM_begin_7 ?_
        refine s_t3 dM_begin_8 cs_M_117 (c_inZ (by omega) (Iz1 ha1)) rfl rfl rfl rfl ?_
        refine s_if_eq dM_begin_11 (fun q => absurd q (by decide)) (fun _ => ?_)
        refine s_aload_n dM_begin_14 rfl rfl ?_
        refine s_iload_n dM_begin_15 rfl rfl ?_
        refine s_v1 dM_begin_16 cv_M_128 hM_o (c_M_isSubject hN (by omega) (Iz1 hs1)) rfl rfl rfl rfl ?_
        refine s_if_ne dM_begin_19 (fun _ => ?_) (fun q => absurd q (by decide))
        refine s_aload_n dM_begin_24 rfl rfl ?_
        refine s_mgi dM_begin_25 gf_M_233 rfl ?_
        refine s_top e37 ?_
        refine s_iconst (v := nI 4) dM_begin_28 (by decide) ?_
        refine s_icmp_ne dM_begin_29 (fun _ => ?_) (fun q => absurd q (nI_ne c4 (by omega) (by omega)))
        refine s_aload_n dM_begin_35 rfl rfl ?_
        refine s_iload_n dM_begin_36 rfl rfl ?_
        refine s_iconst (v := 0) dM_begin_37 (by decide) ?_
        refine s_iload_n dM_begin_38 rfl rfl ?_
        refine s_callV (As := [_, _, _]) dM_begin_39 cv_M_236 hM_o (c_M_part (p := 0) X V hg hn ha1 (by omega) hs1) rfl rfl rfl rfl (fun v h' q => ?_)
        obtain ⟨σ1, rfl, rfl, q2⟩ := q
        generalize hP : fPart σ rw0 a 0 s g = P at q2 ⊢
        have f37 : σ1 37 0 = nI O := (q2.1 37 0 rfl).trans e37
        have f37b : ∀ j x, us σ1 38 j x 37 0 = nI O := fun j x => by rw [us_k (by decide)]; exact f37
        have f37c : ∀ j x j' x', us (us σ1 38 j x) 39 j' x' 37 0 = nI O := fun j x j' x' => by rw [us_k (by decide)]; exact f37b _ _
        simp only [if_neg c4]
        by_cases c5 : -2 < P.1
        · simp only [if_pos c5]
          refine s_istore_n dM_begin_42 rfl rfl ?_
          refine s_iload_n dM_begin_43 rfl rfl ?_
          refine s_bipush (v := (-2)) dM_begin_44 (by decide) ?_
          refine s_icmp_le dM_begin_46 (fun q => absurd q (Int32.not_le.mpr c5)) (fun _ => ?_)
          refine s_aload_n dM_begin_49 rfl rfl ?_
          refine s_mga dM_begin_50 gf_M_83 rfl ?_
          refine s_aload_n dM_begin_53 rfl rfl ?_
          refine s_mgi dM_begin_54 gf_M_233 rfl ?_
          refine s_top f37 ?_
          refine s_iload_n dM_begin_57 rfl rfl ?_
          refine s_mast dM_begin_58 rfl rfl (show _ < 4 by omega) rfl ?_
          refine s_aload_n dM_begin_59 rfl rfl ?_
          refine s_mga dM_begin_60 gf_M_86 rfl ?_
          refine s_aload_n dM_begin_63 rfl rfl ?_
          refine s_mgi dM_begin_64 gf_M_233 rfl ?_
          refine s_top (f37b _ _) ?_
          refine s_iload_n dM_begin_67 rfl rfl ?_
          refine s_mast dM_begin_68 rfl rfl (show _ < 4 by omega) rfl ?_
          refine s_aload_n dM_begin_69 rfl rfl ?_
          refine s_dup dM_begin_70 rfl ?_
          refine s_mgi dM_begin_71 gf_M_233 rfl ?_
          refine s_top (f37c _ _ _ _) ?_
          refine s_iconst (v := nI 1) dM_begin_74 (by decide) ?_
          first | refine s_iaddN dM_begin_75 ?_ | refine s_iadd dM_begin_75 ?_
          refine s_mpi dM_begin_76 gf_M_233 rfl rfl (by first | exact ⟨_, rfl⟩ | exact Or.inl rfl | exact Or.inr rfl) ?_
          refine s_iload_n dM_begin_79 rfl rfl ?_
          refine s_iret dM_begin_80 rfl (by first | exact Nat.le_refl _ | decide | omega) (by first | exact Nat.le_refl _ | decide | omega) ?_
          exact ⟨σ1, q2, rfl, rfl⟩
        · simp only [if_neg c5]
          refine s_istore_n dM_begin_42 rfl rfl ?_
          refine s_iload_n dM_begin_43 rfl rfl ?_
          refine s_bipush (v := (-2)) dM_begin_44 (by decide) ?_
          refine s_icmp_le dM_begin_46 (fun _ => ?_) (fun q => absurd (Int32.not_lt.mp c5) q)
          refine s_iload_n dM_begin_79 rfl rfl ?_
          refine s_iret dM_begin_80 rfl (by first | exact Nat.le_refl _ | decide | omega) (by first | exact Nat.le_refl _ | decide | omega) ?_
          exact ⟨σ1, q2, rfl, rfl⟩
theorem c_M_middle {σ : Sg} {h : Hp} {rw0 : Nat → List Nat} {R K N NS B A O : Nat} {g : Gs} (X : RN σ rw0 R K N NS B) (V : VP σ A B) (hO : OV σ O A N) (hg : gR σ g) (hn : gn g ≤ 300) :
    Con mM_middle 9 0 0 [vR (100, 0, 0)] (hM σ h) (fun v h' => if O = 0 then v = some (vI (-2)) ∧ h' = hM σ h else ∃ σ', RP σ σ' (fPart σ rw0 (nt (σ 38 (O - 1))) 1 (nt (σ 39 (O - 1))) g).2 ∧ v = some (vI (fPart σ rw0 (nt (σ 38 (O - 1))) 1 (nt (σ 39 (O - 1))) g).1) ∧ h' = hM σ' h) := by
  have hN20 := X.2.1.1
  have hA6 := V.1
  obtain ⟨hO4, e37, hO2⟩ := hO
  refine c_enter (by decide +kernel) rfl rfl ?_
  by_cases c1 : O = 0
  · subst c1
    refine s_aload_n dM_middle_0 rfl rfl ?_
    refine s_mgi dM_middle_1 gf_M_233 rfl ?_
    refine s_top e37 ?_
    refine s_if_ne dM_middle_4 (fun q => absurd rfl q) (fun _ => ?_)
    refine s_bipush (v := (-2)) dM_middle_7 (by decide) ?_
    refine s_goto dM_middle_9 ?_
    refine s_iret dM_middle_39 rfl (by first | exact Nat.le_refl _ | decide | omega) (by first | exact Nat.le_refl _ | decide | omega) ?_
    rw [if_pos rfl]
    exact ⟨rfl, rfl⟩
  · obtain ⟨⟨a, ha1, ea⟩, s, hs1, es⟩ := hO2 (O - 1) (by omega)
    simp only [if_neg c1]
    rw [ea, es, nt_nI (by omega), nt_nI (by omega)]
    refine s_aload_n dM_middle_0 rfl rfl ?_
    refine s_mgi dM_middle_1 gf_M_233 rfl ?_
    refine s_top e37 ?_
    refine s_if_ne dM_middle_4 (fun _ => ?_) (fun q => absurd q (nI_ne (b := 0) c1 (by omega) (by omega)))
    refine s_aload_n dM_middle_12 rfl rfl ?_
    refine s_aload_n dM_middle_13 rfl rfl ?_
    refine s_mga dM_middle_14 gf_M_83 rfl ?_
    refine s_aload_n dM_middle_17 rfl rfl ?_
    refine s_mgi dM_middle_18 gf_M_233 rfl ?_
    refine s_top e37 ?_
    refine s_iconst (v := nI 1) dM_middle_21 (by decide) ?_
    first | refine s_isubN dM_middle_22 (by omega) ?_ | refine s_isub dM_middle_22 ?_
    refine s_mald dM_middle_23 rfl rfl (show _ < 4 by omega) rfl ?_
    refine s_top ea ?_
    refine s_iconst (v := 1) dM_middle_24 (by decide) ?_
    refine s_aload_n dM_middle_25 rfl rfl ?_
    refine s_mga dM_middle_26 gf_M_86 rfl ?_
    refine s_aload_n dM_middle_29 rfl rfl ?_
    refine s_mgi dM_middle_30 gf_M_233 rfl ?_
    refine s_top e37 ?_
    refine s_iconst (v := nI 1) dM_middle_33 (by decide) ?_
    first | refine s_isubN dM_middle_34 (by omega) ?_ | refine s_isub dM_middle_34 ?_
    refine s_mald dM_middle_35 rfl rfl (show _ < 4 by omega) rfl ?_
    refine s_top es ?_
    refine s_callV (As := [_, _, _]) dM_middle_36 cv_M_236 hM_o (c_M_part (p := 1) X V hg hn ha1 (by omega) hs1) rfl rfl rfl rfl (fun v h' q => ?_)
    obtain ⟨σ1, rfl, rfl, q2⟩ := q
    refine s_iret dM_middle_39 rfl (by first | exact Nat.le_refl _ | decide | omega) (by first | exact Nat.le_refl _ | decide | omega) ?_
    exact ⟨σ1, q2, rfl, rfl⟩
theorem c_M_finish {σ : Sg} {h : Hp} {rw0 : Nat → List Nat} {R K N NS B A O : Nat} {g : Gs} (X : RN σ rw0 R K N NS B) (V : VP σ A B) (hO : OV σ O A N) (hg : gR σ g) (hn : gn g ≤ 300) :
    Con mM_finish 9 0 0 [vR (100, 0, 0)] (hM σ h) (fun v h' => if O = 0 then v = some (vI (-2)) ∧ h' = hM σ h else ∃ σ', RP (us σ 37 0 (nI (O - 1))) σ' (fPart σ rw0 (nt (σ 38 (O - 1))) 2 (nt (σ 39 (O - 1))) g).2 ∧ v = some (vI (fPart σ rw0 (nt (σ 38 (O - 1))) 2 (nt (σ 39 (O - 1))) g).1) ∧ h' = hM σ' h) := by
  have hN20 := X.2.1.1
  have hA6 := V.1
  obtain ⟨hO4, e37, hO2⟩ := hO
  refine c_enter (by decide +kernel) rfl rfl ?_
  by_cases c1 : O = 0
  · subst c1
    refine s_aload_n dM_finish_0 rfl rfl ?_
    refine s_mgi dM_finish_1 gf_M_233 rfl ?_
    refine s_top e37 ?_
    refine s_if_ne dM_finish_4 (fun q => absurd rfl q) (fun _ => ?_)
    refine s_bipush (v := (-2)) dM_finish_7 (by decide) ?_
    refine s_iret dM_finish_9 rfl (by first | exact Nat.le_refl _ | decide | omega) (by first | exact Nat.le_refl _ | decide | omega) ?_
    rw [if_pos rfl]
    exact ⟨rfl, rfl⟩
  · obtain ⟨⟨a, ha1, ea⟩, s, hs1, es⟩ := hO2 (O - 1) (by omega)
    simp only [if_neg c1]
    rw [ea, es, nt_nI (by omega), nt_nI (by omega)]
    have t1 : ∀ k j, k ≠ 37 → us σ 37 0 (nI (O - 1)) k j = σ k j := fun k j z1 => us_k z1
    have c2 : sq σ (us σ 37 0 (nI (O - 1))) := sq.rf.us rfl
    have X1 : RN (us σ 37 0 (nI (O - 1))) rw0 R K N NS B := X.sq c2 (fun x q1 => by rw [t1 42 _ (by decide)]; exact X.2.2.1.2.2.1 x q1)
    have V1 : VP (us σ 37 0 (nI (O - 1))) A B := ⟨hA6, fun a p q1 q2 => by rw [t1 36 _ (by decide)]; exact V.2 a p q1 q2⟩
    refine s_aload_n dM_finish_0 rfl rfl ?_
    refine s_mgi dM_finish_1 gf_M_233 rfl ?_
    refine s_top e37 ?_
    refine s_if_ne dM_finish_4 (fun _ => ?_) (fun q => absurd q (nI_ne (b := 0) c1 (by omega) (by omega)))
    refine s_aload_n dM_finish_10 rfl rfl ?_
    refine s_dup dM_finish_11 rfl ?_
    refine s_mgi dM_finish_12 gf_M_233 rfl ?_
    refine s_top e37 ?_
    refine s_iconst (v := nI 1) dM_finish_15 (by decide) ?_
    first | refine s_isubN dM_finish_16 (by omega) ?_ | refine s_isub dM_finish_16 ?_
    refine s_mpi dM_finish_17 gf_M_233 rfl rfl (by first | exact ⟨_, rfl⟩ | exact Or.inl rfl | exact Or.inr rfl) ?_
    refine s_aload_n dM_finish_20 rfl rfl ?_
    refine s_aload_n dM_finish_21 rfl rfl ?_
    refine s_mga dM_finish_22 gf_M_83 rfl ?_
    refine s_aload_n dM_finish_25 rfl rfl ?_
    refine s_mgi dM_finish_26 gf_M_233 rfl ?_
    refine s_top us_s ?_
    refine s_mald dM_finish_29 rfl rfl (show _ < 4 by omega) rfl ?_
    refine s_top ((t1 38 _ (by decide)).trans ea) ?_
    refine s_iconst (v := nI 2) dM_finish_30 (by decide) ?_
    refine s_aload_n dM_finish_31 rfl rfl ?_
    refine s_mga dM_finish_32 gf_M_86 rfl ?_
    refine s_aload_n dM_finish_35 rfl rfl ?_
    refine s_mgi dM_finish_36 gf_M_233 rfl ?_
    refine s_top us_s ?_
    refine s_mald dM_finish_39 rfl rfl (show _ < 4 by omega) rfl ?_
    refine s_top ((t1 39 _ (by decide)).trans es) ?_
    refine s_callV (As := [_, _, _]) dM_finish_40 cv_M_236 hM_o (c_M_part (p := 2) X1 V1 (hg.us (by decide)) hn ha1 (by omega) hs1) rfl rfl rfl rfl (fun v h' q => ?_)
    obtain ⟨σ1, rfl, rfl, q2⟩ := q
    have ef : fPart (us σ 37 0 (nI (O - 1))) rw0 a 2 s g = fPart σ rw0 a 2 s g := fPart_sq c2 (fun x => t1 42 x (by decide))
    rw [ef] at q2 ⊢
    refine s_iret dM_finish_43 rfl (by first | exact Nat.le_refl _ | decide | omega) (by first | exact Nat.le_refl _ | decide | omega) ?_
    exact ⟨σ1, q2, rfl, rfl⟩
