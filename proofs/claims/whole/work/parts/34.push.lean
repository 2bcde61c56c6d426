/-! what stays while rows are made and books are pushed -/
theorem und_cg {σ σ' : Sg} (hc1 : ∀ j, σ' 1 j = σ 1 j) : ∀ n k o, und σ' n k o = und σ n k o := by
  intro n
  induction n with
  | zero => intro k o; rfl
  | succ n ih1 => intro k o; simp only [und, hc1, ih1]
theorem KP.sr {σ σ' : Sg} {K : Nat} (c1 : sr σ σ') (P : KP σ K) : KP σ' K := by
  obtain ⟨p1, p2, p3, p4⟩ := P
  exact ⟨p1, p2, by rw [c1 1 0 rfl]; exact p3, fun i a b => by rw [c1 1 i rfl]; exact p4 i a b⟩
theorem RK.sr {σ σ' : Sg} {R K : Nat} (c1 : sr σ σ') (P : RK σ R K) : RK σ' R K := by
  refine ⟨P.1, fun r hr1 => ?_⟩
  have l1 := P.2 r hr1
  simp only [c1 10 _ rfl, c1 11 _ rfl, c1 12 _ rfl, c1 13 _ rfl]
  exact l1
theorem TP.sr {σ σ' : Sg} {R : Nat} (c1 : sr σ σ') (P : TP σ R) : TP σ' R := by
  intro r hr1
  rw [c1 15 _ rfl, c1 17 _ rfl]
  exact P r hr1
theorem TD.sr {σ σ' : Sg} {R : Nat} (c1 : sr σ σ') (P : TD σ R) : TD σ' R := by
  intro r r' h1 h2
  rw [c1 15 _ rfl, c1 15 _ rfl, c1 17 _ rfl, c1 17 _ rfl]
  exact P r r' h1 h2
theorem OP.sr {σ σ' : Sg} {R : Nat} (c1 : sr σ σ') (P : OP σ R) : OP σ' R := by
  intro r hr1
  rw [c1 15 _ rfl, c1 16 _ rfl]
  exact P r hr1
theorem RW.sr {σ σ' : Sg} {R K : Nat} (c1 : sr σ σ') (P : RW σ R K) : RW σ' R K := by
  obtain ⟨p1, p2, p3, p4, p5, p6, p7⟩ := P
  refine ⟨p1.sr c1, p2.sr c1, by rw [c1 8 0 rfl]; exact p3, p4.sr c1, p5.sr c1, p6.sr c1, fun r hr1 => by rw [c1 9 r rfl]; exact p7 r hr1⟩
theorem SK.sr {σ σ' : Sg} {N K : Nat} (c1 : sr σ σ') (P : SK σ N K) : SK σ' N K := ⟨P.1, fun s hs1 => by rw [c1 3 s rfl]; exact P.2 s hs1⟩
theorem CP.sr {σ σ' : Sg} {R K NS : Nat} (c1 : sr σ σ') (P : CP σ R K NS) : CP σ' R K NS := by
  obtain ⟨p1, p2, p3, p4⟩ := P
  refine ⟨p1, p2, fun x hx1 => by rw [c1 42 x rfl]; exact p3 x hx1, fun r hr1 => ?_⟩
  have l1 := p4 r hr1
  simp only [c1 12 _ rfl, c1 13 _ rfl]
  exact l1
theorem best_sr {σ σ' : Sg} {b t k : Nat} {o : Option Nat} (c1 : sr σ σ') (hb1 : best σ b t k o) : best σ' b t k o := by
  have c2 : ∀ r, cand σ' b t r ↔ cand σ b t r := fun r => by unfold cand; rw [c1 9 _ rfl, c1 15 _ rfl, c1 17 _ rfl]
  cases o with
  | none => exact fun r hr1 z1 => hb1 r hr1 ((c2 r).mp z1)
  | some r0 =>
    refine ⟨hb1.1, (c2 r0).mpr hb1.2.1, fun r hr1 z1 => ?_⟩
    have e1 := hb1.2.2 r hr1 ((c2 r).mp z1)
    rwa [c1 17 _ rfl, c1 17 _ rfl]
theorem ordL_sr {σ σ' : Sg} {b R : Nat} (c1 : sr σ σ') : ∀ {O : List Nat} {t : Nat}, ordL σ b R t O → ordL σ' b R t O := by
  intro O
  induction O with
  | nil => intro t h1; exact best_sr c1 h1
  | cons r O ih1 =>
    intro t h1
    refine ⟨best_sr c1 h1.1, ?_⟩
    rw [c1 17 _ rfl]
    exact ih1 h1.2
theorem ky_sr {σ σ' : Sg} (c1 : sr σ σ') (r : Nat) : ky σ' r = ky σ r := by
  have d1 : ∀ k, dp1 σ' r k = dp1 σ r k := fun k => by
    unfold dp1
    rw [c1 12 _ rfl, c1 12 _ rfl, dpt_cg (fun j => c1 1 j rfl)]
  have d2 : ∀ m, dps σ' r m = dps σ r m := fun m => by
    induction m with
    | zero => rfl
    | succ m ih1 => simp only [dps, ih1, d1]
  unfold ky
  rw [c1 10 _ rfl, c1 11 _ rfl, c1 13 _ rfl, d2]
theorem srt_sr {σ σ' : Sg} (c1 : sr σ σ') {b : Nat} : ∀ k, srt σ' b k = srt σ b k := by
  have a1 : ∀ x r, ahd σ' x r = ahd σ x r := fun x r => by unfold ahd; rw [ky_sr c1, ky_sr c1]
  intro k
  induction k with
  | zero => rfl
  | succ k ih1 =>
    have i1 : ∀ l, insR σ' k l = insR σ k l := fun l => by unfold insR; simp only [a1]
    simp only [srt, ih1, i1, c1 9 k rfl]
theorem rowS_sr {σ σ' : Sg} (c1 : sr σ σ') {b R : Nat} {O : List Nat} : rowS σ' b R O = rowS σ b R O := by
  have m1 : (fun (l : List Nat) (r : Nat) => mvS σ' r l) = fun (l : List Nat) (r : Nat) => mvS σ r l := by
    funext l r
    unfold mvS
    rw [c1 15 _ rfl, c1 16 _ rfl]
  unfold rowS
  rw [m1, srt_sr c1]
theorem apP_sr {σ σ' : Sg} (c1 : sr σ σ') {r s : Nat} {v vr : Nat → Int32} {ap : Nat → Bool} : ∀ k, apP σ' r s v vr ap k = apP σ r s v vr ap k := by
  have s1 : ∀ c x y, soP σ' c x y s v vr ap = soP σ c x y s v vr ap := fun c x y => by
    unfold soP
    rw [c1 3 _ rfl, c1 42 _ rfl]
    simp only [und_cg (fun j => c1 1 j rfl)]
  intro k
  induction k with
  | zero => rfl
  | succ k ih1 => simp only [apP, ih1, cnP, cCd, cXx, cYy, s1, c1 12 _ rfl]
/-- frames below d stay -/
def lw (d : Nat) (σ σ' : Sg) : Prop := (∀ j, j < 60 * d → σ' 22 j = σ 22 j ∧ σ' 26 j = σ 26 j) ∧ (∀ j, j < 4 * d → σ' 25 j = σ 25 j) ∧ ∀ j, j < d → σ' 23 j = σ 23 j ∧ σ' 24 j = σ 24 j ∧ σ' 27 j = σ 27 j
theorem lw.rf {d : Nat} {σ : Sg} : lw d σ σ := ⟨fun _ _ => ⟨rfl, rfl⟩, fun _ _ => rfl, fun _ _ => ⟨rfl, rfl, rfl⟩⟩
theorem lw.tr {d : Nat} {a b c : Sg} (h1 : lw d a b) (h2 : lw d b c) : lw d a c :=
  ⟨fun j q1 => ⟨(h2.1 j q1).1.trans (h1.1 j q1).1, (h2.1 j q1).2.trans (h1.1 j q1).2⟩, fun j q1 => (h2.2.1 j q1).trans (h1.2.1 j q1), fun j q1 => ⟨(h2.2.2 j q1).1.trans (h1.2.2 j q1).1, (h2.2.2 j q1).2.1.trans (h1.2.2 j q1).2.1, (h2.2.2 j q1).2.2.trans (h1.2.2 j q1).2.2⟩⟩
theorem lw.le {d d' : Nat} {a b : Sg} (h1 : lw d a b) (hd : d' ≤ d) : lw d' a b :=
  ⟨fun j q1 => h1.1 j (by omega), fun j q1 => h1.2.1 j (by omega), fun j q1 => h1.2.2 j (by omega)⟩
theorem us_o {σ : Sg} {k j k' j' : Nat} {x : Int32} (h1 : k' = k → j' ≠ j) : us σ k j x k' j' = σ k' j' := if_neg fun z1 => h1 z1.1 z1.2
theorem lw.us {d : Nat} {σ σ' : Sg} {k j : Nat} {x : Int32} (h1 : lw d σ σ') (a1 : k = 22 ∨ k = 26 → 60 * d ≤ j) (a2 : k = 25 → 4 * d ≤ j) (a3 : k = 23 ∨ k = 24 ∨ k = 27 → d ≤ j) : lw d σ (us σ' k j x) := by
  refine ⟨fun i q1 => ⟨?_, ?_⟩, fun i q1 => ?_, fun i q1 => ⟨?_, ?_, ?_⟩⟩
  · rw [us_o (fun z1 => by have := a1 (Or.inl z1.symm); omega)]; exact (h1.1 i q1).1
  · rw [us_o (fun z1 => by have := a1 (Or.inr z1.symm); omega)]; exact (h1.1 i q1).2
  · rw [us_o (fun z1 => by have := a2 z1.symm; omega)]; exact h1.2.1 i q1
  · rw [us_o (fun z1 => by have := a3 (Or.inl z1.symm); omega)]; exact (h1.2.2 i q1).1
  · rw [us_o (fun z1 => by have := a3 (Or.inr (Or.inl z1.symm)); omega)]; exact (h1.2.2 i q1).2.1
  · rw [us_o (fun z1 => by have := a3 (Or.inr (Or.inr z1.symm)); omega)]; exact (h1.2.2 i q1).2.2
/-- only field k0 has changed, from lo on -/
def fz (k0 lo : Nat) (σ σ' : Sg) : Prop := (∀ k j, k ≠ k0 → σ' k j = σ k j) ∧ ∀ j, j < lo → σ' k0 j = σ k0 j
theorem fz.rf {k0 lo : Nat} {σ : Sg} : fz k0 lo σ σ := ⟨fun _ _ _ => rfl, fun _ _ => rfl⟩
theorem fz.us {k0 lo : Nat} {σ σ' : Sg} {j : Nat} {x : Int32} (h1 : fz k0 lo σ σ') (hj : lo ≤ j) : fz k0 lo σ (us σ' k0 j x) :=
  ⟨fun k i q1 => by rw [us_k q1]; exact h1.1 k i q1, fun i q1 => by rw [us_j (by omega)]; exact h1.2 i q1⟩
/-- a book is pushed into frame d -/
def PU (σ σ' : Sg) (d b : Nat) (a : Int32) (l : List Nat) : Prop :=
  (∀ k j, ¬ (19 ≤ k ∧ k ≤ 27) → σ' k j = σ k j) ∧ lw d σ σ' ∧ σ' 21 0 = nI (d + 1) ∧ (∀ i x, l[i]? = some x → σ' 22 (60 * d + i) = nI x) ∧ σ' 23 d = nI l.length ∧ σ' 24 d = nI 0 ∧ σ' 27 d = a ∧ (∀ x, x < 4 → σ' 25 (4 * d + x) = σ 7 (4 * b + x)) ∧ ∀ r, r < 60 → σ' 26 (60 * d + r) = 0
theorem l_M_pu1 {h : Hp} {b d : Nat} {a : Int32} {l : List Nat} {σ1 : Sg} {Q : Option PV → Hp → Prop} (hd : d < 6) (e21 : σ1 21 0 = nI d) (M1 : Md σ1 l) (hl : l.length ≤ 60)
    (kk : ∀ σ, fz 22 (60 * d) σ1 σ → (∀ i x, l[i]? = some x → σ 22 (60 * d + i) = nI x) → S mM_pushes 4 0 0 Q 41 [some (vR (100, 0, 0)), some (vI (nI b)), some (vI a), some (vI (nI l.length))] [] (hM σ h) 0 0) :
    ∀ (n k : Nat) (σ : Sg), k + n = l.length → fz 22 (60 * d) σ1 σ → (∀ i x, i < k → l[i]? = some x → σ 22 (60 * d + i) = nI x) → S mM_pushes 4 0 0 Q 7 [some (vR (100, 0, 0)), some (vI (nI b)), some (vI a), some (vI (nI k))] [] (hM σ h) 0 0 := by
  intro n
  induction n with
  | zero =>
    intro k σ hk1 hf1 hi1
    have ek : k = l.length := by omega
    subst ek
    refine s_iload_n dM_pushes_7 rfl rfl ?_
    refine s_aload_n dM_pushes_8 rfl rfl ?_
    refine s_mgi dM_pushes_9 gf_M_157 rfl ?_
    refine s_top ((hf1.1 20 0 (by decide)).trans M1.1) ?_
    refine s_icmp_ge dM_pushes_12 (fun _ => ?_) (fun q => absurd (nI_le (Nat.le_refl _) (by omega)) q)
    exact kk σ hf1 (fun i x q1 => hi1 i x (List.getElem?_eq_some_iff.mp q1).1 q1)
  | succ n ih1 =>
    intro k σ hk1 hf1 hi1
    have hkl : k < l.length := by omega
    obtain ⟨x, hx1⟩ : ∃ x, l[k]? = some x := ⟨_, List.getElem?_eq_getElem hkl⟩
    refine s_iload_n dM_pushes_7 rfl rfl ?_
    refine s_aload_n dM_pushes_8 rfl rfl ?_
    refine s_mgi dM_pushes_9 gf_M_157 rfl ?_
    refine s_top ((hf1.1 20 0 (by decide)).trans M1.1) ?_
    refine s_icmp_ge dM_pushes_12 (fun q => absurd q (nI_ge hkl (by omega))) (fun _ => ?_)
    refine s_aload_n dM_pushes_15 rfl rfl ?_
    refine s_mga dM_pushes_16 gf_M_55 rfl ?_
    refine s_bipush (v := nI 60) dM_pushes_19 (by decide) ?_
    refine s_aload_n dM_pushes_21 rfl rfl ?_
    refine s_mgi dM_pushes_22 gf_M_184 rfl ?_
    refine s_top ((hf1.1 21 0 (by decide)).trans e21) ?_
    first | refine s_imulN dM_pushes_25 ?_ | refine s_imul dM_pushes_25 ?_
    refine s_iload_n dM_pushes_26 rfl rfl ?_
    first | refine s_iaddN dM_pushes_27 ?_ | refine s_iadd dM_pushes_27 ?_
    refine s_aload_n dM_pushes_28 rfl rfl ?_
    refine s_mga dM_pushes_29 gf_M_52 rfl ?_
    refine s_iload_n dM_pushes_32 rfl rfl ?_
    refine s_mald dM_pushes_33 rfl rfl (show _ < 60 by omega) rfl ?_
    refine s_top ((hf1.1 19 k (by decide)).trans (M1.2 k x hx1)) ?_
    refine s_mast dM_pushes_34 rfl rfl (show _ < 360 by omega) rfl ?_
    first | refine s_iincN dM_pushes_35 rfl rfl ?_ | refine s_iinc dM_pushes_35 rfl rfl ?_
    refine s_goto dM_pushes_38 ?_
    refine ih1 (k + 1) _ (by omega) (hf1.us (by omega)) (fun i y q1 q2 => ?_)
    by_cases c1 : i = k
    · subst c1
      rw [hx1] at q2
      cases q2
      exact us_s
    · rw [us_j (by omega)]
      exact hi1 i y (by omega) q2
theorem l_M_pu2 {h : Hp} {b d : Nat} {a : Int32} {σ1 : Sg} {Q : Option PV → Hp → Prop} (hd : d < 6) (hb : b < 12) (e21 : σ1 21 0 = nI d)
    (kk : ∀ σ, fz 25 (4 * d) σ1 σ → (∀ i, i < 4 → σ 25 (4 * d + i) = σ1 7 (4 * b + i)) → S mM_pushes 4 0 0 Q 110 [some (vR (100, 0, 0)), some (vI (nI b)), some (vI a), some (vI (nI 4))] [] (hM σ h) 0 0) :
    ∀ (n k : Nat) (σ : Sg), k + n = 4 → fz 25 (4 * d) σ1 σ → (∀ i, i < k → σ 25 (4 * d + i) = σ1 7 (4 * b + i)) → S mM_pushes 4 0 0 Q 76 [some (vR (100, 0, 0)), some (vI (nI b)), some (vI a), some (vI (nI k))] [] (hM σ h) 0 0 := by
  intro n
  induction n with
  | zero =>
    intro k σ hk1 hf1 hi1
    have ek : k = 4 := by omega
    subst ek
    refine s_iload_n dM_pushes_76 rfl rfl ?_
    refine s_iconst (v := nI 4) dM_pushes_77 (by decide) ?_
    refine s_icmp_ge dM_pushes_78 (fun _ => ?_) (fun q => absurd (nI_le (Nat.le_refl _) (by omega)) q)
    exact kk σ hf1 hi1
  | succ n ih1 =>
    intro k σ hk1 hf1 hi1
    refine s_iload_n dM_pushes_76 rfl rfl ?_
    refine s_iconst (v := nI 4) dM_pushes_77 (by decide) ?_
    refine s_icmp_ge dM_pushes_78 (fun q => absurd q (nI_ge (show k < 4 by omega) (by omega))) (fun _ => ?_)
    refine s_aload_n dM_pushes_81 rfl rfl ?_
    refine s_mga dM_pushes_82 gf_M_64 rfl ?_
    refine s_iconst (v := nI 4) dM_pushes_85 (by decide) ?_
    refine s_aload_n dM_pushes_86 rfl rfl ?_
    refine s_mgi dM_pushes_87 gf_M_184 rfl ?_
    refine s_top ((hf1.1 21 0 (by decide)).trans e21) ?_
    first | refine s_imulN dM_pushes_90 ?_ | refine s_imul dM_pushes_90 ?_
    refine s_iload_n dM_pushes_91 rfl rfl ?_
    first | refine s_iaddN dM_pushes_92 ?_ | refine s_iadd dM_pushes_92 ?_
    refine s_aload_n dM_pushes_93 rfl rfl ?_
    refine s_mga dM_pushes_94 gf_M_22 rfl ?_
    refine s_iconst (v := nI 4) dM_pushes_97 (by decide) ?_
    refine s_iload_n dM_pushes_98 rfl rfl ?_
    first | refine s_imulN dM_pushes_99 ?_ | refine s_imul dM_pushes_99 ?_
    refine s_iload_n dM_pushes_100 rfl rfl ?_
    first | refine s_iaddN dM_pushes_101 ?_ | refine s_iadd dM_pushes_101 ?_
    refine s_mald dM_pushes_102 rfl rfl (show _ < 48 by omega) rfl ?_
    refine s_top (hf1.1 7 _ (by decide)) ?_
    refine s_mast dM_pushes_103 rfl rfl (show _ < 24 by omega) rfl ?_
    first | refine s_iincN dM_pushes_104 rfl rfl ?_ | refine s_iinc dM_pushes_104 rfl rfl ?_
    refine s_goto dM_pushes_107 ?_
    refine ih1 (k + 1) _ (by omega) (hf1.us (by omega)) (fun i q1 => ?_)
    by_cases c1 : i = k
    · subst c1
      exact us_s
    · rw [us_j (by omega)]
      exact hi1 i (by omega)
theorem l_M_pu3 {h : Hp} {b d : Nat} {a : Int32} {σ1 : Sg} {Q : Option PV → Hp → Prop} (hd : d < 6) (e21 : σ1 21 0 = nI d)
    (kk : ∀ σ, fz 26 (60 * d) σ1 σ → (∀ i, i < 60 → σ 26 (60 * d + i) = 0) → S mM_pushes 4 0 0 Q 139 [some (vR (100, 0, 0)), some (vI (nI b)), some (vI a), some (vI (nI 60))] [] (hM σ h) 0 0) :
    ∀ (n k : Nat) (σ : Sg), k + n = 60 → fz 26 (60 * d) σ1 σ → (∀ i, i < k → σ 26 (60 * d + i) = 0) → S mM_pushes 4 0 0 Q 112 [some (vR (100, 0, 0)), some (vI (nI b)), some (vI a), some (vI (nI k))] [] (hM σ h) 0 0 := by
  intro n
  induction n with
  | zero =>
    intro k σ hk1 hf1 hi1
    have ek : k = 60 := by omega
    subst ek
    refine s_iload_n dM_pushes_112 rfl rfl ?_
    refine s_bipush (v := nI 60) dM_pushes_113 (by decide) ?_
    refine s_icmp_ge dM_pushes_115 (fun _ => ?_) (fun q => absurd (nI_le (Nat.le_refl _) (by omega)) q)
    exact kk σ hf1 hi1
  | succ n ih1 =>
    intro k σ hk1 hf1 hi1
    refine s_iload_n dM_pushes_112 rfl rfl ?_
    refine s_bipush (v := nI 60) dM_pushes_113 (by decide) ?_
    refine s_icmp_ge dM_pushes_115 (fun q => absurd q (nI_ge (show k < 60 by omega) (by omega))) (fun _ => ?_)
    refine s_aload_n dM_pushes_118 rfl rfl ?_
    refine s_mga dM_pushes_119 gf_M_67 rfl ?_
    refine s_bipush (v := nI 60) dM_pushes_122 (by decide) ?_
    refine s_aload_n dM_pushes_124 rfl rfl ?_
    refine s_mgi dM_pushes_125 gf_M_184 rfl ?_
    refine s_top ((hf1.1 21 0 (by decide)).trans e21) ?_
    first | refine s_imulN dM_pushes_128 ?_ | refine s_imul dM_pushes_128 ?_
    refine s_iload_n dM_pushes_129 rfl rfl ?_
    first | refine s_iaddN dM_pushes_130 ?_ | refine s_iadd dM_pushes_130 ?_
    refine s_iconst (v := 0) dM_pushes_131 (by decide) ?_
    refine s_mzst dM_pushes_132 rfl rfl (by first | exact Or.inl rfl | exact Or.inr rfl | assumption) (show _ < 360 by omega) rfl ?_
    first | refine s_iincN dM_pushes_133 rfl rfl ?_ | refine s_iinc dM_pushes_133 rfl rfl ?_
    refine s_goto dM_pushes_136 ?_
    refine ih1 (k + 1) _ (by omega) (hf1.us (by omega)) (fun i q1 => ?_)
    by_cases c1 : i = k
    · subst c1
      exact us_s
    · rw [us_j (by omega)]
      exact hi1 i (by omega)
theorem c_M_pushes {σ : Sg} {h : Hp} {R K b d : Nat} {a : Int32} {O : List Nat} (W0 : RW σ R K) (hb : b < 12) (ho : ordL σ b R 0 O) (hd : d < 6) (e21 : σ 21 0 = nI d) (ha : a = 0 ∨ a = 1) : Con mM_pushes 4 0 0 [vR (100, 0, 0), vI (nI b), vI a] (hM σ h) (fun v h' => v = none ∧ ∃ σ', h' = hM σ' h ∧ PU σ σ' d b a (rowS σ b R O)) := by
  have hR60 := W0.2.1.1
  have hlen := rowS_len (σ := σ) (b := b) (R := R) (O := O)
  refine c_enter (by decide +kernel) rfl rfl ?_
  refine s_aload_n dM_pushes_0 rfl rfl ?_
  refine s_iload_n dM_pushes_1 rfl rfl ?_
  refine s_callV (As := [_]) dM_pushes_2 cv_M_181 hM_o (c_M_makes W0 (by omega) ho) rfl rfl rfl rfl (fun v h' q => ?_)
  obtain ⟨rfl, σ1, rfl, s1, M1⟩ := q
  generalize rowS σ b R O = l at hlen M1
  have e1 : σ1 21 0 = nI d := (s1 21 0 (by decide) (by decide)).trans e21
  refine s_iconst (v := 0) dM_pushes_5 (by decide) ?_
  refine s_istore_n dM_pushes_6 rfl rfl ?_
  refine l_M_pu1 hd e1 M1 (by omega) (fun σ2 f2 g2 => ?_) l.length 0 σ1 (by omega) fz.rf (fun i x q1 => by omega)
  have e2 : σ2 21 0 = nI d := (f2.1 21 0 (by decide)).trans e1
  have e3 : σ2 20 0 = nI l.length := (f2.1 20 0 (by decide)).trans M1.1
  have e4 : ∀ a1 a2 x y, us (us σ2 23 a1 x) 24 a2 y 21 0 = nI d := fun a1 a2 x y => by rw [us_k (by decide), us_k (by decide)]; exact e2
  refine s_aload_n dM_pushes_41 rfl rfl ?_
  refine s_mga dM_pushes_42 gf_M_58 rfl ?_
  refine s_aload_n dM_pushes_45 rfl rfl ?_
  refine s_mgi dM_pushes_46 gf_M_184 rfl ?_
  refine s_top e2 ?_
  refine s_aload_n dM_pushes_49 rfl rfl ?_
  refine s_mgi dM_pushes_50 gf_M_157 rfl ?_
  refine s_top e3 ?_
  refine s_mast dM_pushes_53 rfl rfl (show _ < 6 by omega) rfl ?_
  refine s_aload_n dM_pushes_54 rfl rfl ?_
  refine s_mga dM_pushes_55 gf_M_61 rfl ?_
  refine s_aload_n dM_pushes_58 rfl rfl ?_
  refine s_mgi dM_pushes_59 gf_M_184 rfl ?_
  refine s_top ((us_k (by decide)).trans e2) ?_
  refine s_iconst (v := 0) dM_pushes_62 (by decide) ?_
  refine s_mast dM_pushes_63 rfl rfl (show _ < 6 by omega) rfl ?_
  refine s_aload_n dM_pushes_64 rfl rfl ?_
  refine s_mga dM_pushes_65 gf_M_71 rfl ?_
  refine s_aload_n dM_pushes_68 rfl rfl ?_
  refine s_mgi dM_pushes_69 gf_M_184 rfl ?_
  refine s_top (e4 _ _ _ _) ?_
  refine s_iload_n dM_pushes_72 rfl rfl ?_
  refine s_mzst dM_pushes_73 rfl rfl (by first | exact Or.inl rfl | exact Or.inr rfl | assumption) (show _ < 6 by omega) rfl ?_
  refine s_iconst (v := 0) dM_pushes_74 (by decide) ?_
  refine s_istore_n dM_pushes_75 rfl rfl ?_
  have e5 : ∀ a1 a2 a3 x y z, us (us (us σ2 23 a1 x) 24 a2 y) 27 a3 z 21 0 = nI d := fun a1 a2 a3 x y z => by rw [us_k (by decide)]; exact e4 _ _ _ _
  generalize e6 : us (us (us σ2 23 d (nI l.length)) 24 d 0) 27 d a = σ3
  have e7 : σ3 21 0 = nI d := by rw [← e6]; exact e5 _ _ _ _ _ _
  refine l_M_pu2 hd hb e7 (fun σ4 f4 g4 => ?_) 4 0 σ3 (by omega) fz.rf (fun i q1 => by omega)
  have e8 : σ4 21 0 = nI d := (f4.1 21 0 (by decide)).trans e7
  refine s_iconst (v := 0) dM_pushes_110 (by decide) ?_
  refine s_istore_n dM_pushes_111 rfl rfl ?_
  refine l_M_pu3 hd e8 (fun σ5 f5 g5 => ?_) 60 0 σ4 (by omega) fz.rf (fun i q1 => by omega)
  refine s_aload_n dM_pushes_139 rfl rfl ?_
  refine s_dup dM_pushes_140 rfl ?_
  refine s_mgi dM_pushes_141 gf_M_184 rfl ?_
  refine s_top ((f5.1 21 0 (by decide)).trans e8) ?_
  refine s_iconst (v := nI 1) dM_pushes_144 (by decide) ?_
  first | refine s_iaddN dM_pushes_145 ?_ | refine s_iadd dM_pushes_145 ?_
  refine s_mpi dM_pushes_146 gf_M_184 rfl rfl (by first | exact ⟨_, rfl⟩ | exact Or.inl rfl | exact Or.inr rfl) ?_
  refine s_vret dM_pushes_149 rfl (by first | exact Nat.le_refl _ | decide | omega) (by first | exact Nat.le_refl _ | decide | omega) ?_
  have t3 : ∀ k j, k ≠ 23 → k ≠ 24 → k ≠ 27 → σ3 k j = σ2 k j := fun k j q1 q2 q3 => by rw [← e6, us_k q3, us_k q2, us_k q1]
  refine ⟨rfl, _, rfl, fun k j q1 => ?_, ⟨fun j q1 => ⟨?_, ?_⟩, fun j q1 => ?_, fun j q1 => ⟨?_, ?_, ?_⟩⟩, us_s, fun i x q1 => ?_, ?_, ?_, ?_, fun x q1 => ?_, fun r q1 => ?_⟩
  · rw [us_k (by omega), f5.1 k j (by omega), f4.1 k j (by omega), t3 k j (by omega) (by omega) (by omega), f2.1 k j (by omega), s1 k j (by omega) (by omega)]
  · rw [us_k (by decide), f5.1 _ j (by decide), f4.1 _ j (by decide), t3 _ j (by decide) (by decide) (by decide), f2.2 j q1, s1 _ j (by decide) (by decide)]
  · rw [us_k (by decide), f5.2 j q1, f4.1 _ j (by decide), t3 _ j (by decide) (by decide) (by decide), f2.1 _ j (by decide), s1 _ j (by decide) (by decide)]
  · rw [us_k (by decide), f5.1 _ j (by decide), f4.2 j q1, t3 _ j (by decide) (by decide) (by decide), f2.1 _ j (by decide), s1 _ j (by decide) (by decide)]
  · rw [us_k (by decide), f5.1 _ j (by decide), f4.1 _ j (by decide), ← e6, us_k (by decide), us_k (by decide), us_j (by omega), f2.1 _ j (by decide), s1 _ j (by decide) (by decide)]
  · rw [us_k (by decide), f5.1 _ j (by decide), f4.1 _ j (by decide), ← e6, us_k (by decide), us_j (by omega), us_k (by decide), f2.1 _ j (by decide), s1 _ j (by decide) (by decide)]
  · rw [us_k (by decide), f5.1 _ j (by decide), f4.1 _ j (by decide), ← e6, us_j (by omega), us_k (by decide), us_k (by decide), f2.1 _ j (by decide), s1 _ j (by decide) (by decide)]
  · rw [us_k (by decide), f5.1 _ _ (by decide), f4.1 _ _ (by decide), t3 _ _ (by decide) (by decide) (by decide)]
    exact g2 i x q1
  · rw [us_k (by decide), f5.1 _ _ (by decide), f4.1 _ _ (by decide), ← e6, us_k (by decide), us_k (by decide), us_s]
  · rw [us_k (by decide), f5.1 _ _ (by decide), f4.1 _ _ (by decide), ← e6, us_k (by decide), us_s]
    rfl
  · rw [us_k (by decide), f5.1 _ _ (by decide), f4.1 _ _ (by decide), ← e6, us_s]
  · rw [us_k (by decide), f5.1 _ _ (by decide), g4 x q1, t3 _ _ (by decide) (by decide) (by decide), f2.1 _ _ (by decide), s1 _ _ (by decide) (by decide)]
  · rw [us_k (by decide)]
    exact g5 r q1
