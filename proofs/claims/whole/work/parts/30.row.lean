/-! makes, row -/
theorem dpt_cg {σ σ' : Sg} (hc1 : ∀ j, σ' 1 j = σ 1 j) : ∀ n k, dpt σ' n k = dpt σ n k := by
  intro n
  induction n with
  | zero => intro k; rfl
  | succ n ih1 => intro k; simp only [dpt, hc1, ih1]
theorem ky_cg {σ σ' : Sg} (hs1 : sm σ σ') (r : Nat) : ky σ' r = ky σ r := by
  have c1 : ∀ k j, k ≠ 19 → k ≠ 20 → σ' k j = σ k j := hs1
  have d1 : ∀ k, dp1 σ' r k = dp1 σ r k := fun k => by
    unfold dp1
    rw [c1 12 _ (by decide) (by decide), c1 12 _ (by decide) (by decide), dpt_cg (fun j => c1 1 j (by decide) (by decide))]
  have d2 : ∀ m, dps σ' r m = dps σ r m := fun m => by
    induction m with
    | zero => rfl
    | succ m ih1 => simp only [dps, ih1, d1]
  unfold ky
  rw [c1 10 _ (by decide) (by decide), c1 11 _ (by decide) (by decide), c1 13 _ (by decide) (by decide), d2]
theorem ahd_cg {σ σ' : Sg} (hs1 : sm σ σ') (a b : Nat) : ahd σ' a b = ahd σ a b := by
  unfold ahd
  rw [ky_cg hs1, ky_cg hs1]
theorem KP.sm {σ σ' : Sg} {K : Nat} (hs1 : sm σ σ') (P : KP σ K) : KP σ' K := by
  obtain ⟨p1, p2, p3, p4⟩ := P
  have c1 : ∀ k j, k ≠ 19 → k ≠ 20 → σ' k j = σ k j := hs1
  exact ⟨p1, p2, by rw [c1 1 0 (by decide) (by decide)]; exact p3, fun i a b => by rw [c1 1 i (by decide) (by decide)]; exact p4 i a b⟩
theorem RK.sm {σ σ' : Sg} {R K : Nat} (hs1 : sm σ σ') (P : RK σ R K) : RK σ' R K := by
  have c1 : ∀ k j, k ≠ 19 → k ≠ 20 → σ' k j = σ k j := hs1
  refine ⟨P.1, fun r hr1 => ?_⟩
  have l1 := P.2 r hr1
  simp only [c1 10 _ (by decide) (by decide), c1 11 _ (by decide) (by decide), c1 12 _ (by decide) (by decide), c1 13 _ (by decide) (by decide)]
  exact l1
theorem TP.sm {σ σ' : Sg} {R : Nat} (hs1 : sm σ σ') (P : TP σ R) : TP σ' R := by
  have c1 : ∀ k j, k ≠ 19 → k ≠ 20 → σ' k j = σ k j := hs1
  intro r hr1
  rw [c1 15 _ (by decide) (by decide), c1 17 _ (by decide) (by decide)]
  exact P r hr1
theorem best_cg {σ σ' : Sg} {b t k : Nat} {o : Option Nat} (hs1 : sm σ σ') (hb1 : best σ' b t k o) : best σ b t k o := by
  have c1 : ∀ k j, k ≠ 19 → k ≠ 20 → σ' k j = σ k j := hs1
  have c2 : ∀ r, cand σ' b t r ↔ cand σ b t r := fun r => by unfold cand; rw [c1 9 _ (by decide) (by decide), c1 15 _ (by decide) (by decide), c1 17 _ (by decide) (by decide)]
  cases o with
  | none => exact fun r hr1 z1 => hb1 r hr1 ((c2 r).mpr z1)
  | some r0 =>
    refine ⟨hb1.1, (c2 r0).mp hb1.2.1, fun r hr1 z1 => ?_⟩
    have e1 := hb1.2.2 r hr1 ((c2 r).mpr z1)
    rwa [c1 17 _ (by decide) (by decide), c1 17 _ (by decide) (by decide)] at e1
/-- a rule comes into the row -/
def insR (σ : Sg) (r : Nat) (l : List Nat) : List Nat := l.insertIdx (l.takeWhile fun x => ahd σ x r).length r
def srt (σ : Sg) (b : Nat) : Nat → List Nat
  | 0 => []
  | k + 1 => if σ 9 k = nI b then insR σ k (srt σ b k) else srt σ b k
theorem srt_mem {σ : Sg} {b : Nat} : ∀ {k x : Nat}, x ∈ srt σ b k → x < k := by
  intro k
  induction k with
  | zero => intro x hx1; cases hx1
  | succ k ih1 =>
    intro x hx1
    simp only [srt] at hx1
    split at hx1
    · rcases mem_of_inI hx1 with c1 | c1
      · omega
      · have := ih1 c1; omega
    · have := ih1 hx1; omega
theorem srt_len {σ : Sg} {b : Nat} : ∀ k, (srt σ b k).length ≤ k := by
  intro k
  induction k with
  | zero => exact Nat.le_refl _
  | succ k ih1 =>
    simp only [srt]
    split
    · have := in_len (l := srt σ b k) (p := ((srt σ b k).takeWhile fun x => ahd σ x k).length) (r := k)
      unfold insR
      omega
    · omega
theorem tw_len {p : Nat → Bool} : ∀ {l : List Nat} {j : Nat}, (∀ i x, i < j → l[i]? = some x → p x = true) → (j = l.length ∨ ∃ x, l[j]? = some x ∧ p x = false) → (l.takeWhile p).length = j := by
  intro l
  induction l with
  | nil =>
    intro j _ h2
    rcases h2 with h2 | ⟨x, h2, -⟩
    · simpa using h2.symm
    · simp at h2
  | cons a l ih1 =>
    intro j h1 h2
    cases j with
    | zero =>
      rcases h2 with h2 | ⟨x, h2, h3⟩
      · simp at h2
      · simp at h2
        subst h2
        simp [List.takeWhile, h3]
    | succ j =>
      have ha1 : p a = true := h1 0 a (by omega) (by simp)
      rw [List.takeWhile_cons, if_pos ha1, List.length_cons]
      congr 1
      refine ih1 (fun i x hi1 hx1 => h1 (i + 1) x (by omega) (by simpa using hx1)) ?_
      rcases h2 with h2 | ⟨x, h2, h3⟩
      · left; simpa using h2
      · exact Or.inr ⟨x, by simpa using h2, h3⟩
theorem l_M_ins {σ0 : Sg} {h : Hp} {l : List Nat} {R K b r : Nat} {Q : Option PV → Hp → Prop} {σ : Sg} (P : KP σ K) (L : RK σ R K) (hs : sm σ0 σ) (M0 : Md σ l) (hl : ∀ x ∈ l, x < R) (hr : r < R) (h60 : l.length < 60)
    (kk : S mM_makes 3 0 0 Q 55 [some (vR (100, 0, 0)), some (vI (nI b)), some (vI (nI r)), some (vI (nI (l.takeWhile fun x => ahd σ0 x r).length))] [] (hM σ h) 0 0) :
    ∀ (d j : Nat), j + d = l.length → (∀ i x, i < j → l[i]? = some x → ahd σ0 x r = true) → S mM_makes 3 0 0 Q 27 [some (vR (100, 0, 0)), some (vI (nI b)), some (vI (nI r)), some (vI (nI j))] [] (hM σ h) 0 0 := by
  intro d
  induction d with
  | zero =>
    intro j hj1 hp1
    have ej : j = l.length := by omega
    refine s_iload_n dM_makes_27 rfl rfl ?_
    refine s_aload_n dM_makes_28 rfl rfl ?_
    refine s_mgi dM_makes_29 gf_M_157 rfl ?_
    refine s_top M0.1 ?_
    refine s_icmp_ge dM_makes_32 (fun _ => ?_) (fun q => absurd (nI_le (by omega) (by omega)) q)
    rw [tw_len hp1 (Or.inl ej)] at kk
    exact kk
  | succ d ih1 =>
    intro j hj1 hp1
    have hjl : j < l.length := by omega
    obtain ⟨x, hx1⟩ : ∃ x, l[j]? = some x := ⟨_, List.getElem?_eq_getElem hjl⟩
    have hxR := hl x (List.mem_of_getElem? hx1)
    have hR60 := L.1
    cases hc1 : ahd σ0 x r with
    | true =>
      refine s_iload_n dM_makes_27 rfl rfl ?_
      refine s_aload_n dM_makes_28 rfl rfl ?_
      refine s_mgi dM_makes_29 gf_M_157 rfl ?_
      refine s_top M0.1 ?_
      refine s_icmp_ge dM_makes_32 (fun q => absurd q (nI_ge hjl (by omega))) (fun _ => ?_)
      refine s_aload_n dM_makes_35 rfl rfl ?_
      refine s_aload_n dM_makes_36 rfl rfl ?_
      refine s_mga dM_makes_37 gf_M_52 rfl ?_
      refine s_iload_n dM_makes_40 rfl rfl ?_
      refine s_mald dM_makes_41 rfl rfl (show _ < 60 by omega) rfl ?_
      refine s_top (M0.2 j x hx1) ?_
      refine s_iload_n dM_makes_42 rfl rfl ?_
      refine s_v2 dM_makes_43 cv_M_160 hM_o (c_M_isAhead P L hxR hr) rfl rfl rfl rfl ?_
      refine s_if_eq dM_makes_46 (fun q => absurd q (by rw [ahd_cg hs, hc1]; decide)) (fun _ => ?_)
      first | refine s_iincN dM_makes_49 rfl rfl ?_ | refine s_iinc dM_makes_49 rfl rfl ?_
      refine s_goto dM_makes_52 ?_
      refine ih1 (j + 1) (by omega) (fun i y hi1 hy1 => ?_)
      by_cases e1 : i = j
      · subst e1
        rw [hx1] at hy1
        cases hy1
        exact hc1
      · exact hp1 i y (by omega) hy1
    | false =>
      refine s_iload_n dM_makes_27 rfl rfl ?_
      refine s_aload_n dM_makes_28 rfl rfl ?_
      refine s_mgi dM_makes_29 gf_M_157 rfl ?_
      refine s_top M0.1 ?_
      refine s_icmp_ge dM_makes_32 (fun q => absurd q (nI_ge hjl (by omega))) (fun _ => ?_)
      refine s_aload_n dM_makes_35 rfl rfl ?_
      refine s_aload_n dM_makes_36 rfl rfl ?_
      refine s_mga dM_makes_37 gf_M_52 rfl ?_
      refine s_iload_n dM_makes_40 rfl rfl ?_
      refine s_mald dM_makes_41 rfl rfl (show _ < 60 by omega) rfl ?_
      refine s_top (M0.2 j x hx1) ?_
      refine s_iload_n dM_makes_42 rfl rfl ?_
      refine s_v2 dM_makes_43 cv_M_160 hM_o (c_M_isAhead P L hxR hr) rfl rfl rfl rfl ?_
      refine s_if_eq dM_makes_46 (fun _ => ?_) (fun q => absurd (by rw [ahd_cg hs, hc1]; rfl) q)
      rw [tw_len hp1 (Or.inr ⟨x, hx1, hc1⟩)] at kk
      exact kk
theorem l_M_srt {σ0 : Sg} {h : Hp} {R K b : Nat} {Q : Option PV → Hp → Prop} (P : KP σ0 K) (L : RK σ0 R K) (hR : σ0 8 0 = nI R)
    (kk : ∀ σ (o3 : Option PV), sm σ0 σ → Md σ (srt σ0 b R) → S mM_makes 3 0 0 Q 67 [some (vR (100, 0, 0)), some (vI (nI b)), some (vI (nI R)), o3] [] (hM σ h) 0 0) :
    ∀ (d k : Nat) (σ : Sg) (o3 : Option PV), k + d = R → sm σ0 σ → Md σ (srt σ0 b k) → S mM_makes 3 0 0 Q 7 [some (vR (100, 0, 0)), some (vI (nI b)), some (vI (nI k)), o3] [] (hM σ h) 0 0 := by
  have hR60 := L.1
  intro d
  induction d with
  | zero =>
    intro k σ o3 hk1 hs M0
    have ek : k = R := by omega
    subst ek
    have hR1 : σ 8 0 = nI k := (hs 8 0 (by decide) (by decide)).trans hR
    refine s_iload_n dM_makes_7 rfl rfl ?_
    refine s_aload_n dM_makes_8 rfl rfl ?_
    refine s_mgi dM_makes_9 gf_M_138 rfl ?_
    refine s_top hR1 ?_
    refine s_icmp_ge dM_makes_12 (fun _ => ?_) (fun q => absurd (nI_le (Nat.le_refl _) (by omega)) q)
    exact kk σ o3 hs M0
  | succ d ih1 =>
    intro k σ o3 hk1 hs M0
    have hkR : k < R := by omega
    have hR1 : σ 8 0 = nI R := (hs 8 0 (by decide) (by decide)).trans hR
    have e9 : σ 9 k = σ0 9 k := hs 9 k (by decide) (by decide)
    by_cases c1 : σ0 9 k = nI b
    · refine s_iload_n dM_makes_7 rfl rfl ?_
      refine s_aload_n dM_makes_8 rfl rfl ?_
      refine s_mgi dM_makes_9 gf_M_138 rfl ?_
      refine s_top hR1 ?_
      refine s_icmp_ge dM_makes_12 (fun q => absurd q (nI_ge hkR (by omega))) (fun _ => ?_)
      refine s_aload_n dM_makes_15 rfl rfl ?_
      refine s_mga dM_makes_16 gf_M_25 rfl ?_
      refine s_iload_n dM_makes_19 rfl rfl ?_
      refine s_mald dM_makes_20 rfl rfl (show _ < 60 by omega) rfl ?_
      refine s_iload_n dM_makes_21 rfl rfl ?_
      refine s_icmp_ne dM_makes_22 (fun q => absurd (by rw [e9]; exact c1) q) (fun _ => ?_)
      refine s_iconst (v := 0) dM_makes_25 (by decide) ?_
      refine s_istore_n dM_makes_26 rfl rfl ?_
      have hlen := srt_len (σ := σ0) (b := b) k
      refine l_M_ins (σ0 := σ0) (R := R) (K := K) (P.sm hs) (L.sm hs) hs M0 (fun x hx1 => by have := srt_mem hx1; omega) hkR (by omega) ?_ (srt σ0 b k).length 0 (by omega) (fun i x hi1 => by omega)
      refine s_aload_n dM_makes_55 rfl rfl ?_
      refine s_iload_n dM_makes_56 rfl rfl ?_
      refine s_iload_n dM_makes_57 rfl rfl ?_
      have htl : ((srt σ0 b k).takeWhile fun x => ahd σ0 x k).length ≤ (srt σ0 b k).length := (List.takeWhile_prefix _).length_le
      refine s_callV (As := [_, _]) dM_makes_58 cv_M_163 hM_o (c_M_comes M0 (by omega) htl) rfl rfl rfl rfl (fun v h' q => ?_)
      obtain ⟨rfl, σ1, rfl, s1, M1⟩ := q
      first | refine s_iincN dM_makes_61 rfl rfl ?_ | refine s_iinc dM_makes_61 rfl rfl ?_
      refine s_goto dM_makes_64 ?_
      refine ih1 (k + 1) σ1 _ (by omega) (hs.tr s1) ?_
      simp only [srt, if_pos c1]
      exact M1
    · refine s_iload_n dM_makes_7 rfl rfl ?_
      refine s_aload_n dM_makes_8 rfl rfl ?_
      refine s_mgi dM_makes_9 gf_M_138 rfl ?_
      refine s_top hR1 ?_
      refine s_icmp_ge dM_makes_12 (fun q => absurd q (nI_ge hkR (by omega))) (fun _ => ?_)
      refine s_aload_n dM_makes_15 rfl rfl ?_
      refine s_mga dM_makes_16 gf_M_25 rfl ?_
      refine s_iload_n dM_makes_19 rfl rfl ?_
      refine s_mald dM_makes_20 rfl rfl (show _ < 60 by omega) rfl ?_
      refine s_iload_n dM_makes_21 rfl rfl ?_
      refine s_icmp_ne dM_makes_22 (fun _ => ?_) (fun q => absurd q (by rw [e9]; exact c1))
      first | refine s_iincN dM_makes_61 rfl rfl ?_ | refine s_iinc dM_makes_61 rfl rfl ?_
      refine s_goto dM_makes_64 ?_
      refine ih1 (k + 1) σ _ (by omega) hs ?_
      simp only [srt, if_neg c1]
      exact M0
/-- the orders of a book, by their times -/
def ordL (σ : Sg) (b R : Nat) : Nat → List Nat → Prop
  | t, [] => best σ b t R none
  | t, r :: O => best σ b t R (some r) ∧ ordL σ b R (nt (σ 17 r)) O
/-- two orders have two times -/
def TD (σ : Sg) (R : Nat) : Prop := ∀ r r', r < R → r' < R → ¬ σ 15 r = -4 → ¬ σ 15 r' = -4 → nt (σ 17 r) = nt (σ 17 r') → r = r'
theorem best_one {σ : Sg} {b t R : Nat} {o o' : Option Nat} (D : TD σ R) (h1 : best σ b t R o) (h2 : best σ b t R o') : o = o' := by
  cases o with
  | none =>
    cases o' with
    | none => rfl
    | some r => exact absurd h2.2.1 (h1 r h2.1)
  | some r =>
    cases o' with
    | none => exact absurd h1.2.1 (h2 r h1.1)
    | some r' =>
      have e1 := h1.2.2 r' h2.1 h2.2.1
      have e2 := h2.2.2 r h1.1 h1.2.1
      rw [D r r' h1.1 h2.1 h1.2.1.2.1 h2.2.1.2.1 (by omega)]
def rowS (σ : Sg) (b R : Nat) (O : List Nat) : List Nat := O.foldl (fun l r => mvS σ r l) (srt σ b R)
theorem l_M_ord {σ0 : Sg} {h : Hp} {R K b : Nat} {Q : Option PV → Hp → Prop} (hR : σ0 8 0 = nI R) (hR60 : R ≤ 60) (T : TP σ0 R) (D : TD σ0 R) (O1 : OP σ0 R) (hB : ∀ r, r < R → ∃ c, c < 2 ^ 20 ∧ σ0 9 r = nI c) (hb : b < 2 ^ 20) :
    ∀ (O l : List Nat) (t : Nat) (σ : Sg) (o : Option Nat) (z2 : Int32), ordL σ0 b R t O → best σ0 b t R o → sm σ0 σ → Md σ l → (∀ x ∈ l, x < R) → l.length ≤ R → (∀ σ', sm σ0 σ' → Md σ' (O.foldl (fun l r => mvS σ0 r l) l) → Q none (hM σ' h)) →
      S mM_makes 3 0 0 Q 76 [some (vR (100, 0, 0)), some (vI (nI b)), some (vI z2), some (vI (oI o))] [] (hM σ h) 0 0 := by
  intro O
  induction O with
  | nil =>
    intro l t σ o z2 ho hbo hs M0 hl1 hl2 hq
    have eo := best_one D hbo ho
    subst eo
    refine s_iload_n dM_makes_76 rfl rfl ?_
    refine s_bipush (v := (-4)) dM_makes_77 (by decide) ?_
    refine s_icmp_eq dM_makes_79 (fun _ => ?_) (fun q => absurd rfl q)
    refine s_vret dM_makes_104 rfl (by first | exact Nat.le_refl _ | decide | omega) (by first | exact Nat.le_refl _ | decide | omega) ?_
    exact hq σ hs M0
  | cons r O ih1 =>
    intro l t σ o z2 ho hbo hs M0 hl1 hl2 hq
    obtain ⟨ho1, ho2⟩ := ho
    have eo := best_one D hbo ho1
    subst eo
    have hr1 := ho1.1
    have hc1 := ho1.2.1
    obtain ⟨w, hw1, ew, hab⟩ := O1 r hr1 hc1.2.1
    obtain ⟨t1, ht0, ht1, et⟩ := T r hr1 hc1.2.1
    have ent : nt (σ0 17 r) = t1 := by rw [et]; exact nt_nI (by omega)
    have ew1 : σ 15 r = nI w := (hs 15 r (by decide) (by decide)).trans ew
    have emv : mvS σ0 r l = mvR w (nt (σ0 16 r)) r l := by unfold mvS; rw [ew, nt_nI (by omega)]
    refine s_iload_n dM_makes_76 rfl rfl ?_
    refine s_bipush (v := (-4)) dM_makes_77 (by decide) ?_
    refine s_icmp_eq dM_makes_79 (fun q => absurd q (nI_m4 (by omega))) (fun _ => ?_)
    refine s_aload_n dM_makes_82 rfl rfl ?_
    refine s_iload_n dM_makes_83 rfl rfl ?_
    refine s_callV (As := [_]) dM_makes_84 cv_M_171 hM_o (c_M_moves (o := nt (σ0 16 r)) M0 (by omega) hR60 hl1 hr1 hw1 ew1 (fun z1 => by obtain ⟨o1, q1, q2, q3⟩ := hab z1; have e3 : nt (σ0 16 r) = o1 := (by rw [q3]; exact nt_nI (by omega)); rw [e3]; exact ⟨q1, q2, (hs 16 r (by decide) (by decide)).trans q3⟩)) rfl rfl rfl rfl (fun v h' q => ?_)
    obtain ⟨rfl, σ1, rfl, s1, M1⟩ := q
    have s01 := hs.tr s1
    have et1 : σ1 17 r = nI t1 := (s01 17 r (by decide) (by decide)).trans et
    refine s_aload_n dM_makes_87 rfl rfl ?_
    refine s_mga dM_makes_88 gf_M_49 rfl ?_
    refine s_iload_n dM_makes_91 rfl rfl ?_
    refine s_mald dM_makes_92 rfl rfl (show _ < 60 by omega) rfl ?_
    refine s_top et1 ?_
    refine s_istore_n dM_makes_93 rfl rfl ?_
    refine s_aload_n dM_makes_94 rfl rfl ?_
    refine s_iload_n dM_makes_95 rfl rfl ?_
    refine s_iload_n dM_makes_96 rfl rfl ?_
    refine s_callV (As := [_, _]) dM_makes_97 cv_M_167 hM_o (c_M_nextOrder ((s01 8 0 (by decide) (by decide)).trans hR) hR60 (T.sm s01) (fun r' hr' => by obtain ⟨c, q1, q2⟩ := hB r' hr'; exact ⟨c, q1, (s01 9 r' (by decide) (by decide)).trans q2⟩) hb (by omega)) rfl rfl rfl rfl (fun v h' q => ?_)
    obtain ⟨rfl, o', rfl, hbo'⟩ := q
    have hbo2 := best_cg s01 hbo'
    refine s_istore_n dM_makes_100 rfl rfl ?_
    refine s_goto dM_makes_101 ?_
    rw [ent] at ho2
    refine ih1 (mvS σ0 r l) t1 σ1 o' _ ho2 hbo2 s01 (by rw [emv]; exact M1) (fun x hx1 => ?_) (Nat.le_trans mv_len hl2) hq
    rcases mv_mem hx1 with c3 | c3
    · rw [c3]; exact hr1
    · exact hl1 x c3
/-- what the reference's rows stand on -/
def RW (σ : Sg) (R K : Nat) : Prop := KP σ K ∧ RK σ R K ∧ σ 8 0 = nI R ∧ TP σ R ∧ TD σ R ∧ OP σ R ∧ ∀ r, r < R → ∃ c, c < 2 ^ 20 ∧ σ 9 r = nI c
theorem c_M_makes {σ : Sg} {h : Hp} {R K b : Nat} {O : List Nat} (W0 : RW σ R K) (hb : b < 2 ^ 20) (ho : ordL σ b R 0 O) : Con mM_makes 3 0 0 [vR (100, 0, 0), vI (nI b)] (hM σ h) (fun v h' => v = none ∧ ∃ σ', h' = hM σ' h ∧ sm σ σ' ∧ Md σ' (rowS σ b R O)) := by
  obtain ⟨P, L, hR, T, D, O1, hB⟩ := W0
  have hR60 := L.1
  refine c_enter (by decide +kernel) rfl rfl ?_
  refine s_aload_n dM_makes_0 rfl rfl ?_
  refine s_iconst (v := 0) dM_makes_1 (by decide) ?_
  refine s_mpi dM_makes_2 gf_M_157 rfl rfl (by first | exact ⟨_, rfl⟩ | exact Or.inl rfl | exact Or.inr rfl) ?_
  refine s_iconst (v := 0) dM_makes_5 (by decide) ?_
  refine s_istore_n dM_makes_6 rfl rfl ?_
  refine l_M_srt (σ0 := σ) P L hR (fun σ1 o3 s1 M1 => ?_) R 0 _ none (by omega) sm.rf.u20 ⟨us_s, fun i x hi1 => by simp [srt] at hi1⟩
  refine s_iconst (v := 0) dM_makes_67 (by decide) ?_
  refine s_istore_n dM_makes_68 rfl rfl ?_
  refine s_aload_n dM_makes_69 rfl rfl ?_
  refine s_iload_n dM_makes_70 rfl rfl ?_
  refine s_iload_n dM_makes_71 rfl rfl ?_
  refine s_callV (As := [_, _]) dM_makes_72 cv_M_167 hM_o (c_M_nextOrder (t := 0) ((s1 8 0 (by decide) (by decide)).trans hR) hR60 (T.sm s1) (fun r' hr' => by obtain ⟨c, q1, q2⟩ := hB r' hr'; exact ⟨c, q1, (s1 9 r' (by decide) (by decide)).trans q2⟩) hb (by omega)) rfl rfl rfl rfl (fun v h' q => ?_)
  obtain ⟨rfl, o', rfl, hbo'⟩ := q
  refine s_istore_n dM_makes_75 rfl rfl ?_
  exact l_M_ord (K := K) hR hR60 T D O1 hB hb O (srt σ b R) 0 σ1 o' 0 ho (best_cg s1 hbo') s1 M1 (fun x hx1 => srt_mem hx1) (srt_len R) (fun σ' s2 M2 => ⟨rfl, σ', rfl, s2, M2⟩)
def fRow (l : List Nat) (i : Int32) : Int32 := match ix i l.length with
  | some j => nI (l.getD j 0)
  | none => -4
theorem rowS_len {σ : Sg} {b R : Nat} {O : List Nat} : (rowS σ b R O).length ≤ R := by
  unfold rowS
  have g1 : ∀ (O l : List Nat), l.length ≤ R → (O.foldl (fun l r => mvS σ r l) l).length ≤ R := by
    intro O
    induction O with
    | nil => intro l hl1; exact hl1
    | cons r O ih1 => intro l hl1; exact ih1 _ (Nat.le_trans mv_len hl1)
  exact g1 O _ (srt_len R)
theorem c_M_row {σ : Sg} {h : Hp} {R K B : Nat} (b i : Int32) (O : Nat → List Nat) (W0 : RW σ R K) (hB : σ 5 0 = nI B) (hB2 : B ≤ 12) (ho : ∀ c, c < B → ordL σ c R 0 (O c)) : Con mM_row 4 0 0 [vR (100, 0, 0), vI b, vI i] (hM σ h) (fun v h' => ∃ σ', h' = hM σ' h ∧ sm σ σ' ∧ v = some (vI (match ix b B with | none => -1 | some c => fRow (rowS σ c R (O c)) i))) := by
  have hR60 := W0.2.1.1
  refine c_enter (by decide +kernel) rfl rfl ?_
  rcases iz_cases b (K := B) (by omega) with ⟨e1, hz⟩ | ⟨c, hc1, rfl, e1⟩
  · rw [e1]
    refine s_aload_n dM_row_0 rfl rfl ?_
    refine s_iload_n dM_row_1 rfl rfl ?_
    refine s_v1 dM_row_2 cv_M_135 hM_o (c_M_isBook hB (by omega) hz) rfl rfl rfl rfl ?_
    refine s_if_ne dM_row_5 (fun q => absurd rfl q) (fun _ => ?_)
    refine s_iconst (v := (-1)) dM_row_8 (by decide) ?_
    refine s_iret dM_row_9 rfl (by first | exact Nat.le_refl _ | decide | omega) (by first | exact Nat.le_refl _ | decide | omega) ?_
    exact ⟨σ, rfl, sm.rf, rfl⟩
  · rw [e1]
    refine s_aload_n dM_row_0 rfl rfl ?_
    refine s_iload_n dM_row_1 rfl rfl ?_
    refine s_v1 dM_row_2 cv_M_135 hM_o (c_M_isBook hB (by omega) (Iz1 hc1)) rfl rfl rfl rfl ?_
    refine s_if_ne dM_row_5 (fun _ => ?_) (fun q => absurd q (by decide))
    refine s_aload_n dM_row_10 rfl rfl ?_
    refine s_iload_n dM_row_11 rfl rfl ?_
    refine s_callV (As := [_]) dM_row_12 cv_M_181 hM_o (c_M_makes (O := O c) W0 (by omega) (ho c hc1)) rfl rfl rfl rfl (fun v h' q => ?_)
    obtain ⟨rfl, σ1, rfl, s1, M1⟩ := q
    have hl1 := rowS_len (σ := σ) (b := c) (R := R) (O := O c)
    dsimp only
    unfold fRow
    rcases iz_cases i (K := (rowS σ c R (O c)).length) (by omega) with ⟨e2, hz⟩ | ⟨j, hj1, rfl, e2⟩
    · rw [e2]
      refine s_iload_n dM_row_15 rfl rfl ?_
      refine s_iconst (v := 0) dM_row_16 (by decide) ?_
      refine s_aload_n dM_row_17 rfl rfl ?_
      refine s_mgi dM_row_18 gf_M_157 rfl ?_
      refine s_top M1.1 ?_
      refine s_iconst (v := nI 1) dM_row_21 (by decide) ?_
      first | refine s_isubN dM_row_22 (by omega) ?_ | refine s_isub dM_row_22 ?_
      refine s_t3 dM_row_23 cs_M_117 (c_inZ (by omega) hz) rfl rfl rfl rfl ?_
      refine s_if_eq dM_row_26 (fun _ => ?_) (fun q => absurd rfl q)
      refine s_bipush (v := (-4)) dM_row_38 (by decide) ?_
      refine s_iret dM_row_40 rfl (by first | exact Nat.le_refl _ | decide | omega) (by first | exact Nat.le_refl _ | decide | omega) ?_
      exact ⟨σ1, rfl, s1, rfl⟩
    · rw [e2]
      have eg : (rowS σ c R (O c))[j]? = some ((rowS σ c R (O c)).getD j 0) := by rw [List.getD_eq_getElem?_getD, List.getElem?_eq_getElem hj1]; rfl
      refine s_iload_n dM_row_15 rfl rfl ?_
      refine s_iconst (v := 0) dM_row_16 (by decide) ?_
      refine s_aload_n dM_row_17 rfl rfl ?_
      refine s_mgi dM_row_18 gf_M_157 rfl ?_
      refine s_top M1.1 ?_
      refine s_iconst (v := nI 1) dM_row_21 (by decide) ?_
      first | refine s_isubN dM_row_22 (by omega) ?_ | refine s_isub dM_row_22 ?_
      refine s_t3 dM_row_23 cs_M_117 (c_inZ (by omega) (Iz1 hj1)) rfl rfl rfl rfl ?_
      refine s_if_eq dM_row_26 (fun q => absurd q (by decide)) (fun _ => ?_)
      refine s_aload_n dM_row_29 rfl rfl ?_
      refine s_mga dM_row_30 gf_M_52 rfl ?_
      refine s_iload_n dM_row_33 rfl rfl ?_
      refine s_mald dM_row_34 rfl rfl (show _ < 60 by omega) rfl ?_
      refine s_top (M1.2 j _ eg) ?_
      refine s_goto dM_row_35 ?_
      refine s_iret dM_row_40 rfl (by first | exact Nat.le_refl _ | decide | omega) (by first | exact Nat.le_refl _ | decide | omega) ?_
      exact ⟨σ1, rfl, s1, rfl⟩
