/-! what runs answer -/
def eK (R : Nat) (g : Gs) : Prop := ge g = 0 ∨ ∃ r, r < R ∧ gs g = nI r
theorem goL_ok {sub : Nat → Nat → Gs → Gs × Int32} {σ : Sg} {s d R B : Nat} (D : DP σ R B) (hB : B ≤ 12) (hsub : ∀ r b g, r < R → b < B → ge g = 0 → eK R (sub r b g).1 ∧ ∃ k, k ≤ 99 ∧ (sub r b g).2 = nI k) :
    ∀ (l : List Nat) (g : Gs) (vr : Nat → Int32) (ap : Nat → Bool), (∀ x ∈ l, x < R) → ge g = 0 → eK R (goL sub σ s d l g vr ap).1 ∧ ∃ k, k ≤ 99 ∧ (goL sub σ s d l g vr ap).2 = nI k := by
  intro l
  induction l with
  | nil => intro g vr ap _ hg; exact ⟨Or.inl hg, 0, by omega, rfl⟩
  | cons r l ih1 =>
    intro g vr ap hl hg
    have hr := hl r List.mem_cons_self
    have ih := fun g vr ap q1 => ih1 g vr ap (fun x hx1 => hl x (List.mem_cons_of_mem _ hx1)) q1
    by_cases c1 : gn g = 300
    · rw [goL, if_pos c1]
      exact ⟨Or.inr ⟨r, hr, rfl⟩, 0, by omega, rfl⟩
    · cases ha : apP σ r s (gv g) vr ap (nt (σ 13 r)) with
      | false =>
        rw [goL, if_neg c1, if_pos ha]
        exact ih _ _ _ hg
      | true =>
        rw [goL_a c1 ha]
        obtain ⟨c, hc8, ec, h1, h28, h48, h56⟩ := D r hr
        have edc : dC σ r = c := by show nt (σ 14 (3 * r)) = c; rw [ec, nt_nI (by omega)]
        rw [edc]
        rcases (show c = 0 ∨ c = 1 ∨ c = 2 ∨ c = 3 ∨ c = 4 ∨ c = 5 ∨ c = 6 ∨ c = 7 ∨ c = 8 by omega) with rfl | rfl | rfl | rfl | rfl | rfl | rfl | rfl | rfl
        · exact ih _ _ _ hg
        · obtain ⟨x, x1, x2, ex⟩ := h1 rfl
          refine ⟨Or.inl hg, x, x2, ?_⟩
          show nI (nt (σ 14 (3 * r + 1))) = nI x
          rw [ex, nt_nI (by omega)]
        · exact ih _ _ _ hg
        · exact ih _ _ _ hg
        · show eK R (if vr (nt (dY σ r)) = 0 then _ else _ : Gs × Int32).1 ∧ ∃ k, k ≤ 99 ∧ (if vr (nt (dY σ r)) = 0 then _ else _ : Gs × Int32).2 = nI k
          by_cases c2 : vr (nt (dY σ r)) = 0
          · rw [if_pos c2]
            exact ⟨Or.inr ⟨r, hr, rfl⟩, 0, by omega, rfl⟩
          · rw [if_neg c2]
            exact ih _ _ _ hg
        · obtain ⟨x, hx, ex⟩ := h56 (Or.inl rfl)
          have edx : dX σ r = x := by show nt (σ 14 (3 * r + 1)) = x; rw [ex, nt_nI (by omega)]
          have hs1 := hsub r (dX σ r) (gtr g r true d) hr (by omega) hg
          show eK R (if ge (sub r (dX σ r) (gtr g r true d)).1 ≠ 0 then _ else _ : Gs × Int32).1 ∧ ∃ k, k ≤ 99 ∧ (if ge (sub r (dX σ r) (gtr g r true d)).1 ≠ 0 then _ else _ : Gs × Int32).2 = nI k
          by_cases c2 : ge (sub r (dX σ r) (gtr g r true d)).1 = 0
          · rw [if_neg (fun q0 => q0 c2)]
            exact ih _ _ _ c2
          · rw [if_pos c2]
            exact ⟨hs1.1, 0, by omega, rfl⟩
        · obtain ⟨x, hx, ex⟩ := h56 (Or.inr rfl)
          have edx : dX σ r = x := by show nt (σ 14 (3 * r + 1)) = x; rw [ex, nt_nI (by omega)]
          have hs1 := hsub r (dX σ r) (gtr g r true d) hr (by omega) hg
          show eK R (if ge (sub r (dX σ r) (gtr g r true d)).1 ≠ 0 then _ else _ : Gs × Int32).1 ∧ ∃ k, k ≤ 99 ∧ (if ge (sub r (dX σ r) (gtr g r true d)).1 ≠ 0 then _ else _ : Gs × Int32).2 = nI k
          by_cases c2 : ge (sub r (dX σ r) (gtr g r true d)).1 = 0
          · rw [if_neg (fun q0 => q0 c2)]
            by_cases c3 : (sub r (dX σ r) (gtr g r true d)).2 = 0
            · rw [if_neg (fun q0 => q0 c3)]
              exact ih _ _ _ c2
            · rw [if_pos c3]
              exact hs1
          · rw [if_pos c2]
            exact ⟨hs1.1, 0, by omega, rfl⟩
        · exact ⟨Or.inl hg, 0, by omega, rfl⟩
        · exact ih _ _ _ hg
theorem runS_ok {σ : Sg} {rw0 : Nat → List Nat} {s R B : Nat} (D : DP σ R B) (hB : B ≤ 12) (hrw : ∀ b, b < B → ∀ r ∈ rw0 b, r < R) : ∀ (n r b : Nat) (g : Gs), (n = 0 → r < R) → b < B → ge g = 0 → eK R (runS σ rw0 s n r b g).1 ∧ ∃ k, k ≤ 99 ∧ (runS σ rw0 s n r b g).2 = nI k := by
  intro n
  induction n with
  | zero => intro r b g hr _ _; exact ⟨Or.inr ⟨r, hr rfl, rfl⟩, 0, by omega, rfl⟩
  | succ n ih1 =>
    intro r b g _ hb hg
    exact goL_ok D hB (fun r b g q1 q2 q3 => ih1 r b g (fun _ => q1) q2 q3) (rw0 b) g _ _ (hrw b hb) hg
theorem m10 {r : Nat} (h1 : r < 60) : ¬ -10 < -10 - nI r := by
  rw [Int32.lt_iff_toInt_lt, Int32.toInt_sub, nI_toInt (by omega)]
  have e2 : (-10 : Int32).toInt = -10 := by decide
  rw [e2, Int.bmod_eq_of_le (by omega) (by omega)]
  omega
theorem k_m2 {k : Nat} (h1 : k ≤ 99) : -2 < nI k := by
  rw [Int32.lt_iff_toInt_lt, nI_toInt (by omega)]
  have e2 : (-2 : Int32).toInt = -2 := by decide
  omega
theorem k_m10 {k : Nat} (h1 : k ≤ 99) : -10 < nI k := by
  rw [Int32.lt_iff_toInt_lt, nI_toInt (by omega)]
  have e2 : (-10 : Int32).toInt = -10 := by decide
  omega
/-- the books' defaults -/
def BD (σ : Sg) (B : Nat) : Prop := ∀ b, b < B → ∃ k, k ≤ 99 ∧ σ 6 b = nI k
theorem aN_ok {σ : Sg} {rw0 : Nat → List Nat} {s R B b : Nat} {g : Gs} (D : DP σ R B) (hB : B ≤ 12) (hR : R ≤ 60) (hrw : ∀ b, b < B → ∀ r ∈ rw0 b, r < R) (E : BD σ B) (hb : b < B) : (ge (runS σ rw0 s 6 0 b (gf g)).1 = 0 ∧ ∃ k, k ≤ 99 ∧ aN σ b (runS σ rw0 s 6 0 b (gf g)) = nI k) ∨ (¬ ge (runS σ rw0 s 6 0 b (gf g)).1 = 0 ∧ ∃ r, r < 60 ∧ aN σ b (runS σ rw0 s 6 0 b (gf g)) = -10 - nI r) := by
  obtain ⟨e1, k, hk, e2⟩ := runS_ok (s := s) D hB hrw 6 0 b (gf g) (fun q0 => by omega) hb rfl
  unfold aN
  generalize runS σ rw0 s 6 0 b (gf g) = F at e1 e2 ⊢
  by_cases c1 : ge F.1 = 0
  · refine Or.inl ⟨c1, ?_⟩
    rw [if_pos c1]
    by_cases c2 : F.2 = 0
    · rw [if_pos c2]; exact E b hb
    · rw [if_neg c2]; exact ⟨k, hk, e2⟩
  · refine Or.inr ⟨c1, ?_⟩
    rw [if_neg c1]
    rcases e1 with e1 | ⟨r, hr, e1⟩
    · exact absurd e1 c1
    · exact ⟨r, by omega, by rw [e1]⟩
theorem fPart_ok {σ : Sg} {rw0 : Nat → List Nat} {s R B A a p : Nat} {g : Gs} (D : DP σ R B) (hB : B ≤ 12) (hR : R ≤ 60) (hrw : ∀ b, b < B → ∀ r ∈ rw0 b, r < R) (E : BD σ B) (V : VP σ A B) (ha : a < A) (hp : p < 3) : -2 < (fPart σ rw0 a p s g).1 ∨ ¬ -10 < (fPart σ rw0 a p s g).1 := by
  unfold fPart
  rcases V.2 a p ha hp with e1 | ⟨b, hb, e1⟩
  · rw [if_pos e1]
    exact Or.inl (show (-2 : Int32) < 0 by decide)
  · rw [if_neg (by rw [e1]; exact nI_m4 (by omega)), show nt (σ 36 (3 * a + p)) = b by rw [e1, nt_nI (by omega)]]
    dsimp only
    rcases aN_ok (s := s) (g := g) D hB hR hrw E hb with ⟨-, k, hk, e2⟩ | ⟨-, r, hr, e2⟩
    · rw [e2]; exact Or.inl (k_m2 hk)
    · rw [e2]; exact Or.inr (m10 hr)
/-! rounds of the class -/
theorem stp_f {σ : Sg} {s n : Nat} (h49 : σ 49 0 = nI n) (hn : n ≤ 16) (h1 : ¬ ((σ 42 s = 1 ∨ σ 43 s = 0 ∨ σ 41 s = 1) ∧ isEv σ (nI (eOf σ s)) n = false ∧ met σ (eOf σ s) n = true)) : stp σ s = σ := by
  unfold stp evN
  rw [h49, nt_nI (by omega), if_neg h1]
theorem stp_t {σ : Sg} {s n : Nat} (h49 : σ 49 0 = nI n) (hn : n ≤ 16) (h1 : (σ 42 s = 1 ∨ σ 43 s = 0 ∨ σ 41 s = 1) ∧ isEv σ (nI (eOf σ s)) n = false ∧ met σ (eOf σ s) n = true) : stp σ s = if σ 42 s = 1 then chS σ s (eOf σ s) n (σ 43 s + 0) 0 else chS σ s (eOf σ s) n (σ 43 s + nI 1) 1 := by
  unfold stp evN
  rw [h49, nt_nI (by omega), if_pos h1]
theorem st4 {σ σ' : Sg} (h1 : st σ σ') (k : Nat) (hk : tk k = false) : σ' k = σ k := funext fun j => h1 k j hk
theorem AQ.st {σ σ' : Sg} {A N : Nat} (c1 : st σ σ') (P : AQ σ A N) : AQ σ' A N := by
  intro a ha1
  rw [c1 44 a rfl, c1 45 a rfl]
  exact P a ha1
theorem l_goRound {NS N : Nat} {Q : Option PV → Hp → Prop} (hN : N ≤ 20) :
    ∀ (n s : Nat) (σ : Sg) (L : List Nat) (h : Hp) (o2 o3 : Option PV), s + n = NS → nC h σ NS → sC h σ (σ 4) N → TI σ NS L → AP σ (2 * NS) NS → AQ σ (2 * NS) N →
      (∀ h2 L', fT [38, 41] h h2 → nC h2 (rndF n s σ) NS → st σ (rndF n s σ) → TI (rndF n s σ) NS L' → Q none h2) →
      S mScs_goRound 4 0 0 Q 2 [some (vR (38, 0, 0)), some (vI (nI s)), o2, o3] [] h 0 0 := by
  intro n
  induction n with
  | zero =>
    intro s σ L h o2 o3 hs1 I Is T P Q0 kk
    have es : s = NS := by omega
    have hNS := T.1
    have e1 := I.1.1
    have css := c_size I.2.1
    rw [nmL_len] at css
    obtain ⟨cap, z, f, el, -⟩ := id I.2.1
    refine s_iload_n dScs_goRound_2 rfl rfl ?_
    refine s_aload_n dScs_goRound_3 rfl rfl ?_
    refine s_get dScs_goRound_4 gf_Scs_12 (by repeat (first | exact up_self | assumption | rw [up_ne (by first | assumption | (intro q0; cases q0; done) | (intro q0; simp at q0; omega))])) ?_
    refine s_v0 dScs_goRound_7 cv_Scs_25 (by repeat (first | exact up_self | assumption | rw [up_ne (by first | assumption | (intro q0; cases q0; done) | (intro q0; simp at q0; omega))])) (css) (by first | rfl | exact Nat.ble_eq_true_of_le (by omega)) (by first | rfl | exact Nat.ble_eq_true_of_le (by omega)) (by first | rfl | exact Nat.ble_eq_true_of_le (by omega)) rfl ?_
    refine s_icmp_ge dScs_goRound_10 (fun _ => ?_) (fun q => absurd (nI_le (by omega) (by omega)) q)
    refine s_vret dScs_goRound_78 rfl (by first | exact Nat.le_refl _ | decide | omega) (by first | exact Nat.le_refl _ | decide | omega) ?_
    exact kk h L fT.rf I st.rf T
  | succ n ih1 =>
    intro s σ L h o2 o3 hs1 I Is T P Q0 kk
    have hNS := T.1
    have hsN : s < NS := by omega
    have e1 := I.1.1
    have css := c_size I.2.1
    rw [nmL_len] at css
    obtain ⟨cap, z, f, el, -⟩ := id I.2.1
    have cg := c_get I.2.1 (nmL_get hsN)
    obtain ⟨a1, fa, ga, a2, a3, a4⟩ := I.2.2.1 s hsN
    have h49 := T.2.2.2.1
    have hlen := T.len
    have h42 := T.2.2.2.2.2 s hsN
    obtain ⟨ts1, ts2⟩ := T.step hsN
    -- behind the step
    have K2 : ∀ (h2 : Hp) (o2 o3 : Option PV), fT [38, 41] h h2 → nC h2 (stp σ s) NS → S mScs_goRound 4 0 0 Q 2 [some (vR (38, 0, 0)), some (vI (nI (s + 1))), o2, o3] [] h2 0 0 := by
      intro h2 o2 o3 F2 I2
      have T2 : ∃ L', TI (stp σ s) NS L' := by
        rcases ts2 with e | ⟨e, t⟩
        · exact ⟨L, by rw [e]; exact T⟩
        · exact ⟨_, t⟩
      obtain ⟨L2, T2⟩ := T2
      have Is2 : sC h2 (stp σ s) (stp σ s 4) N := by
        rw [st4 ts1 4 rfl]
        exact Is.fr (F2.ag (by decide)) (fun j => ts1 3 j rfl)
      exact ih1 (s + 1) (stp σ s) L2 h2 o2 o3 (by omega) I2 Is2 T2 (P.st ts1) (Q0.st ts1) (fun h3 L3 f3 i3 s3 t3 => kk h3 L3 (F2.tr f3) i3 (ts1.tr s3) t3)
    rcases h42 with h0 | h1
    · have hne : ¬ σ 42 s = 1 := by rw [h0]; decide
      have eo : eOf σ s = 2 * s := if_neg hne
      have cm := c_mayChange (j := 0) I hNS h49 (by omega) hsN (Or.inr ⟨hne, rfl⟩)
      obtain ⟨b1, b2⟩ := a4 0 (by omega)
      rw [show 2 * s + 0 = 2 * s by omega] at b1 b2 cm
      have ci := c_isMet (a := 2 * s) I Is hN h49 (by omega) P Q0 (by omega)
      cases hmc : (!isEv σ (nI (2 * s)) L.length && decide (σ 42 s = 1 ∨ σ 43 s = 0 ∨ σ 41 s = 1)) with
      | false =>
        rw [hmc] at cm
        refine s_iload_n dScs_goRound_2 rfl rfl ?_
        refine s_aload_n dScs_goRound_3 rfl rfl ?_
        refine s_get dScs_goRound_4 gf_Scs_12 (by repeat (first | exact up_self | assumption | rw [up_ne (by first | assumption | (intro q0; cases q0; done) | (intro q0; simp at q0; omega))])) ?_
        refine s_v0 dScs_goRound_7 cv_Scs_25 (by repeat (first | exact up_self | assumption | rw [up_ne (by first | assumption | (intro q0; cases q0; done) | (intro q0; simp at q0; omega))])) (css) (by first | rfl | exact Nat.ble_eq_true_of_le (by omega)) (by first | rfl | exact Nat.ble_eq_true_of_le (by omega)) (by first | rfl | exact Nat.ble_eq_true_of_le (by omega)) rfl ?_
        refine s_icmp_ge dScs_goRound_10 (fun q => absurd q (nI_ge hsN (by omega))) (fun _ => ?_)
        refine s_aload_n dScs_goRound_13 rfl rfl ?_
        refine s_get dScs_goRound_14 gf_Scs_12 (by repeat (first | exact up_self | assumption | rw [up_ne (by first | assumption | (intro q0; cases q0; done) | (intro q0; simp at q0; omega))])) ?_
        refine s_iload_n dScs_goRound_17 rfl rfl ?_
        refine s_v1 dScs_goRound_18 cv_Scs_38 (by repeat (first | exact up_self | assumption | rw [up_ne (by first | assumption | (intro q0; cases q0; done) | (intro q0; simp at q0; omega))])) (cg) (by first | rfl | exact Nat.ble_eq_true_of_le (by omega)) (by first | rfl | exact Nat.ble_eq_true_of_le (by omega)) (by first | rfl | exact Nat.ble_eq_true_of_le (by omega)) rfl ?_
        refine s_cast dScs_goRound_21 (by decide) (nw_Scs_29).2.1 (by repeat (first | exact up_self | assumption | rw [up_ne (by first | assumption | (intro q0; cases q0; done) | (intro q0; simp at q0; omega))])) ?_
        refine s_astore_n dScs_goRound_24 rfl rfl ?_
        refine s_aload_n dScs_goRound_25 rfl rfl ?_
        refine s_get dScs_goRound_26 gf_Scs_42 (by repeat (first | exact up_self | assumption | rw [up_ne (by first | assumption | (intro q0; cases q0; done) | (intro q0; simp at q0; omega))])) ?_
        refine s_if_eq dScs_goRound_29 (fun _ => ?_) (fun q => absurd h0 q)
        refine s_iconst (v := 0) dScs_goRound_36 (by decide) ?_
        refine s_tv (show vI 0 = vI (nI 0) from rfl) ?_
        refine s_istore_n dScs_goRound_37 rfl rfl ?_
        refine s_aload_n dScs_goRound_38 rfl rfl ?_
        refine s_iload_n dScs_goRound_39 rfl rfl ?_
        refine s_iload_n dScs_goRound_40 rfl rfl ?_
        refine s_v2 dScs_goRound_41 cv_Scs_73 (by repeat (first | exact up_self | assumption | rw [up_ne (by first | assumption | (intro q0; cases q0; done) | (intro q0; simp at q0; omega))])) (cm) (by first | rfl | exact Nat.ble_eq_true_of_le (by omega)) (by first | rfl | exact Nat.ble_eq_true_of_le (by omega)) (by first | rfl | exact Nat.ble_eq_true_of_le (by omega)) rfl ?_
        refine s_if_eq dScs_goRound_44 (fun _ => ?_) (fun q => absurd rfl q)
        first | refine s_iincN dScs_goRound_72 rfl rfl ?_ | refine s_iinc dScs_goRound_72 rfl rfl ?_
        refine s_goto dScs_goRound_75 ?_
        refine K2 h _ _ fT.rf ?_
        rw [stp_f h49 (by omega) (fun q0 => ?_)]
        · exact I
        · rw [eo] at q0
          rw [q0.2.1] at hmc
          simp at hmc
          rcases q0.1 with q1 | q1 | q1
          · exact hmc.1 q1
          · exact hmc.2.1 q1
          · exact hmc.2.2 q1
      | true =>
        rw [hmc] at cm
        cases hmt : met σ (2 * s) L.length with
        | false =>
          rw [hmt] at ci
          refine s_iload_n dScs_goRound_2 rfl rfl ?_
          refine s_aload_n dScs_goRound_3 rfl rfl ?_
          refine s_get dScs_goRound_4 gf_Scs_12 (by repeat (first | exact up_self | assumption | rw [up_ne (by first | assumption | (intro q0; cases q0; done) | (intro q0; simp at q0; omega))])) ?_
          refine s_v0 dScs_goRound_7 cv_Scs_25 (by repeat (first | exact up_self | assumption | rw [up_ne (by first | assumption | (intro q0; cases q0; done) | (intro q0; simp at q0; omega))])) (css) (by first | rfl | exact Nat.ble_eq_true_of_le (by omega)) (by first | rfl | exact Nat.ble_eq_true_of_le (by omega)) (by first | rfl | exact Nat.ble_eq_true_of_le (by omega)) rfl ?_
          refine s_icmp_ge dScs_goRound_10 (fun q => absurd q (nI_ge hsN (by omega))) (fun _ => ?_)
          refine s_aload_n dScs_goRound_13 rfl rfl ?_
          refine s_get dScs_goRound_14 gf_Scs_12 (by repeat (first | exact up_self | assumption | rw [up_ne (by first | assumption | (intro q0; cases q0; done) | (intro q0; simp at q0; omega))])) ?_
          refine s_iload_n dScs_goRound_17 rfl rfl ?_
          refine s_v1 dScs_goRound_18 cv_Scs_38 (by repeat (first | exact up_self | assumption | rw [up_ne (by first | assumption | (intro q0; cases q0; done) | (intro q0; simp at q0; omega))])) (cg) (by first | rfl | exact Nat.ble_eq_true_of_le (by omega)) (by first | rfl | exact Nat.ble_eq_true_of_le (by omega)) (by first | rfl | exact Nat.ble_eq_true_of_le (by omega)) rfl ?_
          refine s_cast dScs_goRound_21 (by decide) (nw_Scs_29).2.1 (by repeat (first | exact up_self | assumption | rw [up_ne (by first | assumption | (intro q0; cases q0; done) | (intro q0; simp at q0; omega))])) ?_
          refine s_astore_n dScs_goRound_24 rfl rfl ?_
          refine s_aload_n dScs_goRound_25 rfl rfl ?_
          refine s_get dScs_goRound_26 gf_Scs_42 (by repeat (first | exact up_self | assumption | rw [up_ne (by first | assumption | (intro q0; cases q0; done) | (intro q0; simp at q0; omega))])) ?_
          refine s_if_eq dScs_goRound_29 (fun _ => ?_) (fun q => absurd h0 q)
          refine s_iconst (v := 0) dScs_goRound_36 (by decide) ?_
          refine s_tv (show vI 0 = vI (nI 0) from rfl) ?_
          refine s_istore_n dScs_goRound_37 rfl rfl ?_
          refine s_aload_n dScs_goRound_38 rfl rfl ?_
          refine s_iload_n dScs_goRound_39 rfl rfl ?_
          refine s_iload_n dScs_goRound_40 rfl rfl ?_
          refine s_v2 dScs_goRound_41 cv_Scs_73 (by repeat (first | exact up_self | assumption | rw [up_ne (by first | assumption | (intro q0; cases q0; done) | (intro q0; simp at q0; omega))])) (cm) (by first | rfl | exact Nat.ble_eq_true_of_le (by omega)) (by first | rfl | exact Nat.ble_eq_true_of_le (by omega)) (by first | rfl | exact Nat.ble_eq_true_of_le (by omega)) rfl ?_
          refine s_if_eq dScs_goRound_44 (fun q => absurd q (by decide)) (fun _ => ?_)
          refine s_aload_n dScs_goRound_47 rfl rfl ?_
          refine s_aload_n dScs_goRound_48 rfl rfl ?_
          refine s_get dScs_goRound_49 gf_Scs_54 (by repeat (first | exact up_self | assumption | rw [up_ne (by first | assumption | (intro q0; cases q0; done) | (intro q0; simp at q0; omega))])) ?_
          refine s_iload_n dScs_goRound_52 rfl rfl ?_
          refine s_ialdN dScs_goRound_53 (by repeat (first | exact up_self | assumption | rw [up_ne (by first | assumption | (intro q0; cases q0; done) | (intro q0; simp at q0; omega))])) (by omega) (by omega) ?_
          refine s_tv b1 ?_
          refine s_aload_n dScs_goRound_54 rfl rfl ?_
          refine s_get dScs_goRound_55 gf_Scs_57 (by repeat (first | exact up_self | assumption | rw [up_ne (by first | assumption | (intro q0; cases q0; done) | (intro q0; simp at q0; omega))])) ?_
          refine s_iload_n dScs_goRound_58 rfl rfl ?_
          refine s_ialdN dScs_goRound_59 (by repeat (first | exact up_self | assumption | rw [up_ne (by first | assumption | (intro q0; cases q0; done) | (intro q0; simp at q0; omega))])) (by omega) (by omega) ?_
          refine s_tv b2 ?_
          refine s_v2 dScs_goRound_60 cv_Scs_77 (by repeat (first | exact up_self | assumption | rw [up_ne (by first | assumption | (intro q0; cases q0; done) | (intro q0; simp at q0; omega))])) (ci) (by first | rfl | exact Nat.ble_eq_true_of_le (by omega)) (by first | rfl | exact Nat.ble_eq_true_of_le (by omega)) (by first | rfl | exact Nat.ble_eq_true_of_le (by omega)) rfl ?_
          refine s_if_eq dScs_goRound_63 (fun _ => ?_) (fun q => absurd rfl q)
          first | refine s_iincN dScs_goRound_72 rfl rfl ?_ | refine s_iinc dScs_goRound_72 rfl rfl ?_
          refine s_goto dScs_goRound_75 ?_
          refine K2 h _ _ fT.rf ?_
          rw [stp_f h49 (by omega) (fun q0 => ?_)]
          · exact I
          · rw [eo, hmt] at q0
            exact absurd q0.2.2 (by decide)
        | true =>
          rw [hmt] at ci
          rw [Bool.and_eq_true, Bool.not_eq_true', decide_eq_true_eq] at hmc
          have nw := T.new hmc.1
          have hlt : L.length < 16 := by
            have n1 : (L ++ [2 * s]).Nodup := List.nodup_append.mpr ⟨T.2.1, by simp, fun a ha1 b hb1 z1 => by rw [List.mem_singleton.mp hb1] at z1; exact nw (z1 ▸ ha1)⟩
            have n2 := nd_len (2 * NS) _ n1 (fun x hx1 => by
              rcases List.mem_append.mp hx1 with c1 | c1
              · exact T.2.2.1 x c1
              · rw [List.mem_singleton.mp c1]; omega)
            simp at n2
            omega
          refine s_iload_n dScs_goRound_2 rfl rfl ?_
          refine s_aload_n dScs_goRound_3 rfl rfl ?_
          refine s_get dScs_goRound_4 gf_Scs_12 (by repeat (first | exact up_self | assumption | rw [up_ne (by first | assumption | (intro q0; cases q0; done) | (intro q0; simp at q0; omega))])) ?_
          refine s_v0 dScs_goRound_7 cv_Scs_25 (by repeat (first | exact up_self | assumption | rw [up_ne (by first | assumption | (intro q0; cases q0; done) | (intro q0; simp at q0; omega))])) (css) (by first | rfl | exact Nat.ble_eq_true_of_le (by omega)) (by first | rfl | exact Nat.ble_eq_true_of_le (by omega)) (by first | rfl | exact Nat.ble_eq_true_of_le (by omega)) rfl ?_
          refine s_icmp_ge dScs_goRound_10 (fun q => absurd q (nI_ge hsN (by omega))) (fun _ => ?_)
          refine s_aload_n dScs_goRound_13 rfl rfl ?_
          refine s_get dScs_goRound_14 gf_Scs_12 (by repeat (first | exact up_self | assumption | rw [up_ne (by first | assumption | (intro q0; cases q0; done) | (intro q0; simp at q0; omega))])) ?_
          refine s_iload_n dScs_goRound_17 rfl rfl ?_
          refine s_v1 dScs_goRound_18 cv_Scs_38 (by repeat (first | exact up_self | assumption | rw [up_ne (by first | assumption | (intro q0; cases q0; done) | (intro q0; simp at q0; omega))])) (cg) (by first | rfl | exact Nat.ble_eq_true_of_le (by omega)) (by first | rfl | exact Nat.ble_eq_true_of_le (by omega)) (by first | rfl | exact Nat.ble_eq_true_of_le (by omega)) rfl ?_
          refine s_cast dScs_goRound_21 (by decide) (nw_Scs_29).2.1 (by repeat (first | exact up_self | assumption | rw [up_ne (by first | assumption | (intro q0; cases q0; done) | (intro q0; simp at q0; omega))])) ?_
          refine s_astore_n dScs_goRound_24 rfl rfl ?_
          refine s_aload_n dScs_goRound_25 rfl rfl ?_
          refine s_get dScs_goRound_26 gf_Scs_42 (by repeat (first | exact up_self | assumption | rw [up_ne (by first | assumption | (intro q0; cases q0; done) | (intro q0; simp at q0; omega))])) ?_
          refine s_if_eq dScs_goRound_29 (fun _ => ?_) (fun q => absurd h0 q)
          refine s_iconst (v := 0) dScs_goRound_36 (by decide) ?_
          refine s_tv (show vI 0 = vI (nI 0) from rfl) ?_
          refine s_istore_n dScs_goRound_37 rfl rfl ?_
          refine s_aload_n dScs_goRound_38 rfl rfl ?_
          refine s_iload_n dScs_goRound_39 rfl rfl ?_
          refine s_iload_n dScs_goRound_40 rfl rfl ?_
          refine s_v2 dScs_goRound_41 cv_Scs_73 (by repeat (first | exact up_self | assumption | rw [up_ne (by first | assumption | (intro q0; cases q0; done) | (intro q0; simp at q0; omega))])) (cm) (by first | rfl | exact Nat.ble_eq_true_of_le (by omega)) (by first | rfl | exact Nat.ble_eq_true_of_le (by omega)) (by first | rfl | exact Nat.ble_eq_true_of_le (by omega)) rfl ?_
          refine s_if_eq dScs_goRound_44 (fun q => absurd q (by decide)) (fun _ => ?_)
          refine s_aload_n dScs_goRound_47 rfl rfl ?_
          refine s_aload_n dScs_goRound_48 rfl rfl ?_
          refine s_get dScs_goRound_49 gf_Scs_54 (by repeat (first | exact up_self | assumption | rw [up_ne (by first | assumption | (intro q0; cases q0; done) | (intro q0; simp at q0; omega))])) ?_
          refine s_iload_n dScs_goRound_52 rfl rfl ?_
          refine s_ialdN dScs_goRound_53 (by repeat (first | exact up_self | assumption | rw [up_ne (by first | assumption | (intro q0; cases q0; done) | (intro q0; simp at q0; omega))])) (by omega) (by omega) ?_
          refine s_tv b1 ?_
          refine s_aload_n dScs_goRound_54 rfl rfl ?_
          refine s_get dScs_goRound_55 gf_Scs_57 (by repeat (first | exact up_self | assumption | rw [up_ne (by first | assumption | (intro q0; cases q0; done) | (intro q0; simp at q0; omega))])) ?_
          refine s_iload_n dScs_goRound_58 rfl rfl ?_
          refine s_ialdN dScs_goRound_59 (by repeat (first | exact up_self | assumption | rw [up_ne (by first | assumption | (intro q0; cases q0; done) | (intro q0; simp at q0; omega))])) (by omega) (by omega) ?_
          refine s_tv b2 ?_
          refine s_v2 dScs_goRound_60 cv_Scs_77 (by repeat (first | exact up_self | assumption | rw [up_ne (by first | assumption | (intro q0; cases q0; done) | (intro q0; simp at q0; omega))])) (ci) (by first | rfl | exact Nat.ble_eq_true_of_le (by omega)) (by first | rfl | exact Nat.ble_eq_true_of_le (by omega)) (by first | rfl | exact Nat.ble_eq_true_of_le (by omega)) rfl ?_
          refine s_if_eq dScs_goRound_63 (fun q => absurd q (by decide)) (fun _ => ?_)
          refine s_aload_n dScs_goRound_66 rfl rfl ?_
          refine s_iload_n dScs_goRound_67 rfl rfl ?_
          refine s_iload_n dScs_goRound_68 rfl rfl ?_
          refine s_callV (As := [_, _]) dScs_goRound_69 cv_Scs_80 (by repeat (first | exact up_self | assumption | rw [up_ne (by first | assumption | (intro q0; cases q0; done) | (intro q0; simp at q0; omega))])) (c_change0 I hNS h49 hlt hsN) (by first | rfl | exact Nat.ble_eq_true_of_le (by omega)) (by first | rfl | exact Nat.ble_eq_true_of_le (by omega)) (by first | rfl | exact Nat.ble_eq_true_of_le (by omega)) rfl (fun v0 h2 q0 => ?_)
          obtain ⟨rfl, F2, I2⟩ := q0
          first | refine s_iincN dScs_goRound_72 rfl rfl ?_ | refine s_iinc dScs_goRound_72 rfl rfl ?_
          refine s_goto dScs_goRound_75 ?_
          refine K2 h2 _ _ F2 ?_
          rw [stp_t h49 (by omega) ⟨hmc.2, by rw [eo]; exact hmc.1, by rw [eo]; exact hmt⟩, if_neg hne, eo]
          exact I2
    · have eo : eOf σ s = 2 * s + 1 := if_pos h1
      have cm := c_mayChange (j := 1) I hNS h49 (by omega) hsN (Or.inl ⟨h1, rfl⟩)
      obtain ⟨b1, b2⟩ := a4 1 (by omega)
      have ci := c_isMet (a := 2 * s + 1) I Is hN h49 (by omega) P Q0 (by omega)
      have n0 : ¬ σ 42 s = 0 := by rw [h1]; decide
      cases hmc : (!isEv σ (nI (2 * s + 1)) L.length && decide (σ 42 s = 1 ∨ σ 43 s = 0 ∨ σ 41 s = 1)) with
      | false =>
        rw [hmc] at cm
        refine s_iload_n dScs_goRound_2 rfl rfl ?_
        refine s_aload_n dScs_goRound_3 rfl rfl ?_
        refine s_get dScs_goRound_4 gf_Scs_12 (by repeat (first | exact up_self | assumption | rw [up_ne (by first | assumption | (intro q0; cases q0; done) | (intro q0; simp at q0; omega))])) ?_
        refine s_v0 dScs_goRound_7 cv_Scs_25 (by repeat (first | exact up_self | assumption | rw [up_ne (by first | assumption | (intro q0; cases q0; done) | (intro q0; simp at q0; omega))])) (css) (by first | rfl | exact Nat.ble_eq_true_of_le (by omega)) (by first | rfl | exact Nat.ble_eq_true_of_le (by omega)) (by first | rfl | exact Nat.ble_eq_true_of_le (by omega)) rfl ?_
        refine s_icmp_ge dScs_goRound_10 (fun q => absurd q (nI_ge hsN (by omega))) (fun _ => ?_)
        refine s_aload_n dScs_goRound_13 rfl rfl ?_
        refine s_get dScs_goRound_14 gf_Scs_12 (by repeat (first | exact up_self | assumption | rw [up_ne (by first | assumption | (intro q0; cases q0; done) | (intro q0; simp at q0; omega))])) ?_
        refine s_iload_n dScs_goRound_17 rfl rfl ?_
        refine s_v1 dScs_goRound_18 cv_Scs_38 (by repeat (first | exact up_self | assumption | rw [up_ne (by first | assumption | (intro q0; cases q0; done) | (intro q0; simp at q0; omega))])) (cg) (by first | rfl | exact Nat.ble_eq_true_of_le (by omega)) (by first | rfl | exact Nat.ble_eq_true_of_le (by omega)) (by first | rfl | exact Nat.ble_eq_true_of_le (by omega)) rfl ?_
        refine s_cast dScs_goRound_21 (by decide) (nw_Scs_29).2.1 (by repeat (first | exact up_self | assumption | rw [up_ne (by first | assumption | (intro q0; cases q0; done) | (intro q0; simp at q0; omega))])) ?_
        refine s_astore_n dScs_goRound_24 rfl rfl ?_
        refine s_aload_n dScs_goRound_25 rfl rfl ?_
        refine s_get dScs_goRound_26 gf_Scs_42 (by repeat (first | exact up_self | assumption | rw [up_ne (by first | assumption | (intro q0; cases q0; done) | (intro q0; simp at q0; omega))])) ?_
        refine s_if_eq dScs_goRound_29 (fun q => absurd q n0) (fun _ => ?_)
        refine s_iconst (v := 1) dScs_goRound_32 (by decide) ?_
        refine s_tv (show vI 1 = vI (nI 1) from rfl) ?_
        refine s_goto dScs_goRound_33 ?_
        refine s_istore_n dScs_goRound_37 rfl rfl ?_
        refine s_aload_n dScs_goRound_38 rfl rfl ?_
        refine s_iload_n dScs_goRound_39 rfl rfl ?_
        refine s_iload_n dScs_goRound_40 rfl rfl ?_
        refine s_v2 dScs_goRound_41 cv_Scs_73 (by repeat (first | exact up_self | assumption | rw [up_ne (by first | assumption | (intro q0; cases q0; done) | (intro q0; simp at q0; omega))])) (cm) (by first | rfl | exact Nat.ble_eq_true_of_le (by omega)) (by first | rfl | exact Nat.ble_eq_true_of_le (by omega)) (by first | rfl | exact Nat.ble_eq_true_of_le (by omega)) rfl ?_
        refine s_if_eq dScs_goRound_44 (fun _ => ?_) (fun q => absurd rfl q)
        first | refine s_iincN dScs_goRound_72 rfl rfl ?_ | refine s_iinc dScs_goRound_72 rfl rfl ?_
        refine s_goto dScs_goRound_75 ?_
        refine K2 h _ _ fT.rf ?_
        rw [stp_f h49 (by omega) (fun q0 => ?_)]
        · exact I
        · rw [eo] at q0
          rw [q0.2.1] at hmc
          simp [h1] at hmc
      | true =>
        rw [hmc] at cm
        cases hmt : met σ (2 * s + 1) L.length with
        | false =>
          rw [hmt] at ci
          refine s_iload_n dScs_goRound_2 rfl rfl ?_
          refine s_aload_n dScs_goRound_3 rfl rfl ?_
          refine s_get dScs_goRound_4 gf_Scs_12 (by repeat (first | exact up_self | assumption | rw [up_ne (by first | assumption | (intro q0; cases q0; done) | (intro q0; simp at q0; omega))])) ?_
          refine s_v0 dScs_goRound_7 cv_Scs_25 (by repeat (first | exact up_self | assumption | rw [up_ne (by first | assumption | (intro q0; cases q0; done) | (intro q0; simp at q0; omega))])) (css) (by first | rfl | exact Nat.ble_eq_true_of_le (by omega)) (by first | rfl | exact Nat.ble_eq_true_of_le (by omega)) (by first | rfl | exact Nat.ble_eq_true_of_le (by omega)) rfl ?_
          refine s_icmp_ge dScs_goRound_10 (fun q => absurd q (nI_ge hsN (by omega))) (fun _ => ?_)
          refine s_aload_n dScs_goRound_13 rfl rfl ?_
          refine s_get dScs_goRound_14 gf_Scs_12 (by repeat (first | exact up_self | assumption | rw [up_ne (by first | assumption | (intro q0; cases q0; done) | (intro q0; simp at q0; omega))])) ?_
          refine s_iload_n dScs_goRound_17 rfl rfl ?_
          refine s_v1 dScs_goRound_18 cv_Scs_38 (by repeat (first | exact up_self | assumption | rw [up_ne (by first | assumption | (intro q0; cases q0; done) | (intro q0; simp at q0; omega))])) (cg) (by first | rfl | exact Nat.ble_eq_true_of_le (by omega)) (by first | rfl | exact Nat.ble_eq_true_of_le (by omega)) (by first | rfl | exact Nat.ble_eq_true_of_le (by omega)) rfl ?_
          refine s_cast dScs_goRound_21 (by decide) (nw_Scs_29).2.1 (by repeat (first | exact up_self | assumption | rw [up_ne (by first | assumption | (intro q0; cases q0; done) | (intro q0; simp at q0; omega))])) ?_
          refine s_astore_n dScs_goRound_24 rfl rfl ?_
          refine s_aload_n dScs_goRound_25 rfl rfl ?_
          refine s_get dScs_goRound_26 gf_Scs_42 (by repeat (first | exact up_self | assumption | rw [up_ne (by first | assumption | (intro q0; cases q0; done) | (intro q0; simp at q0; omega))])) ?_
          refine s_if_eq dScs_goRound_29 (fun q => absurd q n0) (fun _ => ?_)
          refine s_iconst (v := 1) dScs_goRound_32 (by decide) ?_
          refine s_tv (show vI 1 = vI (nI 1) from rfl) ?_
          refine s_goto dScs_goRound_33 ?_
          refine s_istore_n dScs_goRound_37 rfl rfl ?_
          refine s_aload_n dScs_goRound_38 rfl rfl ?_
          refine s_iload_n dScs_goRound_39 rfl rfl ?_
          refine s_iload_n dScs_goRound_40 rfl rfl ?_
          refine s_v2 dScs_goRound_41 cv_Scs_73 (by repeat (first | exact up_self | assumption | rw [up_ne (by first | assumption | (intro q0; cases q0; done) | (intro q0; simp at q0; omega))])) (cm) (by first | rfl | exact Nat.ble_eq_true_of_le (by omega)) (by first | rfl | exact Nat.ble_eq_true_of_le (by omega)) (by first | rfl | exact Nat.ble_eq_true_of_le (by omega)) rfl ?_
          refine s_if_eq dScs_goRound_44 (fun q => absurd q (by decide)) (fun _ => ?_)
          refine s_aload_n dScs_goRound_47 rfl rfl ?_
          refine s_aload_n dScs_goRound_48 rfl rfl ?_
          refine s_get dScs_goRound_49 gf_Scs_54 (by repeat (first | exact up_self | assumption | rw [up_ne (by first | assumption | (intro q0; cases q0; done) | (intro q0; simp at q0; omega))])) ?_
          refine s_iload_n dScs_goRound_52 rfl rfl ?_
          refine s_ialdN dScs_goRound_53 (by repeat (first | exact up_self | assumption | rw [up_ne (by first | assumption | (intro q0; cases q0; done) | (intro q0; simp at q0; omega))])) (by omega) (by omega) ?_
          refine s_tv b1 ?_
          refine s_aload_n dScs_goRound_54 rfl rfl ?_
          refine s_get dScs_goRound_55 gf_Scs_57 (by repeat (first | exact up_self | assumption | rw [up_ne (by first | assumption | (intro q0; cases q0; done) | (intro q0; simp at q0; omega))])) ?_
          refine s_iload_n dScs_goRound_58 rfl rfl ?_
          refine s_ialdN dScs_goRound_59 (by repeat (first | exact up_self | assumption | rw [up_ne (by first | assumption | (intro q0; cases q0; done) | (intro q0; simp at q0; omega))])) (by omega) (by omega) ?_
          refine s_tv b2 ?_
          refine s_v2 dScs_goRound_60 cv_Scs_77 (by repeat (first | exact up_self | assumption | rw [up_ne (by first | assumption | (intro q0; cases q0; done) | (intro q0; simp at q0; omega))])) (ci) (by first | rfl | exact Nat.ble_eq_true_of_le (by omega)) (by first | rfl | exact Nat.ble_eq_true_of_le (by omega)) (by first | rfl | exact Nat.ble_eq_true_of_le (by omega)) rfl ?_
          refine s_if_eq dScs_goRound_63 (fun _ => ?_) (fun q => absurd rfl q)
          first | refine s_iincN dScs_goRound_72 rfl rfl ?_ | refine s_iinc dScs_goRound_72 rfl rfl ?_
          refine s_goto dScs_goRound_75 ?_
          refine K2 h _ _ fT.rf ?_
          rw [stp_f h49 (by omega) (fun q0 => ?_)]
          · exact I
          · rw [eo, hmt] at q0
            exact absurd q0.2.2 (by decide)
        | true =>
          rw [hmt] at ci
          rw [Bool.and_eq_true, Bool.not_eq_true', decide_eq_true_eq] at hmc
          have nw := T.new hmc.1
          have hlt : L.length < 16 := by
            have n1 : (L ++ [2 * s + 1]).Nodup := List.nodup_append.mpr ⟨T.2.1, by simp, fun a ha1 b hb1 z1 => by rw [List.mem_singleton.mp hb1] at z1; exact nw (z1 ▸ ha1)⟩
            have n2 := nd_len (2 * NS) _ n1 (fun x hx1 => by
              rcases List.mem_append.mp hx1 with c1 | c1
              · exact T.2.2.1 x c1
              · rw [List.mem_singleton.mp c1]; omega)
            simp at n2
            omega
          refine s_iload_n dScs_goRound_2 rfl rfl ?_
          refine s_aload_n dScs_goRound_3 rfl rfl ?_
          refine s_get dScs_goRound_4 gf_Scs_12 (by repeat (first | exact up_self | assumption | rw [up_ne (by first | assumption | (intro q0; cases q0; done) | (intro q0; simp at q0; omega))])) ?_
          refine s_v0 dScs_goRound_7 cv_Scs_25 (by repeat (first | exact up_self | assumption | rw [up_ne (by first | assumption | (intro q0; cases q0; done) | (intro q0; simp at q0; omega))])) (css) (by first | rfl | exact Nat.ble_eq_true_of_le (by omega)) (by first | rfl | exact Nat.ble_eq_true_of_le (by omega)) (by first | rfl | exact Nat.ble_eq_true_of_le (by omega)) rfl ?_
          refine s_icmp_ge dScs_goRound_10 (fun q => absurd q (nI_ge hsN (by omega))) (fun _ => ?_)
          refine s_aload_n dScs_goRound_13 rfl rfl ?_
          refine s_get dScs_goRound_14 gf_Scs_12 (by repeat (first | exact up_self | assumption | rw [up_ne (by first | assumption | (intro q0; cases q0; done) | (intro q0; simp at q0; omega))])) ?_
          refine s_iload_n dScs_goRound_17 rfl rfl ?_
          refine s_v1 dScs_goRound_18 cv_Scs_38 (by repeat (first | exact up_self | assumption | rw [up_ne (by first | assumption | (intro q0; cases q0; done) | (intro q0; simp at q0; omega))])) (cg) (by first | rfl | exact Nat.ble_eq_true_of_le (by omega)) (by first | rfl | exact Nat.ble_eq_true_of_le (by omega)) (by first | rfl | exact Nat.ble_eq_true_of_le (by omega)) rfl ?_
          refine s_cast dScs_goRound_21 (by decide) (nw_Scs_29).2.1 (by repeat (first | exact up_self | assumption | rw [up_ne (by first | assumption | (intro q0; cases q0; done) | (intro q0; simp at q0; omega))])) ?_
          refine s_astore_n dScs_goRound_24 rfl rfl ?_
          refine s_aload_n dScs_goRound_25 rfl rfl ?_
          refine s_get dScs_goRound_26 gf_Scs_42 (by repeat (first | exact up_self | assumption | rw [up_ne (by first | assumption | (intro q0; cases q0; done) | (intro q0; simp at q0; omega))])) ?_
          refine s_if_eq dScs_goRound_29 (fun q => absurd q n0) (fun _ => ?_)
          refine s_iconst (v := 1) dScs_goRound_32 (by decide) ?_
          refine s_tv (show vI 1 = vI (nI 1) from rfl) ?_
          refine s_goto dScs_goRound_33 ?_
          refine s_istore_n dScs_goRound_37 rfl rfl ?_
          refine s_aload_n dScs_goRound_38 rfl rfl ?_
          refine s_iload_n dScs_goRound_39 rfl rfl ?_
          refine s_iload_n dScs_goRound_40 rfl rfl ?_
          refine s_v2 dScs_goRound_41 cv_Scs_73 (by repeat (first | exact up_self | assumption | rw [up_ne (by first | assumption | (intro q0; cases q0; done) | (intro q0; simp at q0; omega))])) (cm) (by first | rfl | exact Nat.ble_eq_true_of_le (by omega)) (by first | rfl | exact Nat.ble_eq_true_of_le (by omega)) (by first | rfl | exact Nat.ble_eq_true_of_le (by omega)) rfl ?_
          refine s_if_eq dScs_goRound_44 (fun q => absurd q (by decide)) (fun _ => ?_)
          refine s_aload_n dScs_goRound_47 rfl rfl ?_
          refine s_aload_n dScs_goRound_48 rfl rfl ?_
          refine s_get dScs_goRound_49 gf_Scs_54 (by repeat (first | exact up_self | assumption | rw [up_ne (by first | assumption | (intro q0; cases q0; done) | (intro q0; simp at q0; omega))])) ?_
          refine s_iload_n dScs_goRound_52 rfl rfl ?_
          refine s_ialdN dScs_goRound_53 (by repeat (first | exact up_self | assumption | rw [up_ne (by first | assumption | (intro q0; cases q0; done) | (intro q0; simp at q0; omega))])) (by omega) (by omega) ?_
          refine s_tv b1 ?_
          refine s_aload_n dScs_goRound_54 rfl rfl ?_
          refine s_get dScs_goRound_55 gf_Scs_57 (by repeat (first | exact up_self | assumption | rw [up_ne (by first | assumption | (intro q0; cases q0; done) | (intro q0; simp at q0; omega))])) ?_
          refine s_iload_n dScs_goRound_58 rfl rfl ?_
          refine s_ialdN dScs_goRound_59 (by repeat (first | exact up_self | assumption | rw [up_ne (by first | assumption | (intro q0; cases q0; done) | (intro q0; simp at q0; omega))])) (by omega) (by omega) ?_
          refine s_tv b2 ?_
          refine s_v2 dScs_goRound_60 cv_Scs_77 (by repeat (first | exact up_self | assumption | rw [up_ne (by first | assumption | (intro q0; cases q0; done) | (intro q0; simp at q0; omega))])) (ci) (by first | rfl | exact Nat.ble_eq_true_of_le (by omega)) (by first | rfl | exact Nat.ble_eq_true_of_le (by omega)) (by first | rfl | exact Nat.ble_eq_true_of_le (by omega)) rfl ?_
          refine s_if_eq dScs_goRound_63 (fun q => absurd q (by decide)) (fun _ => ?_)
          refine s_aload_n dScs_goRound_66 rfl rfl ?_
          refine s_iload_n dScs_goRound_67 rfl rfl ?_
          refine s_iload_n dScs_goRound_68 rfl rfl ?_
          refine s_callV (As := [_, _]) dScs_goRound_69 cv_Scs_80 (by repeat (first | exact up_self | assumption | rw [up_ne (by first | assumption | (intro q0; cases q0; done) | (intro q0; simp at q0; omega))])) (c_change1 I hNS h49 hlt hsN) (by first | rfl | exact Nat.ble_eq_true_of_le (by omega)) (by first | rfl | exact Nat.ble_eq_true_of_le (by omega)) (by first | rfl | exact Nat.ble_eq_true_of_le (by omega)) rfl (fun v0 h2 q0 => ?_)
          obtain ⟨rfl, F2, I2⟩ := q0
          first | refine s_iincN dScs_goRound_72 rfl rfl ?_ | refine s_iinc dScs_goRound_72 rfl rfl ?_
          refine s_goto dScs_goRound_75 ?_
          refine K2 h2 _ _ F2 ?_
          rw [stp_t h49 (by omega) ⟨hmc.2, by rw [eo]; exact hmc.1, by rw [eo]; exact hmt⟩, if_pos h1, eo]
          exact I2
theorem c_goRound {h : Hp} {σ : Sg} {NS N : Nat} {L : List Nat} (I : nC h σ NS) (Is : sC h σ (σ 4) N) (hN : N ≤ 20) (T : TI σ NS L) (P : AP σ (2 * NS) NS) (Q0 : AQ σ (2 * NS) N) :
    Con mScs_goRound 4 0 0 [vR (38, 0, 0)] h (fun v h2 => v = none ∧ fT [38, 41] h h2 ∧ nC h2 (rndF NS 0 σ) NS ∧ st σ (rndF NS 0 σ) ∧ ∃ L', TI (rndF NS 0 σ) NS L') := by
  refine c_enter (by decide +kernel) rfl rfl ?_
  refine s_iconst (v := 0) dScs_goRound_0 (by decide) ?_
  refine s_istore_n dScs_goRound_1 rfl rfl ?_
  exact l_goRound hN NS 0 σ L h none none (by omega) I Is T P Q0 (fun h2 L' f1 f2 f3 f4 => ⟨rfl, f1, f2, f3, L', f4⟩)
theorem l_takeTurn {NS N : Nat} {Q : Option PV → Hp → Prop} (hN : N ≤ 20) :
    ∀ (f r : Nat) (σ : Sg) (L : List Nat) (h : Hp) (o2 : Option PV), r + f = 17 → nC h σ NS → sC h σ (σ 4) N → TI σ NS L → AP σ (2 * NS) NS → AQ σ (2 * NS) N →
      (∀ h2 L', fT [38, 41] h h2 → nC h2 (rnds NS f σ) NS → st σ (rnds NS f σ) → TI (rnds NS f σ) NS L' → Q none h2) →
      S mScs_takeTurn 5 0 0 Q 17 [some (vR (38, 0, 0)), some (vI (nI r)), o2] [] h 0 0 := by
  intro f
  induction f with
  | zero =>
    intro r σ L h o2 hr I Is T P Q0 kk
    have er : r = 17 := by omega
    subst er
    refine s_iload_n dScs_takeTurn_17 rfl rfl ?_
    refine s_bipush (v := nI 16) dScs_takeTurn_18 (by decide) ?_
    refine s_icmp_gt dScs_takeTurn_20 (fun _ => ?_) (fun q => absurd (by decide) q)
    refine s_vret dScs_takeTurn_47 rfl (by first | exact Nat.le_refl _ | decide | omega) (by first | exact Nat.le_refl _ | decide | omega) ?_
    exact kk h L fT.rf I st.rf T
  | succ f ih1 =>
    intro r σ L h o2 hr I Is T P Q0 kk
    have hNS := T.1
    have e1 := I.1.1
    have h49 := T.2.2.2.1
    have hlen := T.len
    rw [h49] at e1
    refine s_iload_n dScs_takeTurn_17 rfl rfl ?_
    refine s_bipush (v := nI 16) dScs_takeTurn_18 (by decide) ?_
    refine s_icmp_gt dScs_takeTurn_20 (fun q => absurd q (nI_nlt (by omega) (by omega))) (fun _ => ?_)
    refine s_aload_n dScs_takeTurn_23 rfl rfl ?_
    refine s_get dScs_takeTurn_24 gf_Scs_67 (by repeat (first | exact up_self | assumption | rw [up_ne (by first | assumption | (intro q0; cases q0; done) | (intro q0; simp at q0; omega))])) ?_
    refine s_istore_n dScs_takeTurn_27 rfl rfl ?_
    refine s_aload_n dScs_takeTurn_28 rfl rfl ?_
    refine s_callV (As := []) dScs_takeTurn_29 cv_Scs_70 (by repeat (first | exact up_self | assumption | rw [up_ne (by first | assumption | (intro q0; cases q0; done) | (intro q0; simp at q0; omega))])) (c_goRound I Is hN T P Q0) (by first | rfl | exact Nat.ble_eq_true_of_le (by omega)) (by first | rfl | exact Nat.ble_eq_true_of_le (by omega)) (by first | rfl | exact Nat.ble_eq_true_of_le (by omega)) rfl (fun v0 h2 q0 => ?_)
    obtain ⟨rfl, F2, I2, s2, L2, T2⟩ := q0
    have e2 := I2.1.1
    have h492 := T2.2.2.2.1
    have hlen2 := T2.len
    rw [h492] at e2
    by_cases c1 : L2.length = L.length
    · refine s_aload_n dScs_takeTurn_32 rfl rfl ?_
      refine s_get dScs_takeTurn_33 gf_Scs_67 (by repeat (first | exact up_self | assumption | rw [up_ne (by first | assumption | (intro q0; cases q0; done) | (intro q0; simp at q0; omega))])) ?_
      refine s_iload_n dScs_takeTurn_36 rfl rfl ?_
      refine s_icmp_ne dScs_takeTurn_37 (fun q => absurd (by rw [c1]) q) (fun _ => ?_)
      refine s_vret dScs_takeTurn_40 rfl (by first | exact Nat.le_refl _ | decide | omega) (by first | exact Nat.le_refl _ | decide | omega) ?_
      have e3 : rnds NS (f + 1) σ = rndF NS 0 σ := by
        rw [rnds, if_pos (by rw [h492, h49, c1])]
      rw [e3] at kk
      exact kk h2 L2 F2 I2 s2 T2
    · refine s_aload_n dScs_takeTurn_32 rfl rfl ?_
      refine s_get dScs_takeTurn_33 gf_Scs_67 (by repeat (first | exact up_self | assumption | rw [up_ne (by first | assumption | (intro q0; cases q0; done) | (intro q0; simp at q0; omega))])) ?_
      refine s_iload_n dScs_takeTurn_36 rfl rfl ?_
      refine s_icmp_ne dScs_takeTurn_37 (fun _ => ?_) (fun q => absurd q (nI_ne c1 (by omega) (by omega)))
      first | refine s_iincN dScs_takeTurn_41 rfl rfl ?_ | refine s_iinc dScs_takeTurn_41 rfl rfl ?_
      refine s_goto dScs_takeTurn_44 ?_
      have e3 : rnds NS (f + 1) σ = rnds NS f (rndF NS 0 σ) := by
        rw [rnds, if_neg (by rw [h492, h49]; exact nI_ne c1 (by omega) (by omega))]
      rw [e3] at kk
      have Is2 : sC h2 (rndF NS 0 σ) (rndF NS 0 σ 4) N := by
        rw [st4 s2 4 rfl]
        exact Is.fr (F2.ag (by decide)) (fun j => s2 3 j rfl)
      exact ih1 (r + 1) (rndF NS 0 σ) L2 h2 _ (by omega) I2 Is2 T2 (P.st s2) (Q0.st s2) (fun h3 L3 f3 i3 s3 t3 => kk h3 L3 (F2.tr f3) i3 (s2.tr s3) t3)
theorem c_takeTurn {h : Hp} {σ : Sg} {NS N : Nat} (I : nC h σ NS) (Is : sC h σ (σ 4) N) (hN : N ≤ 20) (hNS : NS ≤ 8) (h42 : ∀ s, s < NS → σ 42 s = 0 ∨ σ 42 s = 1) (P : AP σ (2 * NS) NS) (Q0 : AQ σ (2 * NS) N) :
    Con mScs_takeTurn 5 0 0 [vR (38, 0, 0)] h (fun v h2 => v = none ∧ fT [38, 41] h h2 ∧ nC h2 (trnE σ NS) NS ∧ st (us (us σ 47 0 (σ 47 0 + nI 1)) 49 0 0) (trnE σ NS) ∧ ∃ L', TI (trnE σ NS) NS L') := by
  have e1 := I.1.1
  refine c_enter (by decide +kernel) rfl rfl ?_
  refine s_aload_n dScs_takeTurn_0 rfl rfl ?_
  refine s_dup dScs_takeTurn_1 rfl ?_
  refine s_get dScs_takeTurn_2 gf_Scs_64 (by repeat (first | exact up_self | assumption | rw [up_ne (by first | assumption | (intro q0; cases q0; done) | (intro q0; simp at q0; omega))])) ?_
  refine s_iconst (v := nI 1) dScs_takeTurn_5 (by decide) ?_
  first | refine s_iaddN dScs_takeTurn_6 ?_ | refine s_iadd dScs_takeTurn_6 ?_
  refine s_putF dScs_takeTurn_7 gf_Scs_64 (by repeat (first | exact up_self | assumption | rw [up_ne (by first | assumption | (intro q0; cases q0; done) | (intro q0; simp at q0; omega))])) (by first | rfl | assumption) rfl (by first | exact Or.inl rfl | exact Or.inr ⟨rfl, rfl⟩) (by first | exact ⟨_, rfl⟩ | exact Or.inl rfl | exact Or.inr rfl | assumption) ?_
  refine s_aload_n dScs_takeTurn_10 rfl rfl ?_
  refine s_iconst (v := 0) dScs_takeTurn_11 (by decide) ?_
  refine s_putF dScs_takeTurn_12 gf_Scs_67 (by repeat (first | exact up_self | assumption | rw [up_ne (by first | assumption | (intro q0; cases q0; done) | (intro q0; simp at q0; omega))])) (by first | rfl | assumption) rfl (by first | exact Or.inl rfl | exact Or.inr ⟨rfl, rfl⟩) (by first | exact ⟨_, rfl⟩ | exact Or.inl rfl | exact Or.inr rfl | assumption) ?_
  refine s_iconst (v := 0) dScs_takeTurn_15 (by decide) ?_
  refine s_istore_n dScs_takeTurn_16 rfl rfl ?_
  refine s_hp (h' := up h (38, 0, 0) (8, 0, fl [vR (12, 0, 0), vR (39, 0, 0), vR (38, 1, 0), vI 0, vI (σ 47 0 + nI 1)])) (by simp only [up_up]; rfl) ?_
  generalize hτ : us (us σ 47 0 (σ 47 0 + nI 1)) 49 0 0 = τ
  have τo : ∀ k i, k ≠ 47 ∧ k ≠ 49 → τ k i = σ k i := fun k i a1 => by rw [← hτ, us_k a1.2, us_k a1.1]
  have τ47 : τ 47 0 = σ 47 0 + nI 1 := by rw [← hτ, us_k (by decide), us_s]
  have τ49 : τ 49 0 = 0 := by rw [← hτ, us_s]
  have F1 : fT [38, 41] h (up h (38, 0, 0) (8, 0, fl [vR (12, 0, 0), vR (39, 0, 0), vR (38, 1, 0), vI 0, vI (σ 47 0 + nI 1)])) := fT.rf.v
  have I1 : nC (up h (38, 0, 0) (8, 0, fl [vR (12, 0, 0), vR (39, 0, 0), vR (38, 1, 0), vI 0, vI (σ 47 0 + nI 1)])) τ NS := by
    obtain ⟨⟨-, fe, e2, e3⟩, e4, e5, e6⟩ := I
    have H : ∀ t r c, t ≠ 38 ∨ r ≠ 0 → up h (38, 0, 0) (8, 0, fl [vR (12, 0, 0), vR (39, 0, 0), vR (38, 1, 0), vI 0, vI (σ 47 0 + nI 1)]) (t, r, c) = h (t, r, c) := fun t r c a1 => up_ne (fun q0 => by simp at q0; omega)
    refine ⟨⟨by rw [up_self, τ47, τ49], fe, by rw [H _ _ _ (by omega)]; exact e2, fun i q1 => ?_⟩, e4.at (H _ _ _ (by omega)) (fun c => H _ _ _ (by omega)), fun s q1 => ?_, fun s q1 c => by rw [H _ _ _ (by omega), H _ _ _ (by omega)]; exact e6 s q1 c⟩
    · rw [τ49, show nt 0 = 0 from rfl] at q1
      omega
    · obtain ⟨a1, fx, gx, a2, a3, a4⟩ := e5 s q1
      exact ⟨by rw [H _ _ _ (by omega), τo 41 s (by omega), τo 42 s (by omega), τo 43 s (by omega)]; exact a1, fx, gx, by rw [H _ _ _ (by omega)]; exact a2, by rw [H _ _ _ (by omega)]; exact a3, fun e q2 => by rw [τo 44 _ (by omega), τo 45 _ (by omega)]; exact a4 e q2⟩
  have T1 : TI τ NS [] := ⟨hNS, List.nodup_nil, (fun x hx1 => by cases hx1), (by rw [τ49]; rfl), (fun i x q1 => by simp at q1), fun s q1 => by rw [τo 42 s (by omega)]; exact h42 s q1⟩
  have Is1 : sC (up h (38, 0, 0) (8, 0, fl [vR (12, 0, 0), vR (39, 0, 0), vR (38, 1, 0), vI 0, vI (σ 47 0 + nI 1)])) τ (τ 4) N := by
    rw [show τ 4 = σ 4 from funext fun j => τo 4 j (by omega)]
    exact Is.fr (F1.ag (by decide)) (fun j => τo 3 j (by omega))
  have P1 : AP τ (2 * NS) NS := by
    refine ⟨P.1, P.2.1, fun a ha1 => ?_⟩
    have l1 := P.2.2 a ha1
    rw [τo 44 a (by omega), τo 45 a (by omega)]
    exact l1
  have Q1 : AQ τ (2 * NS) N := fun a ha1 => by rw [τo 44 a (by omega), τo 45 a (by omega)]; exact Q0 a ha1
  have et : trnE σ NS = rnds NS 17 τ := by unfold trnE; rw [hτ]
  rw [et]
  exact l_takeTurn hN 17 0 τ [] _ none (by omega) I1 Is1 T1 P1 Q1 (fun h2 L' f1 f2 f3 f4 => ⟨rfl, F1.tr f1, f2, f3, L', f4⟩)
