/-! the runner goes through books -/
def ST (h : Hp) (σ : Sg) (own od rw0 : Nat → List Nat) (K N NS B R : Nat) : Prop := kC h σ K ∧ bC h σ B own od rw0 ∧ rC h σ R ∧ nC h σ NS ∧ KP σ K ∧ SK σ N K ∧ CP σ R K NS ∧ DP σ R B ∧ B ≤ 12 ∧ ∀ b, b < B → (∀ r ∈ rw0 b, r < R) ∧ (rw0 b).length ≤ 60
abbrev FD (h h' : Hp) : Prop := fT [15, 44, 45, 46, 47] h h'
theorem rv.rf {σ : Sg} {r : Nat} : rv σ σ r := ⟨rfl, rfl, rfl, rfl, rfl, rfl, fun _ _ => rfl, fun _ _ => rfl⟩
theorem ST.mv {h h' : Hp} {σ : Sg} {own od rw0 : Nat → List Nat} {K N NS B R : Nat} (X : ST h σ own od rw0 K N NS B R) (D : FD h h') : ST h' σ own od rw0 K N NS B R := by
  obtain ⟨x1, x2, x3, x4, x5, x6, x7, x8⟩ := X
  refine ⟨x1.fr (D.ag (by decide)) (fun _ => rfl), x2.fr (D.ag (by decide)) (fun _ => rfl) (fun _ => rfl), x3.fr (fun r a1 => ?_) (D.ag (by decide)) (fun _ _ => rv.rf) (fun _ _ => rfl), x4.fr (D.ag (by decide)) (fun _ _ _ _ _ => rfl), x5, x6, x7, x8⟩
  obtain ⟨m, h1, h2, -⟩ := x7.2.2.2 r a1
  rw [h2, nt_nI (by omega)]
  exact h1
def DY (h : Hp) (σ : Sg) (N : Nat) (g : Gs) : Prop := sC h σ (gv g) N ∧ tC h (gt g) (gn g) ∧ uC h (ge g) (gs g) ∧ (∀ d, d < 6 → ∃ vr ap, oC h d vr ap) ∧ gn g ≤ 300
def low (e : Nat) (h h' : Hp) : Prop := ∀ d, d < e → h' (45, d, 0) = h (45, d, 0) ∧ h' (46, d, 0) = h (46, d, 0)
theorem low.rf {e : Nat} {h : Hp} : low e h h := fun _ _ => ⟨rfl, rfl⟩
theorem low.tr {e : Nat} {a b c : Hp} (h1 : low e a b) (h2 : low e b c) : low e a c := fun d q1 => ⟨(h2 d q1).1.trans (h1 d q1).1, (h2 d q1).2.trans (h1 d q1).2⟩
theorem low.le {e e' : Nat} {a b : Hp} (h1 : low e a b) (h2 : e' ≤ e) : low e' a b := fun d q1 => h1 d (by omega)
theorem DY.st {h h' : Hp} {σ : Sg} {N e : Nat} {g : Gs} {vr : Nat → Int32} {ap : Nat → Bool} (D : DY h σ N g) (hh : ∀ n, n ≠ (45, e, 0) → n ≠ (46, e, 0) → h' n = h n) (O : oC h' e vr ap) : DY h' σ N g := by
  obtain ⟨d1, d2, d3, d4, d5⟩ := D
  have H : ∀ t r c, t ≠ 45 ∧ t ≠ 46 ∨ r ≠ e → h' (t, r, c) = h (t, r, c) := fun t r c a1 => hh _ (fun q0 => by simp at q0; omega) (fun q0 => by simp at q0; omega)
  have A : ∀ lo hi, hi < 45 ∨ 46 < lo → agT lo hi h h' := fun lo hi a1 n a2 a3 => by
    obtain ⟨t, r, c⟩ := n
    exact H _ _ _ (by dsimp only at a2 a3; omega)
  refine ⟨d1.fr (A _ _ (by decide)) (fun _ => rfl), d2.fr (A _ _ (by decide)), d3.fr (A _ _ (by decide)), fun d q1 => ?_, d5⟩
  by_cases c1 : d = e
  · subst c1; exact ⟨vr, ap, O⟩
  · obtain ⟨vr1, ap1, o1⟩ := d4 d q1
    exact ⟨vr1, ap1, o1.fr (H _ _ _ (by omega)) (H _ _ _ (by omega))⟩
theorem DY.err {h h' : Hp} {σ : Sg} {N r : Nat} {g : Gs} {e : Int32} (D : DY h σ N g) (hh : ∀ n, n ≠ (44, 0, 0) → h' n = h n) (U : uC h' e (nI r)) : DY h' σ N (ger g e r) := by
  obtain ⟨d1, d2, d3, d4, d5⟩ := D
  have H : ∀ t r c, t ≠ 44 → h' (t, r, c) = h (t, r, c) := fun t r c a1 => hh _ (fun q0 => by simp at q0; omega)
  have A : ∀ lo hi, hi < 44 ∨ 44 < lo → agT lo hi h h' := fun lo hi a1 n a2 a3 => by
    obtain ⟨t, r, c⟩ := n
    exact H _ _ _ (by dsimp only at a2 a3; omega)
  refine ⟨d1.fr (A _ _ (by decide)) (fun _ => rfl), d2.fr (A _ _ (by decide)), U, fun d q1 => ?_, d5⟩
  obtain ⟨vr1, ap1, o1⟩ := d4 d q1
  exact ⟨vr1, ap1, o1.fr (H _ _ _ (by decide)) (H _ _ _ (by decide))⟩
theorem DY.trc {h h' : Hp} {σ : Sg} {N r d : Nat} {g : Gs} {b : Bool} (D : DY h σ N g) (hn : ¬ gn g = 300) (hh : fT [47] h h') (T : tC h' (uf (uf (uf (gt g) (3 * gn g) (nI r)) (3 * gn g + 1) (zi b)) (3 * gn g + 2) (nI d)) (gn g + 1)) : DY h' σ N (gtr g r b d) := by
  obtain ⟨d1, d2, d3, d4, d5⟩ := D
  refine ⟨d1.fr (hh.ag (by decide)) (fun _ => rfl), T, d3.fr (hh.ag (by decide)), fun d q1 => ?_, by show gn g + 1 ≤ 300; omega⟩
  obtain ⟨vr1, ap1, o1⟩ := d4 d q1
  exact ⟨vr1, ap1, o1.fr (hh _ (show (45 : Nat) ∉ [47] by decide)) (hh _ (show (46 : Nat) ∉ [47] by decide))⟩
theorem DY.val {h : Hp} {σ : Sg} {N s x : Nat} {g : Gs} {f : Nat → PV} {y : Int32} (D : DY h σ N g) (hs : s < N) (hx : x < 4) (e15 : h (15, s, 0) = some (20, 4, f)) : DY (up h (15, s, 0) (20, 4, upf f x (vI y))) σ N (gsv g (4 * s + x) y) := by
  obtain ⟨d1, d2, d3, d4, d5⟩ := D
  have H : ∀ t r c, t ≠ 15 ∨ r ≠ s → up h (15, s, 0) (20, 4, upf f x (vI y)) (t, r, c) = h (t, r, c) := fun t r c a1 => up_ne (fun q0 => by simp at q0; omega)
  have A : ∀ lo hi, hi < 15 ∨ 15 < lo → agT lo hi h (up h (15, s, 0) (20, 4, upf f x (vI y))) := fun lo hi a1 n a2 a3 => by
    obtain ⟨t, r, c⟩ := n
    exact H _ _ _ (by dsimp only at a2 a3; omega)
  refine ⟨⟨d1.1.ag (A _ _ (by decide)), fun s' q1 => ?_, fun s' q1 => ?_⟩, d2.fr (A _ _ (by decide)), d3.fr (A _ _ (by decide)), fun d q1 => ?_, d5⟩
  · obtain ⟨a1, f0, a2, a3⟩ := d1.2.1 s' q1
    refine ⟨by rw [H _ _ _ (by omega)]; exact a1, ?_⟩
    by_cases c1 : s' = s
    · subst c1
      rw [e15] at a2
      cases a2
      refine ⟨_, up_self, fun z q2 => ?_⟩
      show upf f x (vI y) z = vI (uf (gv g) (4 * s' + x) y (4 * s' + z))
      unfold upf uf
      by_cases c2 : z = x
      · rw [if_pos c2, if_pos (by omega)]
      · rw [if_neg c2, if_neg (by omega)]; exact a3 z q2
    · refine ⟨f0, by rw [H _ _ _ (by omega)]; exact a2, fun z q2 => ?_⟩
      show f0 z = vI (uf (gv g) (4 * s + x) y (4 * s' + z))
      unfold uf
      rw [if_neg (by omega)]
      exact a3 z q2
  · rw [H _ _ _ (by omega), H _ _ _ (by omega)]
    exact d1.2.2 s' q1
  · obtain ⟨vr1, ap1, o1⟩ := d4 d q1
    exact ⟨vr1, ap1, o1.fr (H _ _ _ (by omega)) (H _ _ _ (by omega))⟩
theorem c_hasErred {h : Hp} {e r0 : Int32} (U : uC h e r0) : ConF mRun_hasErred 0 [vR (44, 0, 0)] h (some (vI (zi (decide (e ≠ 0))))) h := by
  obtain ⟨u1, -⟩ := U
  refine c_enter (by decide +kernel) rfl rfl ?_
  by_cases c1 : e = 0
  · refine s_aload_n dRun_hasErred_0 rfl rfl ?_
    refine s_get dRun_hasErred_1 gf_Run_70 (by repeat (first | exact up_self | assumption | rw [up_ne (by first | assumption | (intro q0; cases q0; done) | (intro q0; simp at q0; omega))])) ?_
    refine s_if_eq dRun_hasErred_4 (fun _ => ?_) (fun q => absurd c1 q)
    refine s_iconst (v := 0) dRun_hasErred_11 (by decide) ?_
    refine s_zret dRun_hasErred_12 rfl (by first | exact Or.inl rfl | exact Or.inr rfl | assumption) (by first | exact Nat.le_refl _ | decide | omega) (by first | exact Nat.le_refl _ | decide | omega) ?_
    exact ⟨by rw [zi_dec.2 (fun q0 => q0 c1)], rfl⟩
  · refine s_aload_n dRun_hasErred_0 rfl rfl ?_
    refine s_get dRun_hasErred_1 gf_Run_70 (by repeat (first | exact up_self | assumption | rw [up_ne (by first | assumption | (intro q0; cases q0; done) | (intro q0; simp at q0; omega))])) ?_
    refine s_if_eq dRun_hasErred_4 (fun q => absurd q c1) (fun _ => ?_)
    refine s_iconst (v := 1) dRun_hasErred_7 (by decide) ?_
    refine s_goto dRun_hasErred_8 ?_
    refine s_zret dRun_hasErred_12 rfl (by first | exact Or.inl rfl | exact Or.inr rfl | assumption) (by first | exact Nat.le_refl _ | decide | omega) (by first | exact Nat.le_refl _ | decide | omega) ?_
    exact ⟨by rw [zi_dec.1 c1], rfl⟩
theorem c_errAnswer {h : Hp} {e r0 : Int32} (U : uC h e r0) : ConF mRun_errAnswer 0 [vR (44, 0, 0)] h (some (vI (-10 - r0))) h := by
  obtain ⟨u1, -⟩ := U
  refine c_enter (by decide +kernel) rfl rfl ?_
  refine s_bipush (v := (-10)) dRun_errAnswer_0 (by decide) ?_
  refine s_aload_n dRun_errAnswer_2 rfl rfl ?_
  refine s_get dRun_errAnswer_3 gf_Run_73 (by repeat (first | exact up_self | assumption | rw [up_ne (by first | assumption | (intro q0; cases q0; done) | (intro q0; simp at q0; omega))])) ?_
  first | refine s_isubN dRun_errAnswer_6 (by omega) ?_ | refine s_isub dRun_errAnswer_6 ?_
  refine s_iret dRun_errAnswer_7 rfl (by first | exact Nat.le_refl _ | decide | omega) (by first | exact Nat.le_refl _ | decide | omega) ?_
  exact ⟨rfl, rfl⟩
def GBc (σ : Sg) (own od rw0 : Nat → List Nat) (K N NS B R s n : Nat) : Prop := ∀ (h : Hp) (g : Gs) (r d : Nat), d + n = 6 → 1 ≤ d → ST h σ own od rw0 K N NS B R → DY h σ N g → ge g = 0 → r < R → (dC σ r = 5 ∨ dC σ r = 6) →
  Con mRun_goToBook (4 * n + 4) 0 0 [vR (44, 0, 0), vR (28, r, 0), vR (14, s, 0), vI (nI d)] h (fun v h' => FD h h' ∧ low d h h' ∧ DY h' σ N (runS σ rw0 s n r (dX σ r) g).1 ∧ ∃ k, k ≤ 99 ∧ (runS σ rw0 s n r (dX σ r) g).2 = nI k ∧ v = some (vI (if ge (runS σ rw0 s n r (dX σ r) g).1 ≠ 0 then 0 else if dC σ r = 6 ∧ k ≠ 0 then nI k else -1)))
def OUTc (σ : Sg) (own od rw0 : Nat → List Nat) (K N NS B R s n : Nat) : Prop := ∀ (h : Hp) (g : Gs) (b d r0 : Nat), d + n = 6 → 1 ≤ d → ST h σ own od rw0 K N NS B R → DY h σ N g → ge g = 0 → b < B →
  Con mRun_outcomeOf (4 * n + 7) 0 0 [vR (44, 0, 0), vR (18, b, 0), vR (14, s, 0), vI (nI d)] h (fun v h' => FD h h' ∧ low (d - 1) h h' ∧ DY h' σ N (runS σ rw0 s (n + 1) r0 b g).1 ∧ ∃ k, k ≤ 99 ∧ (runS σ rw0 s (n + 1) r0 b g).2 = nI k ∧ v = some (vI (nI k)))
/-- what one rule does to a run -/
def RES (sub : Nat → Nat → Gs → Gs × Int32) (σ : Sg) (s d r N : Nat) (g : Gs) (vr : Nat → Int32) (ap : Nat → Bool) (h h' : Hp) (v : Option PV) : Prop := FD h h' ∧ low (d - 1) h h' ∧ ((v = some (vI (-1)) ∧ ∃ g' vr' ap', DY h' σ N g' ∧ ge g' = 0 ∧ oC h' (d - 1) vr' ap' ∧ ∀ l, goL sub σ s d (r :: l) g vr ap = goL sub σ s d l g' vr' ap') ∨ ∃ F k, v = some (vI (nI k)) ∧ k ≤ 99 ∧ DY h' σ N F ∧ ∀ l, goL sub σ s d (r :: l) g vr ap = (F, nI k))
theorem goL_a {sub : Nat → Nat → Gs → Gs × Int32} {σ : Sg} {s d r : Nat} {g : Gs} {vr : Nat → Int32} {ap : Nat → Bool} (hn : ¬ gn g = 300) (ha : apP σ r s (gv g) vr ap (nt (σ 13 r)) = true) (l : List Nat) : goL sub σ s d (r :: l) g vr ap = match dC σ r with
      | 1 => (gtr g r true d, nI (dX σ r))
      | 2 => goL sub σ s d l (gtr g r true d) (uf vr (dX σ r) (vr (dX σ r) + dY σ r)) (ub ap r)
      | 3 => goL sub σ s d l (gsv (gtr g r true d) (4 * s + dX σ r) (dY σ r)) vr (ub ap r)
      | 4 => if vr (nt (dY σ r)) = 0 then (ger (gtr g r true d) 1 r, 0) else goL sub σ s d l (gsv (gtr g r true d) (4 * s + dX σ r) (gv g (4 * s + dX σ r) / vr (nt (dY σ r)))) vr (ub ap r)
      | 5 => if ge (sub r (dX σ r) (gtr g r true d)).1 ≠ 0 then ((sub r (dX σ r) (gtr g r true d)).1, 0) else goL sub σ s d l (sub r (dX σ r) (gtr g r true d)).1 vr (ub ap r)
      | 6 => if ge (sub r (dX σ r) (gtr g r true d)).1 ≠ 0 then ((sub r (dX σ r) (gtr g r true d)).1, 0) else if (sub r (dX σ r) (gtr g r true d)).2 ≠ 0 then sub r (dX σ r) (gtr g r true d) else goL sub σ s d l (sub r (dX σ r) (gtr g r true d)).1 vr (ub ap r)
      | 7 => (gtr g r true d, 0)
      | 8 => goL sub σ s d l (gtr g r true d) (uf vr (dX σ r) (gv g (4 * s + nt (dY σ r)))) (ub ap r)
      | _ => goL sub σ s d l (gtr g r true d) vr (ub ap r) := by
  rw [goL, if_neg hn, if_neg (by rw [ha]; decide)]
  first | rfl | (split <;> rfl)
theorem c_perform {h : Hp} {σ : Sg} {own od rw0 : Nat → List Nat} {K N NS B R s n r d : Nat} {g : Gs} {vr : Nat → Int32} {ap : Nat → Bool} (G : GBc σ own od rw0 K N NS B R s n) (hd : d + n = 6) (hd1 : 1 ≤ d) (X : ST h σ own od rw0 K N NS B R) (D : DY h σ N (gtr g r true d)) (hg : ge g = 0) (O : oC h (d - 1) vr (ub ap r)) (hs : s < N) (hr : r < R) (hn : ¬ gn g = 300) (ha : apP σ r s (gv g) vr ap (nt (σ 13 r)) = true) :
    Con mRun_perform (4 * n + 5) 0 0 [vR (44, 0, 0), vR (28, r, 0), vR (14, s, 0), vR (45, d - 1, 0), vI (nI d)] h (fun v h' => RES (runS σ rw0 s n) σ s d r N g vr ap h h' v) := by
  have gl := goL_a (sub := runS σ rw0 s n) (d := d) hn ha
  obtain ⟨⟨b, hw, mk, eb, hb12, er, ehw⟩, -⟩ := X.2.2.1.2.1 r hr
  unfold ruL at er
  obtain ⟨c, hc8, ec, h1, h28, h48, h56⟩ := X.2.2.2.2.2.2.2.1 r hr
  have hB := X.2.2.2.2.2.2.2.2.1
  have edc : dC σ r = c := by show nt (σ 14 (3 * r)) = c; rw [ec, nt_nI (by omega)]
  rw [edc] at gl
  have O0 := O
  obtain ⟨w, f, o1, o2, o3, o4⟩ := O
  obtain ⟨a1, fv, a2, a3⟩ := D.1.2.1 s hs
  have u1 := D.2.2.1.1
  unfold RES
  refine c_enter (by decide +kernel) rfl rfl ?_
  rcases (show c = 0 ∨ c = 1 ∨ c = 2 ∨ c = 3 ∨ c = 4 ∨ (c = 5 ∨ c = 6) ∨ c = 7 ∨ c = 8 by omega) with rfl | rfl | rfl | rfl | rfl | c56 | rfl | rfl
  · refine s_aload_n dRun_perform_0 rfl rfl ?_
    refine s_get dRun_perform_1 gf_Run_166 (by repeat (first | exact up_self | assumption | rw [up_ne (by first | assumption | (intro q0; cases q0; done) | (intro q0; simp at q0; omega))])) ?_
    refine s_istore dRun_perform_4 rfl ?_
    refine s_aload_n dRun_perform_6 rfl rfl ?_
    refine s_get dRun_perform_7 gf_Run_169 (by repeat (first | exact up_self | assumption | rw [up_ne (by first | assumption | (intro q0; cases q0; done) | (intro q0; simp at q0; omega))])) ?_
    refine s_istore dRun_perform_10 rfl ?_
    refine s_aload_n dRun_perform_12 rfl rfl ?_
    refine s_get dRun_perform_13 gf_Run_172 (by repeat (first | exact up_self | assumption | rw [up_ne (by first | assumption | (intro q0; cases q0; done) | (intro q0; simp at q0; omega))])) ?_
    refine s_tv (congrArg vI ec) ?_
    refine s_tabOut (tgt := 155) dRun_perform_16 (by left; decide +kernel) (by decide) ?_
    refine s_iconst (v := (-1)) dRun_perform_155 (by decide) ?_
    refine s_iret dRun_perform_156 rfl (by first | exact Nat.le_refl _ | decide | omega) (by first | exact Nat.le_refl _ | decide | omega) ?_
    exact ⟨fT.rf, low.rf, Or.inl ⟨rfl, _, _, _, D, hg, O0, gl⟩⟩
  · obtain ⟨x, x1, x2, ex⟩ := h1 rfl
    have edx : dX σ r = x := by show nt (σ 14 (3 * r + 1)) = x; rw [ex, nt_nI (by omega)]
    rw [edx] at gl
    refine s_aload_n dRun_perform_0 rfl rfl ?_
    refine s_get dRun_perform_1 gf_Run_166 (by repeat (first | exact up_self | assumption | rw [up_ne (by first | assumption | (intro q0; cases q0; done) | (intro q0; simp at q0; omega))])) ?_
    refine s_tv (congrArg vI ex) ?_
    refine s_istore dRun_perform_4 rfl ?_
    refine s_aload_n dRun_perform_6 rfl rfl ?_
    refine s_get dRun_perform_7 gf_Run_169 (by repeat (first | exact up_self | assumption | rw [up_ne (by first | assumption | (intro q0; cases q0; done) | (intro q0; simp at q0; omega))])) ?_
    refine s_istore dRun_perform_10 rfl ?_
    refine s_aload_n dRun_perform_12 rfl rfl ?_
    refine s_get dRun_perform_13 gf_Run_172 (by repeat (first | exact up_self | assumption | rw [up_ne (by first | assumption | (intro q0; cases q0; done) | (intro q0; simp at q0; omega))])) ?_
    refine s_tv (congrArg vI ec) ?_
    refine s_tabIn (off := 48) (tgt := 64) dRun_perform_16 (by decide +kernel) (by decide +kernel) (by decide +kernel) (by decide) ?_
    refine s_iload dRun_perform_64 rfl ?_
    refine s_iret dRun_perform_66 rfl (by first | exact Nat.le_refl _ | decide | omega) (by first | exact Nat.le_refl _ | decide | omega) ?_
    exact ⟨fT.rf, low.rf, Or.inr ⟨_, x, rfl, by omega, D, gl⟩⟩
  · obtain ⟨x, x1, ex⟩ := h28 (by omega)
    have edx : dX σ r = x := by show nt (σ 14 (3 * r + 1)) = x; rw [ex, nt_nI (by omega)]
    rw [edx] at gl
    refine s_aload_n dRun_perform_0 rfl rfl ?_
    refine s_get dRun_perform_1 gf_Run_166 (by repeat (first | exact up_self | assumption | rw [up_ne (by first | assumption | (intro q0; cases q0; done) | (intro q0; simp at q0; omega))])) ?_
    refine s_tv (congrArg vI ex) ?_
    refine s_istore dRun_perform_4 rfl ?_
    refine s_aload_n dRun_perform_6 rfl rfl ?_
    refine s_get dRun_perform_7 gf_Run_169 (by repeat (first | exact up_self | assumption | rw [up_ne (by first | assumption | (intro q0; cases q0; done) | (intro q0; simp at q0; omega))])) ?_
    refine s_istore dRun_perform_10 rfl ?_
    refine s_aload_n dRun_perform_12 rfl rfl ?_
    refine s_get dRun_perform_13 gf_Run_172 (by repeat (first | exact up_self | assumption | rw [up_ne (by first | assumption | (intro q0; cases q0; done) | (intro q0; simp at q0; omega))])) ?_
    refine s_tv (congrArg vI ec) ?_
    refine s_tabIn (off := 51) (tgt := 67) dRun_perform_16 (by decide +kernel) (by decide +kernel) (by decide +kernel) (by decide) ?_
    refine s_aload_n dRun_perform_67 rfl rfl ?_
    refine s_get dRun_perform_68 gf_Run_154 (by repeat (first | exact up_self | assumption | rw [up_ne (by first | assumption | (intro q0; cases q0; done) | (intro q0; simp at q0; omega))])) ?_
    refine s_iload dRun_perform_71 rfl ?_
    refine s_dup2 dRun_perform_73 rfl rfl ?_
    refine s_ialdN dRun_perform_74 (by repeat (first | exact up_self | assumption | rw [up_ne (by first | assumption | (intro q0; cases q0; done) | (intro q0; simp at q0; omega))])) (by omega) (by omega) ?_
    refine s_tv (o3 x x1) ?_
    refine s_iload dRun_perform_75 rfl ?_
    first | refine s_iaddN dRun_perform_77 ?_ | refine s_iadd dRun_perform_77 ?_
    refine s_iastN dRun_perform_78 (by repeat (first | exact up_self | assumption | rw [up_ne (by first | assumption | (intro q0; cases q0; done) | (intro q0; simp at q0; omega))])) (by first | rfl | assumption) (by omega) (by omega) ?_
    refine s_iconst (v := (-1)) dRun_perform_79 (by decide) ?_
    refine s_iret dRun_perform_80 rfl (by first | exact Nat.le_refl _ | decide | omega) (by first | exact Nat.le_refl _ | decide | omega) ?_
    have O2 : oC (up h (46, d - 1, 0) (20, 4, upf f x (vI (vr x + σ 14 (3 * r + 2))))) (d - 1) (uf vr x (vr x + σ 14 (3 * r + 2))) (ub ap r) := by
      refine ⟨w, _, (up_ne (fun q0 => by simp at q0)).trans o1, up_self, fun z hz1 => ?_, o4⟩
      unfold upf uf
      by_cases c1 : z = x
      · rw [if_pos c1, if_pos c1]
      · rw [if_neg c1, if_neg c1]; exact o3 z hz1
    exact ⟨fT.rf.v, fun d' q1 => ⟨up_ne (fun q0 => by simp at q0), up_ne (fun q0 => by simp at q0; omega)⟩, Or.inl ⟨rfl, _, _, _, D.st (e := d - 1) (fun n b1 b2 => up_ne b2) O2, hg, O2, gl⟩⟩
  · obtain ⟨x, x1, ex⟩ := h28 (by omega)
    have edx : dX σ r = x := by show nt (σ 14 (3 * r + 1)) = x; rw [ex, nt_nI (by omega)]
    rw [edx] at gl
    refine s_aload_n dRun_perform_0 rfl rfl ?_
    refine s_get dRun_perform_1 gf_Run_166 (by repeat (first | exact up_self | assumption | rw [up_ne (by first | assumption | (intro q0; cases q0; done) | (intro q0; simp at q0; omega))])) ?_
    refine s_tv (congrArg vI ex) ?_
    refine s_istore dRun_perform_4 rfl ?_
    refine s_aload_n dRun_perform_6 rfl rfl ?_
    refine s_get dRun_perform_7 gf_Run_169 (by repeat (first | exact up_self | assumption | rw [up_ne (by first | assumption | (intro q0; cases q0; done) | (intro q0; simp at q0; omega))])) ?_
    refine s_istore dRun_perform_10 rfl ?_
    refine s_aload_n dRun_perform_12 rfl rfl ?_
    refine s_get dRun_perform_13 gf_Run_172 (by repeat (first | exact up_self | assumption | rw [up_ne (by first | assumption | (intro q0; cases q0; done) | (intro q0; simp at q0; omega))])) ?_
    refine s_tv (congrArg vI ec) ?_
    refine s_tabIn (off := 65) (tgt := 81) dRun_perform_16 (by decide +kernel) (by decide +kernel) (by decide +kernel) (by decide) ?_
    refine s_aload_n dRun_perform_81 rfl rfl ?_
    refine s_get dRun_perform_82 gf_Run_148 (by repeat (first | exact up_self | assumption | rw [up_ne (by first | assumption | (intro q0; cases q0; done) | (intro q0; simp at q0; omega))])) ?_
    refine s_iload dRun_perform_85 rfl ?_
    refine s_iload dRun_perform_87 rfl ?_
    refine s_iastN dRun_perform_89 (by repeat (first | exact up_self | assumption | rw [up_ne (by first | assumption | (intro q0; cases q0; done) | (intro q0; simp at q0; omega))])) (by first | rfl | assumption) (by omega) (by omega) ?_
    refine s_iconst (v := (-1)) dRun_perform_90 (by decide) ?_
    refine s_iret dRun_perform_91 rfl (by first | exact Nat.le_refl _ | decide | omega) (by first | exact Nat.le_refl _ | decide | omega) ?_
    exact ⟨fT.rf.v, fun d' q1 => ⟨up_ne (fun q0 => by simp at q0), up_ne (fun q0 => by simp at q0)⟩, Or.inl ⟨rfl, _, _, _, D.val hs x1 a2, hg, O0.fr (up_ne (fun q0 => by simp at q0)) (up_ne (fun q0 => by simp at q0)), gl⟩⟩
  · obtain ⟨x, x1, ex⟩ := h28 (by omega)
    have edx : dX σ r = x := by show nt (σ 14 (3 * r + 1)) = x; rw [ex, nt_nI (by omega)]
    obtain ⟨y, y1, ey⟩ := h48 (by omega)
    have edy : nt (dY σ r) = y := by show nt (σ 14 (3 * r + 2)) = y; rw [ey, nt_nI (by omega)]
    rw [edx, edy] at gl
    by_cases c1 : vr y = 0
    · refine s_aload_n dRun_perform_0 rfl rfl ?_
      refine s_get dRun_perform_1 gf_Run_166 (by repeat (first | exact up_self | assumption | rw [up_ne (by first | assumption | (intro q0; cases q0; done) | (intro q0; simp at q0; omega))])) ?_
      refine s_tv (congrArg vI ex) ?_
      refine s_istore dRun_perform_4 rfl ?_
      refine s_aload_n dRun_perform_6 rfl rfl ?_
      refine s_get dRun_perform_7 gf_Run_169 (by repeat (first | exact up_self | assumption | rw [up_ne (by first | assumption | (intro q0; cases q0; done) | (intro q0; simp at q0; omega))])) ?_
      refine s_tv (congrArg vI ey) ?_
      refine s_istore dRun_perform_10 rfl ?_
      refine s_aload_n dRun_perform_12 rfl rfl ?_
      refine s_get dRun_perform_13 gf_Run_172 (by repeat (first | exact up_self | assumption | rw [up_ne (by first | assumption | (intro q0; cases q0; done) | (intro q0; simp at q0; omega))])) ?_
      refine s_tv (congrArg vI ec) ?_
      refine s_tabIn (off := 76) (tgt := 92) dRun_perform_16 (by decide +kernel) (by decide +kernel) (by decide +kernel) (by decide) ?_
      refine s_aload_n dRun_perform_92 rfl rfl ?_
      refine s_get dRun_perform_93 gf_Run_154 (by repeat (first | exact up_self | assumption | rw [up_ne (by first | assumption | (intro q0; cases q0; done) | (intro q0; simp at q0; omega))])) ?_
      refine s_iload dRun_perform_96 rfl ?_
      refine s_ialdN dRun_perform_98 (by repeat (first | exact up_self | assumption | rw [up_ne (by first | assumption | (intro q0; cases q0; done) | (intro q0; simp at q0; omega))])) (by omega) (by omega) ?_
      refine s_tv (o3 y y1) ?_
      refine s_if_ne dRun_perform_99 (fun q => absurd c1 q) (fun _ => ?_)
      refine s_aload_n dRun_perform_102 rfl rfl ?_
      refine s_iconst (v := 1) dRun_perform_103 (by decide) ?_
      refine s_aload_n dRun_perform_104 rfl rfl ?_
      refine s_callV (As := [_, _]) dRun_perform_105 cv_Run_96 (by repeat (first | exact up_self | assumption | rw [up_ne (by first | assumption | (intro q0; cases q0; done) | (intro q0; simp at q0; omega))])) (c_Run_err (e := 1) D.2.2.1 X.2.2.1 hr) (by first | rfl | exact Nat.ble_eq_true_of_le (by omega)) (by first | rfl | exact Nat.ble_eq_true_of_le (by omega)) (by first | rfl | exact Nat.ble_eq_true_of_le (by omega)) rfl (fun v0 h2 q0 => ?_)
      obtain ⟨rfl, t1, t2⟩ := q0
      refine s_iret dRun_perform_108 rfl (by first | exact Nat.le_refl _ | decide | omega) (by first | exact Nat.le_refl _ | decide | omega) ?_
      refine ⟨fun m q1 => t2 m (fun q0 => q1 (by rw [q0]; decide)), fun d' q1 => ⟨t2 _ (fun q0 => by simp at q0), t2 _ (fun q0 => by simp at q0)⟩, Or.inr ⟨_, 0, rfl, by omega, D.err t2 t1, fun l => ?_⟩⟩
      rw [gl l]
      exact if_pos c1
    · refine s_aload_n dRun_perform_0 rfl rfl ?_
      refine s_get dRun_perform_1 gf_Run_166 (by repeat (first | exact up_self | assumption | rw [up_ne (by first | assumption | (intro q0; cases q0; done) | (intro q0; simp at q0; omega))])) ?_
      refine s_tv (congrArg vI ex) ?_
      refine s_istore dRun_perform_4 rfl ?_
      refine s_aload_n dRun_perform_6 rfl rfl ?_
      refine s_get dRun_perform_7 gf_Run_169 (by repeat (first | exact up_self | assumption | rw [up_ne (by first | assumption | (intro q0; cases q0; done) | (intro q0; simp at q0; omega))])) ?_
      refine s_tv (congrArg vI ey) ?_
      refine s_istore dRun_perform_10 rfl ?_
      refine s_aload_n dRun_perform_12 rfl rfl ?_
      refine s_get dRun_perform_13 gf_Run_172 (by repeat (first | exact up_self | assumption | rw [up_ne (by first | assumption | (intro q0; cases q0; done) | (intro q0; simp at q0; omega))])) ?_
      refine s_tv (congrArg vI ec) ?_
      refine s_tabIn (off := 76) (tgt := 92) dRun_perform_16 (by decide +kernel) (by decide +kernel) (by decide +kernel) (by decide) ?_
      refine s_aload_n dRun_perform_92 rfl rfl ?_
      refine s_get dRun_perform_93 gf_Run_154 (by repeat (first | exact up_self | assumption | rw [up_ne (by first | assumption | (intro q0; cases q0; done) | (intro q0; simp at q0; omega))])) ?_
      refine s_iload dRun_perform_96 rfl ?_
      refine s_ialdN dRun_perform_98 (by repeat (first | exact up_self | assumption | rw [up_ne (by first | assumption | (intro q0; cases q0; done) | (intro q0; simp at q0; omega))])) (by omega) (by omega) ?_
      refine s_tv (o3 y y1) ?_
      refine s_if_ne dRun_perform_99 (fun _ => ?_) (fun q => absurd q c1)
      refine s_aload_n dRun_perform_109 rfl rfl ?_
      refine s_get dRun_perform_110 gf_Run_148 (by repeat (first | exact up_self | assumption | rw [up_ne (by first | assumption | (intro q0; cases q0; done) | (intro q0; simp at q0; omega))])) ?_
      refine s_iload dRun_perform_113 rfl ?_
      refine s_dup2 dRun_perform_115 rfl rfl ?_
      refine s_ialdN dRun_perform_116 (by repeat (first | exact up_self | assumption | rw [up_ne (by first | assumption | (intro q0; cases q0; done) | (intro q0; simp at q0; omega))])) (by omega) (by omega) ?_
      refine s_tv (a3 x x1) ?_
      refine s_aload_n dRun_perform_117 rfl rfl ?_
      refine s_get dRun_perform_118 gf_Run_154 (by repeat (first | exact up_self | assumption | rw [up_ne (by first | assumption | (intro q0; cases q0; done) | (intro q0; simp at q0; omega))])) ?_
      refine s_iload dRun_perform_121 rfl ?_
      refine s_ialdN dRun_perform_123 (by repeat (first | exact up_self | assumption | rw [up_ne (by first | assumption | (intro q0; cases q0; done) | (intro q0; simp at q0; omega))])) (by omega) (by omega) ?_
      refine s_tv (o3 y y1) ?_
      refine s_idiv dRun_perform_124 c1 ?_
      refine s_iastN dRun_perform_125 (by repeat (first | exact up_self | assumption | rw [up_ne (by first | assumption | (intro q0; cases q0; done) | (intro q0; simp at q0; omega))])) (by first | rfl | assumption) (by omega) (by omega) ?_
      refine s_iconst (v := (-1)) dRun_perform_126 (by decide) ?_
      refine s_iret dRun_perform_127 rfl (by first | exact Nat.le_refl _ | decide | omega) (by first | exact Nat.le_refl _ | decide | omega) ?_
      refine ⟨fT.rf.v, fun d' q1 => ⟨up_ne (fun q0 => by simp at q0), up_ne (fun q0 => by simp at q0)⟩, Or.inl ⟨rfl, _, _, _, D.val hs x1 a2, hg, O0.fr (up_ne (fun q0 => by simp at q0)) (up_ne (fun q0 => by simp at q0)), fun l => ?_⟩⟩
      rw [gl l]
      exact if_neg c1
  · have cg := G h (gtr g r true d) r d hd hd1 X D hg hr (by rw [edc]; exact c56)
    have fin : ∀ (h' : Hp) (v0 : Option PV), (FD h h' ∧ low d h h' ∧ DY h' σ N (runS σ rw0 s n r (dX σ r) (gtr g r true d)).1 ∧ ∃ k, k ≤ 99 ∧ (runS σ rw0 s n r (dX σ r) (gtr g r true d)).2 = nI k ∧ v0 = some (vI (if ge (runS σ rw0 s n r (dX σ r) (gtr g r true d)).1 ≠ 0 then 0 else if dC σ r = 6 ∧ k ≠ 0 then nI k else -1))) → RES (runS σ rw0 s n) σ s d r N g vr ap h h' v0 := by
      intro h' v0 ⟨q1, q2, q3, k, q4, q5, q6⟩
      refine ⟨q1, q2.le (by omega), ?_⟩
      have O2 : oC h' (d - 1) vr (ub ap r) := O0.fr (q2 _ (by omega)).1 (q2 _ (by omega)).2
      by_cases z1 : ge (runS σ rw0 s n r (dX σ r) (gtr g r true d)).1 ≠ 0
      · rw [if_pos z1] at q6
        refine Or.inr ⟨_, 0, q6, by omega, q3, fun l => ?_⟩
        rw [gl l]
        rcases c56 with rfl | rfl
        · exact if_pos z1
        · exact if_pos z1
      · rw [if_neg z1] at q6
        rcases c56 with rfl | rfl
        · rw [if_neg (fun q0 => by rw [edc] at q0; omega)] at q6
          refine Or.inl ⟨q6, _, _, _, q3, Decidable.not_not.mp z1, O2, fun l => ?_⟩
          rw [gl l]
          exact if_neg z1
        · by_cases z2 : k = 0
          · rw [if_neg (fun q0 => q0.2 z2)] at q6
            refine Or.inl ⟨q6, _, _, _, q3, Decidable.not_not.mp z1, O2, fun l => ?_⟩
            rw [gl l]
            exact (if_neg z1).trans (if_neg (fun q0 => q0 (by rw [q5, z2]; rfl)))
          · rw [if_pos ⟨edc, z2⟩] at q6
            refine Or.inr ⟨_, k, q6, q4, q3, fun l => ?_⟩
            rw [gl l]
            have z3 : (runS σ rw0 s n r (dX σ r) (gtr g r true d)).2 ≠ 0 := by rw [q5]; exact nI_ne (b := 0) z2 (by omega) (by omega)
            exact (if_neg z1).trans ((if_pos z3).trans (Prod.ext rfl q5))
    rcases c56 with rfl | rfl
    · refine s_aload_n dRun_perform_0 rfl rfl ?_
      refine s_get dRun_perform_1 gf_Run_166 (by repeat (first | exact up_self | assumption | rw [up_ne (by first | assumption | (intro q0; cases q0; done) | (intro q0; simp at q0; omega))])) ?_
      refine s_istore dRun_perform_4 rfl ?_
      refine s_aload_n dRun_perform_6 rfl rfl ?_
      refine s_get dRun_perform_7 gf_Run_169 (by repeat (first | exact up_self | assumption | rw [up_ne (by first | assumption | (intro q0; cases q0; done) | (intro q0; simp at q0; omega))])) ?_
      refine s_istore dRun_perform_10 rfl ?_
      refine s_aload_n dRun_perform_12 rfl rfl ?_
      refine s_get dRun_perform_13 gf_Run_172 (by repeat (first | exact up_self | assumption | rw [up_ne (by first | assumption | (intro q0; cases q0; done) | (intro q0; simp at q0; omega))])) ?_
      refine s_tv (congrArg vI ec) ?_
      refine s_tabIn (off := 112) (tgt := 128) dRun_perform_16 (by decide +kernel) (by decide +kernel) (by decide +kernel) (by decide) ?_
      refine s_aload_n dRun_perform_128 rfl rfl ?_
      refine s_aload_n dRun_perform_129 rfl rfl ?_
      refine s_aload_n dRun_perform_130 rfl rfl ?_
      refine s_iload dRun_perform_131 rfl ?_
      refine s_callV (As := [_, _, _]) dRun_perform_133 cv_Run_175 (by repeat (first | exact up_self | assumption | rw [up_ne (by first | assumption | (intro q0; cases q0; done) | (intro q0; simp at q0; omega))])) (cg) (by first | rfl | exact Nat.ble_eq_true_of_le (by omega)) (by first | rfl | exact Nat.ble_eq_true_of_le (by omega)) (by first | rfl | exact Nat.ble_eq_true_of_le (by omega)) rfl (fun v0 h2 q0 => ?_)
      have q1 := q0
      have q2 := fin _ _ q1
      obtain ⟨-, -, -, k, -, -, rfl⟩ := q1
      refine s_iret dRun_perform_136 rfl (by first | exact Nat.le_refl _ | decide | omega) (by first | exact Nat.le_refl _ | decide | omega) ?_
      exact q2
    · refine s_aload_n dRun_perform_0 rfl rfl ?_
      refine s_get dRun_perform_1 gf_Run_166 (by repeat (first | exact up_self | assumption | rw [up_ne (by first | assumption | (intro q0; cases q0; done) | (intro q0; simp at q0; omega))])) ?_
      refine s_istore dRun_perform_4 rfl ?_
      refine s_aload_n dRun_perform_6 rfl rfl ?_
      refine s_get dRun_perform_7 gf_Run_169 (by repeat (first | exact up_self | assumption | rw [up_ne (by first | assumption | (intro q0; cases q0; done) | (intro q0; simp at q0; omega))])) ?_
      refine s_istore dRun_perform_10 rfl ?_
      refine s_aload_n dRun_perform_12 rfl rfl ?_
      refine s_get dRun_perform_13 gf_Run_172 (by repeat (first | exact up_self | assumption | rw [up_ne (by first | assumption | (intro q0; cases q0; done) | (intro q0; simp at q0; omega))])) ?_
      refine s_tv (congrArg vI ec) ?_
      refine s_tabIn (off := 112) (tgt := 128) dRun_perform_16 (by decide +kernel) (by decide +kernel) (by decide +kernel) (by decide) ?_
      refine s_aload_n dRun_perform_128 rfl rfl ?_
      refine s_aload_n dRun_perform_129 rfl rfl ?_
      refine s_aload_n dRun_perform_130 rfl rfl ?_
      refine s_iload dRun_perform_131 rfl ?_
      refine s_callV (As := [_, _, _]) dRun_perform_133 cv_Run_175 (by repeat (first | exact up_self | assumption | rw [up_ne (by first | assumption | (intro q0; cases q0; done) | (intro q0; simp at q0; omega))])) (cg) (by first | rfl | exact Nat.ble_eq_true_of_le (by omega)) (by first | rfl | exact Nat.ble_eq_true_of_le (by omega)) (by first | rfl | exact Nat.ble_eq_true_of_le (by omega)) rfl (fun v0 h2 q0 => ?_)
      have q1 := q0
      have q2 := fin _ _ q1
      obtain ⟨-, -, -, k, -, -, rfl⟩ := q1
      refine s_iret dRun_perform_136 rfl (by first | exact Nat.le_refl _ | decide | omega) (by first | exact Nat.le_refl _ | decide | omega) ?_
      exact q2
  · refine s_aload_n dRun_perform_0 rfl rfl ?_
    refine s_get dRun_perform_1 gf_Run_166 (by repeat (first | exact up_self | assumption | rw [up_ne (by first | assumption | (intro q0; cases q0; done) | (intro q0; simp at q0; omega))])) ?_
    refine s_istore dRun_perform_4 rfl ?_
    refine s_aload_n dRun_perform_6 rfl rfl ?_
    refine s_get dRun_perform_7 gf_Run_169 (by repeat (first | exact up_self | assumption | rw [up_ne (by first | assumption | (intro q0; cases q0; done) | (intro q0; simp at q0; omega))])) ?_
    refine s_istore dRun_perform_10 rfl ?_
    refine s_aload_n dRun_perform_12 rfl rfl ?_
    refine s_get dRun_perform_13 gf_Run_172 (by repeat (first | exact up_self | assumption | rw [up_ne (by first | assumption | (intro q0; cases q0; done) | (intro q0; simp at q0; omega))])) ?_
    refine s_tv (congrArg vI ec) ?_
    refine s_tabIn (off := 121) (tgt := 137) dRun_perform_16 (by decide +kernel) (by decide +kernel) (by decide +kernel) (by decide) ?_
    refine s_iconst (v := 0) dRun_perform_137 (by decide) ?_
    refine s_iret dRun_perform_138 rfl (by first | exact Nat.le_refl _ | decide | omega) (by first | exact Nat.le_refl _ | decide | omega) ?_
    exact ⟨fT.rf, low.rf, Or.inr ⟨_, 0, rfl, by omega, D, gl⟩⟩
  · obtain ⟨x, x1, ex⟩ := h28 (by omega)
    have edx : dX σ r = x := by show nt (σ 14 (3 * r + 1)) = x; rw [ex, nt_nI (by omega)]
    obtain ⟨y, y1, ey⟩ := h48 (by omega)
    have edy : nt (dY σ r) = y := by show nt (σ 14 (3 * r + 2)) = y; rw [ey, nt_nI (by omega)]
    rw [edx, edy] at gl
    refine s_aload_n dRun_perform_0 rfl rfl ?_
    refine s_get dRun_perform_1 gf_Run_166 (by repeat (first | exact up_self | assumption | rw [up_ne (by first | assumption | (intro q0; cases q0; done) | (intro q0; simp at q0; omega))])) ?_
    refine s_tv (congrArg vI ex) ?_
    refine s_istore dRun_perform_4 rfl ?_
    refine s_aload_n dRun_perform_6 rfl rfl ?_
    refine s_get dRun_perform_7 gf_Run_169 (by repeat (first | exact up_self | assumption | rw [up_ne (by first | assumption | (intro q0; cases q0; done) | (intro q0; simp at q0; omega))])) ?_
    refine s_tv (congrArg vI ey) ?_
    refine s_istore dRun_perform_10 rfl ?_
    refine s_aload_n dRun_perform_12 rfl rfl ?_
    refine s_get dRun_perform_13 gf_Run_172 (by repeat (first | exact up_self | assumption | rw [up_ne (by first | assumption | (intro q0; cases q0; done) | (intro q0; simp at q0; omega))])) ?_
    refine s_tv (congrArg vI ec) ?_
    refine s_tabIn (off := 123) (tgt := 139) dRun_perform_16 (by decide +kernel) (by decide +kernel) (by decide +kernel) (by decide) ?_
    refine s_aload_n dRun_perform_139 rfl rfl ?_
    refine s_get dRun_perform_140 gf_Run_154 (by repeat (first | exact up_self | assumption | rw [up_ne (by first | assumption | (intro q0; cases q0; done) | (intro q0; simp at q0; omega))])) ?_
    refine s_iload dRun_perform_143 rfl ?_
    refine s_aload_n dRun_perform_145 rfl rfl ?_
    refine s_get dRun_perform_146 gf_Run_148 (by repeat (first | exact up_self | assumption | rw [up_ne (by first | assumption | (intro q0; cases q0; done) | (intro q0; simp at q0; omega))])) ?_
    refine s_iload dRun_perform_149 rfl ?_
    refine s_ialdN dRun_perform_151 (by repeat (first | exact up_self | assumption | rw [up_ne (by first | assumption | (intro q0; cases q0; done) | (intro q0; simp at q0; omega))])) (by omega) (by omega) ?_
    refine s_tv (a3 y y1) ?_
    refine s_iastN dRun_perform_152 (by repeat (first | exact up_self | assumption | rw [up_ne (by first | assumption | (intro q0; cases q0; done) | (intro q0; simp at q0; omega))])) (by first | rfl | assumption) (by omega) (by omega) ?_
    refine s_iconst (v := (-1)) dRun_perform_153 (by decide) ?_
    refine s_iret dRun_perform_154 rfl (by first | exact Nat.le_refl _ | decide | omega) (by first | exact Nat.le_refl _ | decide | omega) ?_
    have O2 : oC (up h (46, d - 1, 0) (20, 4, upf f x (vI (gv g (4 * s + y))))) (d - 1) (uf vr x (gv g (4 * s + y))) (ub ap r) := by
      refine ⟨w, _, (up_ne (fun q0 => by simp at q0)).trans o1, up_self, fun z hz1 => ?_, o4⟩
      unfold upf uf
      by_cases c1 : z = x
      · rw [if_pos c1, if_pos c1]
      · rw [if_neg c1, if_neg c1]; exact o3 z hz1
    exact ⟨fT.rf.v, fun d' q1 => ⟨up_ne (fun q0 => by simp at q0), up_ne (fun q0 => by simp at q0; omega)⟩, Or.inl ⟨rfl, _, _, _, D.st (e := d - 1) (fun n b1 b2 => up_ne b2) O2, hg, O2, gl⟩⟩
theorem c_lookAt {h : Hp} {σ : Sg} {own od rw0 : Nat → List Nat} {K N NS B R s n r d : Nat} {g : Gs} {vr : Nat → Int32} {ap : Nat → Bool} (G : GBc σ own od rw0 K N NS B R s n) (hd : d + n = 6) (hd1 : 1 ≤ d) (X : ST h σ own od rw0 K N NS B R) (D : DY h σ N g) (hg : ge g = 0) (O : oC h (d - 1) vr ap) (hs : s < N) (hr : r < R) :
    Con mRun_lookAt (4 * n + 6) 0 0 [vR (44, 0, 0), vR (28, r, 0), vR (14, s, 0), vR (45, d - 1, 0), vI (nI d)] h (fun v h' => RES (runS σ rw0 s n) σ s d r N g vr ap h h' v) := by
  obtain ⟨⟨b, hw, mk, eb, hb12, er, ehw⟩, -⟩ := X.2.2.1.2.1 r hr
  unfold ruL at er
  have u1 := D.2.2.1.1
  have t0 := D.2.1.1
  have cfl := c_isFull D.2.1 D.2.2.2.2
  have hR := X.2.2.2.2.2.2.1.2.1
  have O0 := O
  obtain ⟨w, f, o1, o2, o3, o4⟩ := O
  have cal := c_areAllSo D.2.2.1 X.1 X.2.2.2.2.1 X.2.2.2.2.2.1 D.1 X.2.2.2.1 X.2.2.2.2.2.2.1 X.2.2.1 O0 hs hr
  refine c_enter (by decide +kernel) rfl rfl ?_
  by_cases c1 : gn g = 300
  · rw [zi_dec.1 c1] at cfl
    refine s_aload_n dRun_lookAt_0 rfl rfl ?_
    refine s_get dRun_lookAt_1 gf_Run_20 (by repeat (first | exact up_self | assumption | rw [up_ne (by first | assumption | (intro q0; cases q0; done) | (intro q0; simp at q0; omega))])) ?_
    refine s_v0 dRun_lookAt_4 cv_Run_93 (by repeat (first | exact up_self | assumption | rw [up_ne (by first | assumption | (intro q0; cases q0; done) | (intro q0; simp at q0; omega))])) (cfl) (by first | rfl | exact Nat.ble_eq_true_of_le (by omega)) (by first | rfl | exact Nat.ble_eq_true_of_le (by omega)) (by first | rfl | exact Nat.ble_eq_true_of_le (by omega)) rfl ?_
    refine s_if_eq dRun_lookAt_7 (fun q => absurd q (by decide)) (fun _ => ?_)
    refine s_aload_n dRun_lookAt_10 rfl rfl ?_
    refine s_iconst (v := nI 3) dRun_lookAt_11 (by decide) ?_
    refine s_aload_n dRun_lookAt_12 rfl rfl ?_
    refine s_callV (As := [_, _]) dRun_lookAt_13 cv_Run_96 (by repeat (first | exact up_self | assumption | rw [up_ne (by first | assumption | (intro q0; cases q0; done) | (intro q0; simp at q0; omega))])) (c_Run_err (e := nI 3) D.2.2.1 X.2.2.1 hr) (by first | rfl | exact Nat.ble_eq_true_of_le (by omega)) (by first | rfl | exact Nat.ble_eq_true_of_le (by omega)) (by first | rfl | exact Nat.ble_eq_true_of_le (by omega)) rfl (fun v0 h2 q0 => ?_)
    obtain ⟨rfl, t1, t2⟩ := q0
    refine s_iret dRun_lookAt_16 rfl (by first | exact Nat.le_refl _ | decide | omega) (by first | exact Nat.le_refl _ | decide | omega) ?_
    refine ⟨fun m q1 => t2 m (fun q0 => q1 (by rw [q0]; decide)), fun d' q1 => ⟨t2 _ (fun q0 => by simp at q0), t2 _ (fun q0 => by simp at q0)⟩, Or.inr ⟨_, 0, rfl, by omega, D.err t2 t1, fun l => ?_⟩⟩
    rw [goL, if_pos c1]
    rfl
  · rw [zi_dec.2 c1] at cfl
    have hn3 := D.2.2.2.2
    cases ha : apP σ r s (gv g) vr ap (nt (σ 13 r)) with
    | false =>
      rw [ha] at cal
      refine s_aload_n dRun_lookAt_0 rfl rfl ?_
      refine s_get dRun_lookAt_1 gf_Run_20 (by repeat (first | exact up_self | assumption | rw [up_ne (by first | assumption | (intro q0; cases q0; done) | (intro q0; simp at q0; omega))])) ?_
      refine s_v0 dRun_lookAt_4 cv_Run_93 (by repeat (first | exact up_self | assumption | rw [up_ne (by first | assumption | (intro q0; cases q0; done) | (intro q0; simp at q0; omega))])) (cfl) (by first | rfl | exact Nat.ble_eq_true_of_le (by omega)) (by first | rfl | exact Nat.ble_eq_true_of_le (by omega)) (by first | rfl | exact Nat.ble_eq_true_of_le (by omega)) rfl ?_
      refine s_if_eq dRun_lookAt_7 (fun _ => ?_) (fun q => absurd rfl q)
      refine s_aload_n dRun_lookAt_17 rfl rfl ?_
      refine s_aload_n dRun_lookAt_18 rfl rfl ?_
      refine s_get dRun_lookAt_19 gf_Run_100 (by repeat (first | exact up_self | assumption | rw [up_ne (by first | assumption | (intro q0; cases q0; done) | (intro q0; simp at q0; omega))])) ?_
      refine s_aload_n dRun_lookAt_22 rfl rfl ?_
      refine s_aload_n dRun_lookAt_23 rfl rfl ?_
      refine s_v3 dRun_lookAt_24 cv_Run_103 (by repeat (first | exact up_self | assumption | rw [up_ne (by first | assumption | (intro q0; cases q0; done) | (intro q0; simp at q0; omega))])) (cal) (by first | rfl | exact Nat.ble_eq_true_of_le (by omega)) (by first | rfl | exact Nat.ble_eq_true_of_le (by omega)) (by first | rfl | exact Nat.ble_eq_true_of_le (by omega)) rfl ?_
      refine s_istore dRun_lookAt_27 rfl ?_
      refine s_aload_n dRun_lookAt_29 rfl rfl ?_
      refine s_get dRun_lookAt_30 gf_Run_20 (by repeat (first | exact up_self | assumption | rw [up_ne (by first | assumption | (intro q0; cases q0; done) | (intro q0; simp at q0; omega))])) ?_
      refine s_aload_n dRun_lookAt_33 rfl rfl ?_
      refine s_get dRun_lookAt_34 gf_Run_107 (by repeat (first | exact up_self | assumption | rw [up_ne (by first | assumption | (intro q0; cases q0; done) | (intro q0; simp at q0; omega))])) ?_
      refine s_iload dRun_lookAt_37 rfl ?_
      refine s_iload dRun_lookAt_39 rfl ?_
      refine s_callV (As := [_, _, _]) dRun_lookAt_41 cv_Run_110 (by repeat (first | exact up_self | assumption | rw [up_ne (by first | assumption | (intro q0; cases q0; done) | (intro q0; simp at q0; omega))])) (c_Trc_add (r := nI r) (b := false) (d := d) D.2.1 (by omega)) (by first | rfl | exact Nat.ble_eq_true_of_le (by omega)) (by first | rfl | exact Nat.ble_eq_true_of_le (by omega)) (by first | rfl | exact Nat.ble_eq_true_of_le (by omega)) rfl (fun v0 h2 q0 => ?_)
      obtain ⟨rfl, t1, t2⟩ := q0
      refine s_iload dRun_lookAt_44 rfl ?_
      refine s_if_ne dRun_lookAt_46 (fun q => absurd rfl q) (fun _ => ?_)
      refine s_iconst (v := (-1)) dRun_lookAt_49 (by decide) ?_
      refine s_iret dRun_lookAt_50 rfl (by first | exact Nat.le_refl _ | decide | omega) (by first | exact Nat.le_refl _ | decide | omega) ?_
      refine ⟨t1.mo (by decide), fun d' q1 => ⟨t1 _ (show (45 : Nat) ∉ [47] by decide), t1 _ (show (46 : Nat) ∉ [47] by decide)⟩, Or.inl ⟨rfl, _, _, _, D.trc c1 t1 t2, hg, O0.fr (t1 _ (show (45 : Nat) ∉ [47] by decide)) (t1 _ (show (46 : Nat) ∉ [47] by decide)), fun l => ?_⟩⟩
      rw [goL, if_neg c1, if_pos ha]
    | true =>
      rw [ha] at cal
      refine s_aload_n dRun_lookAt_0 rfl rfl ?_
      refine s_get dRun_lookAt_1 gf_Run_20 (by repeat (first | exact up_self | assumption | rw [up_ne (by first | assumption | (intro q0; cases q0; done) | (intro q0; simp at q0; omega))])) ?_
      refine s_v0 dRun_lookAt_4 cv_Run_93 (by repeat (first | exact up_self | assumption | rw [up_ne (by first | assumption | (intro q0; cases q0; done) | (intro q0; simp at q0; omega))])) (cfl) (by first | rfl | exact Nat.ble_eq_true_of_le (by omega)) (by first | rfl | exact Nat.ble_eq_true_of_le (by omega)) (by first | rfl | exact Nat.ble_eq_true_of_le (by omega)) rfl ?_
      refine s_if_eq dRun_lookAt_7 (fun _ => ?_) (fun q => absurd rfl q)
      refine s_aload_n dRun_lookAt_17 rfl rfl ?_
      refine s_aload_n dRun_lookAt_18 rfl rfl ?_
      refine s_get dRun_lookAt_19 gf_Run_100 (by repeat (first | exact up_self | assumption | rw [up_ne (by first | assumption | (intro q0; cases q0; done) | (intro q0; simp at q0; omega))])) ?_
      refine s_aload_n dRun_lookAt_22 rfl rfl ?_
      refine s_aload_n dRun_lookAt_23 rfl rfl ?_
      refine s_v3 dRun_lookAt_24 cv_Run_103 (by repeat (first | exact up_self | assumption | rw [up_ne (by first | assumption | (intro q0; cases q0; done) | (intro q0; simp at q0; omega))])) (cal) (by first | rfl | exact Nat.ble_eq_true_of_le (by omega)) (by first | rfl | exact Nat.ble_eq_true_of_le (by omega)) (by first | rfl | exact Nat.ble_eq_true_of_le (by omega)) rfl ?_
      refine s_istore dRun_lookAt_27 rfl ?_
      refine s_aload_n dRun_lookAt_29 rfl rfl ?_
      refine s_get dRun_lookAt_30 gf_Run_20 (by repeat (first | exact up_self | assumption | rw [up_ne (by first | assumption | (intro q0; cases q0; done) | (intro q0; simp at q0; omega))])) ?_
      refine s_aload_n dRun_lookAt_33 rfl rfl ?_
      refine s_get dRun_lookAt_34 gf_Run_107 (by repeat (first | exact up_self | assumption | rw [up_ne (by first | assumption | (intro q0; cases q0; done) | (intro q0; simp at q0; omega))])) ?_
      refine s_iload dRun_lookAt_37 rfl ?_
      refine s_iload dRun_lookAt_39 rfl ?_
      refine s_callV (As := [_, _, _]) dRun_lookAt_41 cv_Run_110 (by repeat (first | exact up_self | assumption | rw [up_ne (by first | assumption | (intro q0; cases q0; done) | (intro q0; simp at q0; omega))])) (c_Trc_add (r := nI r) (b := true) (d := d) D.2.1 (by omega)) (by first | rfl | exact Nat.ble_eq_true_of_le (by omega)) (by first | rfl | exact Nat.ble_eq_true_of_le (by omega)) (by first | rfl | exact Nat.ble_eq_true_of_le (by omega)) rfl (fun v0 h2 q0 => ?_)
      obtain ⟨rfl, t1, t2⟩ := q0
      have O2 : oC h2 (d - 1) vr ap := O0.fr (t1 _ (show (45 : Nat) ∉ [47] by decide)) (t1 _ (show (46 : Nat) ∉ [47] by decide))
      have D2 := D.trc (d := d) c1 t1 t2
      have er2 : h2 (28, r, 0) = _ := (t1 _ (show (28 : Nat) ∉ [47] by decide)).trans er
      obtain ⟨w2, f2, p1, p2, p3, p4⟩ := id O2
      refine s_iload dRun_lookAt_44 rfl ?_
      refine s_if_ne dRun_lookAt_46 (fun _ => ?_) (fun q => absurd q (by decide))
      refine s_aload_n dRun_lookAt_51 rfl rfl ?_
      refine s_aload_n dRun_lookAt_52 rfl rfl ?_
      refine s_get dRun_lookAt_53 gf_Run_107 (by repeat (first | exact up_self | assumption | rw [up_ne (by first | assumption | (intro q0; cases q0; done) | (intro q0; simp at q0; omega))])) ?_
      refine s_callV (As := [_]) dRun_lookAt_56 cv_Run_114 (by repeat (first | exact up_self | assumption | rw [up_ne (by first | assumption | (intro q0; cases q0; done) | (intro q0; simp at q0; omega))])) (c_noteApplied (show r < 60 by omega) O2) (by first | rfl | exact Nat.ble_eq_true_of_le (by omega)) (by first | rfl | exact Nat.ble_eq_true_of_le (by omega)) (by first | rfl | exact Nat.ble_eq_true_of_le (by omega)) rfl (fun v0 h3 q0 => ?_)
      obtain ⟨rfl, s1, s2⟩ := q0
      have D3 := D2.st (e := d - 1) (fun n b1 _ => s2 n b1) s1
      have F3 : FD h h3 := fun m q1 => (s2 m (fun q0 => q1 (by rw [q0]; simp))).trans (t1 m (fun q0 => q1 (by simp at q0; rw [q0]; simp)))
      have u3 := D3.2.2.1.1
      refine s_aload_n dRun_lookAt_59 rfl rfl ?_
      refine s_aload_n dRun_lookAt_60 rfl rfl ?_
      refine s_aload_n dRun_lookAt_61 rfl rfl ?_
      refine s_aload_n dRun_lookAt_62 rfl rfl ?_
      refine s_iload dRun_lookAt_63 rfl ?_
      refine s_callV (As := [_, _, _, _]) dRun_lookAt_65 cv_Run_118 (by repeat (first | exact up_self | assumption | rw [up_ne (by first | assumption | (intro q0; cases q0; done) | (intro q0; simp at q0; omega))])) (c_perform G hd hd1 (X.mv F3) D3 hg s1 hs hr c1 ha) (by first | rfl | exact Nat.ble_eq_true_of_le (by omega)) (by first | rfl | exact Nat.ble_eq_true_of_le (by omega)) (by first | rfl | exact Nat.ble_eq_true_of_le (by omega)) rfl (fun v0 h4 q0 => ?_)
      have q1 := q0
      have L3 : low (d - 1) h h3 := fun d' q2 => ⟨(s2 _ (fun q0 => by simp at q0; omega)).trans (t1 _ (show (45 : Nat) ∉ [47] by decide)), (s2 _ (fun q0 => by simp at q0)).trans (t1 _ (show (46 : Nat) ∉ [47] by decide))⟩
      have q2 : RES (runS σ rw0 s n) σ s d r N g vr ap h h4 v0 := ⟨F3.tr q1.1, L3.tr q1.2.1, q1.2.2⟩
      rcases q1.2.2 with ⟨e1, -⟩ | ⟨-, k, e1, -⟩
      · subst e1
        refine s_iret dRun_lookAt_68 rfl (by first | exact Nat.le_refl _ | decide | omega) (by first | exact Nat.le_refl _ | decide | omega) ?_
        exact q2
      · subst e1
        refine s_iret dRun_lookAt_68 rfl (by first | exact Nat.le_refl _ | decide | omega) (by first | exact Nat.le_refl _ | decide | omega) ?_
        exact q2
theorem l_outcome {σ : Sg} {own od rw0 : Nat → List Nat} {K N NS B R s n b d : Nat} {Q : Option PV → Hp → Prop} (G : GBc σ own od rw0 K N NS B R s n) (hd : d + n = 6) (hd1 : 1 ≤ d) (hs : s < N) (hb : b < B) :
    ∀ (l : List Nat) (i : Nat) (h : Hp) (g : Gs) (vr : Nat → Int32) (ap : Nat → Bool) (o6 : Option PV), ST h σ own od rw0 K N NS B R → DY h σ N g → ge g = 0 → oC h (d - 1) vr ap → (rw0 b).drop i = l → i ≤ (rw0 b).length →
      (∀ h2 F k, FD h h2 → low (d - 1) h h2 → DY h2 σ N F → k ≤ 99 → goL (runS σ rw0 s n) σ s d l g vr ap = (F, nI k) → Q (some (vI (nI k))) h2) →
      S mRun_outcomeOf (4 * n + 7) 0 0 Q 22 [some (vR (44, 0, 0)), some (vR (18, b, 0)), some (vR (14, s, 0)), some (vI (nI d)), some (vR (45, d - 1, 0)), some (vI (nI i)), o6] [] h 0 0 := by
  intro l
  induction l with
  | nil =>
    intro i h g vr ap o6 X D hg O el hil kk
    obtain ⟨d1, ⟨fx, d2, d3⟩, d4, d5, d6⟩ := X.2.1.2.1 b hb
    obtain ⟨cap, z, f, e2, -⟩ := id d6
    have hl := (X.2.2.2.2.2.2.2.2.2 b hb).2
    have hi1 : (rw0 b).length ≤ i := by
      have := congrArg List.length el
      simp at this
      omega
    have css := c_size d6
    rw [rL_len] at css
    refine s_iload dRun_outcomeOf_22 rfl ?_
    refine s_aload_n dRun_outcomeOf_24 rfl rfl ?_
    refine s_get dRun_outcomeOf_25 gf_Run_84 (by repeat (first | exact up_self | assumption | rw [up_ne (by first | assumption | (intro q0; cases q0; done) | (intro q0; simp at q0; omega))])) ?_
    refine s_v0 dRun_outcomeOf_28 cv_Run_58 (by repeat (first | exact up_self | assumption | rw [up_ne (by first | assumption | (intro q0; cases q0; done) | (intro q0; simp at q0; omega))])) (css) (by first | rfl | exact Nat.ble_eq_true_of_le (by omega)) (by first | rfl | exact Nat.ble_eq_true_of_le (by omega)) (by first | rfl | exact Nat.ble_eq_true_of_le (by omega)) rfl ?_
    refine s_icmp_ge dRun_outcomeOf_31 (fun _ => ?_) (fun q => absurd (nI_le hi1 (by omega)) q)
    refine s_iconst (v := 0) dRun_outcomeOf_71 (by decide) ?_
    refine s_iret dRun_outcomeOf_72 rfl (by first | exact Nat.le_refl _ | decide | omega) (by first | exact Nat.le_refl _ | decide | omega) ?_
    exact kk _ _ 0 fT.rf low.rf D (by omega) rfl
  | cons r l ih1 =>
    intro i h g vr ap o6 X D hg O el hil kk
    obtain ⟨d1, ⟨fx, d2, d3⟩, d4, d5, d6⟩ := X.2.1.2.1 b hb
    obtain ⟨cap, z, f, e2, -⟩ := id d6
    have hl := (X.2.2.2.2.2.2.2.2.2 b hb).2
    have er : (rw0 b)[i]? = some r := by
      have := congrArg (fun l => l[0]?) el
      simpa using this
    have hi1 : i < (rw0 b).length := (List.getElem?_eq_some_iff.mp er).1
    have hr : r < R := (X.2.2.2.2.2.2.2.2.2 b hb).1 r (List.mem_of_getElem? er)
    have css := c_size d6
    rw [rL_len] at css
    have u1 := D.2.2.1.1
    obtain ⟨⟨br, hw, mk, eb, hb12, ecr, ehw⟩, -⟩ := X.2.2.1.2.1 r hr
    refine s_iload dRun_outcomeOf_22 rfl ?_
    refine s_aload_n dRun_outcomeOf_24 rfl rfl ?_
    refine s_get dRun_outcomeOf_25 gf_Run_84 (by repeat (first | exact up_self | assumption | rw [up_ne (by first | assumption | (intro q0; cases q0; done) | (intro q0; simp at q0; omega))])) ?_
    refine s_v0 dRun_outcomeOf_28 cv_Run_58 (by repeat (first | exact up_self | assumption | rw [up_ne (by first | assumption | (intro q0; cases q0; done) | (intro q0; simp at q0; omega))])) (css) (by first | rfl | exact Nat.ble_eq_true_of_le (by omega)) (by first | rfl | exact Nat.ble_eq_true_of_le (by omega)) (by first | rfl | exact Nat.ble_eq_true_of_le (by omega)) rfl ?_
    refine s_icmp_ge dRun_outcomeOf_31 (fun q => absurd q (nI_ge hi1 (by omega))) (fun _ => ?_)
    refine s_aload_n dRun_outcomeOf_34 rfl rfl ?_
    refine s_aload_n dRun_outcomeOf_35 rfl rfl ?_
    refine s_get dRun_outcomeOf_36 gf_Run_84 (by repeat (first | exact up_self | assumption | rw [up_ne (by first | assumption | (intro q0; cases q0; done) | (intro q0; simp at q0; omega))])) ?_
    refine s_iload dRun_outcomeOf_39 rfl ?_
    refine s_v1 dRun_outcomeOf_41 cv_Run_63 (by repeat (first | exact up_self | assumption | rw [up_ne (by first | assumption | (intro q0; cases q0; done) | (intro q0; simp at q0; omega))])) (c_get d6 (rL_get er)) (by first | rfl | exact Nat.ble_eq_true_of_le (by omega)) (by first | rfl | exact Nat.ble_eq_true_of_le (by omega)) (by first | rfl | exact Nat.ble_eq_true_of_le (by omega)) rfl ?_
    refine s_cast dRun_outcomeOf_44 (by decide) (nw_Run_87).2.1 (by repeat (first | exact up_self | assumption | rw [up_ne (by first | assumption | (intro q0; cases q0; done) | (intro q0; simp at q0; omega))])) ?_
    refine s_aload_n dRun_outcomeOf_47 rfl rfl ?_
    refine s_aload dRun_outcomeOf_48 rfl ?_
    refine s_iload_n dRun_outcomeOf_50 rfl rfl ?_
    refine s_callV (As := [_, _, _, _]) dRun_outcomeOf_51 cv_Run_89 (by repeat (first | exact up_self | assumption | rw [up_ne (by first | assumption | (intro q0; cases q0; done) | (intro q0; simp at q0; omega))])) (c_lookAt G hd hd1 X D hg O hs hr) (by first | rfl | exact Nat.ble_eq_true_of_le (by omega)) (by first | rfl | exact Nat.ble_eq_true_of_le (by omega)) (by first | rfl | exact Nat.ble_eq_true_of_le (by omega)) rfl (fun v0 h2 q0 => ?_)
    obtain ⟨q1, q2, q3⟩ := q0
    rcases q3 with ⟨rfl, g', vr', ap', D', hg', O', gl⟩ | ⟨F, k, rfl, hk, D', gl⟩
    · refine s_istore dRun_outcomeOf_54 rfl ?_
      refine s_iload dRun_outcomeOf_56 rfl ?_
      refine s_iconst (v := (-1)) dRun_outcomeOf_58 (by decide) ?_
      refine s_icmp_eq dRun_outcomeOf_59 (fun _ => ?_) (fun q => absurd rfl q)
      first | refine s_iincN dRun_outcomeOf_65 rfl rfl ?_ | refine s_iinc dRun_outcomeOf_65 rfl rfl ?_
      refine s_goto dRun_outcomeOf_68 ?_
      refine ih1 (i + 1) h2 g' vr' ap' _ (X.mv q1) D' hg' O' ?_ (by omega) (fun h3 F k f1 f2 f3 f4 f5 => ?_)
      · rw [← List.drop_drop, el]
        rfl
      · exact kk h3 F k (q1.tr f1) (q2.tr f2) f3 f4 (by rw [gl l]; exact f5)
    · refine s_istore dRun_outcomeOf_54 rfl ?_
      refine s_iload dRun_outcomeOf_56 rfl ?_
      refine s_iconst (v := (-1)) dRun_outcomeOf_58 (by decide) ?_
      refine s_icmp_eq dRun_outcomeOf_59 (fun q => absurd q (nI_m1 (by omega))) (fun _ => ?_)
      refine s_iload dRun_outcomeOf_62 rfl ?_
      refine s_iret dRun_outcomeOf_64 rfl (by first | exact Nat.le_refl _ | decide | omega) (by first | exact Nat.le_refl _ | decide | omega) ?_
      exact kk h2 F k q1 q2 D' hk (gl l)
theorem c_outcome {σ : Sg} {own od rw0 : Nat → List Nat} {K N NS B R s n : Nat} (hs : s < N) (G : GBc σ own od rw0 K N NS B R s n) : OUTc σ own od rw0 K N NS B R s n := by
  intro h g b d r0 hd hd1 X D hg hb
  obtain ⟨d1, ⟨fx, d2, d3⟩, d4, d5, d6⟩ := X.2.1.2.1 b hb
  obtain ⟨u1, fu, u2, u3⟩ := id D.2.2.1
  obtain ⟨vr0, ap0, O⟩ := D.2.2.2.1 (d - 1) (by omega)
  obtain ⟨w2, f2, p1, p2, p3, p4⟩ := id O
  have e6 : 6 - n = d := by omega
  refine c_enter (by decide +kernel) rfl rfl ?_
  refine s_aload_n dRun_outcomeOf_0 rfl rfl ?_
  refine s_get dRun_outcomeOf_1 gf_Run_11 (by repeat (first | exact up_self | assumption | rw [up_ne (by first | assumption | (intro q0; cases q0; done) | (intro q0; simp at q0; omega))])) ?_
  refine s_iload_n dRun_outcomeOf_4 rfl rfl ?_
  refine s_iconst (v := nI 1) dRun_outcomeOf_5 (by decide) ?_
  first | refine s_isubN dRun_outcomeOf_6 (by omega) ?_ | refine s_isub dRun_outcomeOf_6 ?_
  refine s_aaldN dRun_outcomeOf_7 (by repeat (first | exact up_self | assumption | rw [up_ne (by first | assumption | (intro q0; cases q0; done) | (intro q0; simp at q0; omega))])) rfl rfl (by omega) (by omega) ?_
  refine s_tv (u3 (d - 1) (by omega)) ?_
  refine s_astore dRun_outcomeOf_8 rfl ?_
  refine s_aload dRun_outcomeOf_10 rfl ?_
  refine s_aload_n dRun_outcomeOf_12 rfl rfl ?_
  refine s_get dRun_outcomeOf_13 gf_Run_76 (by repeat (first | exact up_self | assumption | rw [up_ne (by first | assumption | (intro q0; cases q0; done) | (intro q0; simp at q0; omega))])) ?_
  refine s_callV (As := [_]) dRun_outcomeOf_16 cv_Run_80 (by repeat (first | exact up_self | assumption | rw [up_ne (by first | assumption | (intro q0; cases q0; done) | (intro q0; simp at q0; omega))])) (c_startWith (vr := fun x => σ 7 (4 * b + x)) d2 d3 O) (by first | rfl | exact Nat.ble_eq_true_of_le (by omega)) (by first | rfl | exact Nat.ble_eq_true_of_le (by omega)) (by first | rfl | exact Nat.ble_eq_true_of_le (by omega)) rfl (fun v0 h2 q0 => ?_)
  obtain ⟨rfl, s1, s2⟩ := q0
  have F2 : FD h h2 := fun m q1 => s2 m (fun q0 => q1 (by rw [q0]; simp)) (fun q0 => q1 (by rw [q0]; simp))
  have L2 : low (d - 1) h h2 := fun d' q1 => ⟨s2 _ (fun q0 => by simp at q0; omega) (fun q0 => by simp at q0), s2 _ (fun q0 => by simp at q0) (fun q0 => by simp at q0; omega)⟩
  refine s_iconst (v := 0) dRun_outcomeOf_19 (by decide) ?_
  refine s_istore dRun_outcomeOf_20 rfl ?_
  refine l_outcome G hd hd1 hs hb (rw0 b) 0 h2 g _ _ _ (X.mv F2) (D.st s2 s1) hg s1 rfl (by omega) (fun h3 F k f1 f2 f3 f4 f5 => ?_)
  have e7 : runS σ rw0 s (n + 1) r0 b g = (F, nI k) := by
    show goL (runS σ rw0 s n) σ s (6 - n) (rw0 b) g _ _ = _
    rw [e6]
    exact f5
  rw [e7]
  exact ⟨F2.tr f1, L2.tr f2, f3, k, f4, rfl, rfl⟩
theorem c_go0 {σ : Sg} {own od rw0 : Nat → List Nat} {K N NS B R s : Nat} : GBc σ own od rw0 K N NS B R s 0 := by
  intro h g r d hd hd1 X D hg hr hc
  have ed : d = 6 := by omega
  subst ed
  have u1 := D.2.2.1.1
  refine c_enter (by decide +kernel) rfl rfl ?_
  refine s_iload_n dRun_goToBook_0 rfl rfl ?_
  refine s_bipush (v := nI 6) dRun_goToBook_1 (by decide) ?_
  refine s_icmp_lt dRun_goToBook_3 (fun q => absurd q (by decide)) (fun _ => ?_)
  refine s_aload_n dRun_goToBook_6 rfl rfl ?_
  refine s_iconst (v := nI 2) dRun_goToBook_7 (by decide) ?_
  refine s_aload_n dRun_goToBook_8 rfl rfl ?_
  refine s_callV (As := [_, _]) dRun_goToBook_9 cv_Run_96 (by repeat (first | exact up_self | assumption | rw [up_ne (by first | assumption | (intro q0; cases q0; done) | (intro q0; simp at q0; omega))])) (c_Run_err (e := nI 2) D.2.2.1 X.2.2.1 hr) (by first | rfl | exact Nat.ble_eq_true_of_le (by omega)) (by first | rfl | exact Nat.ble_eq_true_of_le (by omega)) (by first | rfl | exact Nat.ble_eq_true_of_le (by omega)) rfl (fun v0 h2 q0 => ?_)
  obtain ⟨rfl, t1, t2⟩ := q0
  refine s_iret dRun_goToBook_12 rfl (by first | exact Nat.le_refl _ | decide | omega) (by first | exact Nat.le_refl _ | decide | omega) ?_
  refine ⟨fun m q1 => t2 m (fun q0 => q1 (by rw [q0]; decide)), fun d' q1 => ⟨t2 _ (fun q0 => by simp at q0), t2 _ (fun q0 => by simp at q0)⟩, D.err t2 t1, 0, by omega, rfl, ?_⟩
  rw [if_pos (show ge (runS σ rw0 s 0 r (dX σ r) g).1 ≠ 0 from show nI 2 ≠ 0 by decide)]
theorem c_goS {σ : Sg} {own od rw0 : Nat → List Nat} {K N NS B R s n : Nat} (U0 : OUTc σ own od rw0 K N NS B R s n) : GBc σ own od rw0 K N NS B R s (n + 1) := by
  intro h g r d hd hd1 X D hg hr hc
  obtain ⟨⟨br, hw, mk, eb, hb12, er, ehw⟩, -⟩ := X.2.2.1.2.1 r hr
  unfold ruL at er
  have hB := X.2.2.2.2.2.2.2.2.1
  obtain ⟨c, hc8, ec, h1, h28, h48, h56⟩ := X.2.2.2.2.2.2.2.1 r hr
  have edc : dC σ r = c := by show nt (σ 14 (3 * r)) = c; rw [ec, nt_nI (by omega)]
  rw [edc] at hc
  obtain ⟨x, hx, ex⟩ := h56 hc
  have edx : dX σ r = x := by show nt (σ 14 (3 * r + 1)) = x; rw [ex, nt_nI (by omega)]
  rw [edc, edx]
  obtain ⟨d1, -⟩ := X.2.1.2.1 x hx
  have u1 := D.2.2.1.1
  obtain ⟨cap, z, f, e2, -⟩ := id X.2.1.1
  have co := U0 h g x (d + 1) r (by omega) (by omega) X D hg hx
  refine c_enter (by decide +kernel) rfl rfl ?_
  refine s_iload_n dRun_goToBook_0 rfl rfl ?_
  refine s_bipush (v := nI 6) dRun_goToBook_1 (by decide) ?_
  refine s_icmp_lt dRun_goToBook_3 (fun _ => ?_) (fun q => absurd (nI_lt (show d < 6 by omega) (by omega)) q)
  refine s_aload_n dRun_goToBook_13 rfl rfl ?_
  refine s_aload_n dRun_goToBook_14 rfl rfl ?_
  refine s_get dRun_goToBook_15 gf_Run_28 (by repeat (first | exact up_self | assumption | rw [up_ne (by first | assumption | (intro q0; cases q0; done) | (intro q0; simp at q0; omega))])) ?_
  refine s_aload_n dRun_goToBook_18 rfl rfl ?_
  refine s_get dRun_goToBook_19 gf_Run_166 (by repeat (first | exact up_self | assumption | rw [up_ne (by first | assumption | (intro q0; cases q0; done) | (intro q0; simp at q0; omega))])) ?_
  refine s_tv (congrArg vI ex) ?_
  refine s_v1 dRun_goToBook_22 cv_Run_63 (by repeat (first | exact up_self | assumption | rw [up_ne (by first | assumption | (intro q0; cases q0; done) | (intro q0; simp at q0; omega))])) (c_get X.2.1.1 (nmL_get hx)) (by first | rfl | exact Nat.ble_eq_true_of_le (by omega)) (by first | rfl | exact Nat.ble_eq_true_of_le (by omega)) (by first | rfl | exact Nat.ble_eq_true_of_le (by omega)) rfl ?_
  refine s_cast dRun_goToBook_25 (by decide) (nw_Run_53).2.1 (by repeat (first | exact up_self | assumption | rw [up_ne (by first | assumption | (intro q0; cases q0; done) | (intro q0; simp at q0; omega))])) ?_
  refine s_aload_n dRun_goToBook_28 rfl rfl ?_
  refine s_iload_n dRun_goToBook_29 rfl rfl ?_
  refine s_iconst (v := nI 1) dRun_goToBook_30 (by decide) ?_
  first | refine s_iaddN dRun_goToBook_31 ?_ | refine s_iadd dRun_goToBook_31 ?_
  refine s_callV (As := [_, _, _]) dRun_goToBook_32 cv_Run_40 (by repeat (first | exact up_self | assumption | rw [up_ne (by first | assumption | (intro q0; cases q0; done) | (intro q0; simp at q0; omega))])) (co) (by first | rfl | exact Nat.ble_eq_true_of_le (by omega)) (by first | rfl | exact Nat.ble_eq_true_of_le (by omega)) (by first | rfl | exact Nat.ble_eq_true_of_le (by omega)) rfl (fun v0 h2 q0 => ?_)
  obtain ⟨q1, q2, q3, k, q4, q5, rfl⟩ := q0
  have er2 : h2 (28, r, 0) = _ := (q1 _ (show (28 : Nat) ∉ _ by decide)).trans er
  have ce := c_hasErred q3.2.2.1
  have u2 := q3.2.2.1.1
  generalize runS σ rw0 s (n + 1) r x g = F at q3 q5 ce u2 ⊢
  by_cases z1 : ge F.1 = 0
  · rw [zi_dec.2 (fun q0 => q0 z1)] at ce
    rcases hc with rfl | rfl
    · refine s_istore dRun_goToBook_35 rfl ?_
      refine s_aload_n dRun_goToBook_37 rfl rfl ?_
      refine s_v0 dRun_goToBook_38 cv_Run_44 (by repeat (first | exact up_self | assumption | rw [up_ne (by first | assumption | (intro q0; cases q0; done) | (intro q0; simp at q0; omega))])) (ce) (by first | rfl | exact Nat.ble_eq_true_of_le (by omega)) (by first | rfl | exact Nat.ble_eq_true_of_le (by omega)) (by first | rfl | exact Nat.ble_eq_true_of_le (by omega)) rfl ?_
      refine s_if_eq dRun_goToBook_41 (fun _ => ?_) (fun q => absurd rfl q)
      refine s_aload_n dRun_goToBook_46 rfl rfl ?_
      refine s_get dRun_goToBook_47 gf_Run_172 (by repeat (first | exact up_self | assumption | rw [up_ne (by first | assumption | (intro q0; cases q0; done) | (intro q0; simp at q0; omega))])) ?_
      refine s_tv (congrArg vI ec) ?_
      refine s_bipush (v := nI 6) dRun_goToBook_50 (by decide) ?_
      refine s_icmp_ne dRun_goToBook_52 (fun _ => ?_) (fun q => absurd q (by decide))
      refine s_iconst (v := (-1)) dRun_goToBook_65 (by decide) ?_
      refine s_iret dRun_goToBook_66 rfl (by first | exact Nat.le_refl _ | decide | omega) (by first | exact Nat.le_refl _ | decide | omega) ?_
      refine ⟨q1, q2, q3, k, q4, q5, ?_⟩
      rw [if_neg (fun q0 => q0 z1), if_neg (fun q0 => by omega)]
    · by_cases z2 : k = 0
      · refine s_istore dRun_goToBook_35 rfl ?_
        refine s_aload_n dRun_goToBook_37 rfl rfl ?_
        refine s_v0 dRun_goToBook_38 cv_Run_44 (by repeat (first | exact up_self | assumption | rw [up_ne (by first | assumption | (intro q0; cases q0; done) | (intro q0; simp at q0; omega))])) (ce) (by first | rfl | exact Nat.ble_eq_true_of_le (by omega)) (by first | rfl | exact Nat.ble_eq_true_of_le (by omega)) (by first | rfl | exact Nat.ble_eq_true_of_le (by omega)) rfl ?_
        refine s_if_eq dRun_goToBook_41 (fun _ => ?_) (fun q => absurd rfl q)
        refine s_aload_n dRun_goToBook_46 rfl rfl ?_
        refine s_get dRun_goToBook_47 gf_Run_172 (by repeat (first | exact up_self | assumption | rw [up_ne (by first | assumption | (intro q0; cases q0; done) | (intro q0; simp at q0; omega))])) ?_
        refine s_tv (congrArg vI ec) ?_
        refine s_bipush (v := nI 6) dRun_goToBook_50 (by decide) ?_
        refine s_icmp_ne dRun_goToBook_52 (fun q => absurd rfl q) (fun _ => ?_)
        refine s_iload dRun_goToBook_55 rfl ?_
        refine s_if_le dRun_goToBook_57 (fun _ => ?_) (fun q => absurd (by rw [z2]; decide) q)
        refine s_iconst (v := (-1)) dRun_goToBook_65 (by decide) ?_
        refine s_iret dRun_goToBook_66 rfl (by first | exact Nat.le_refl _ | decide | omega) (by first | exact Nat.le_refl _ | decide | omega) ?_
        refine ⟨q1, q2, q3, k, q4, q5, ?_⟩
        rw [if_neg (fun q0 => q0 z1), if_neg (fun q0 => q0.2 z2)]
      · refine s_istore dRun_goToBook_35 rfl ?_
        refine s_aload_n dRun_goToBook_37 rfl rfl ?_
        refine s_v0 dRun_goToBook_38 cv_Run_44 (by repeat (first | exact up_self | assumption | rw [up_ne (by first | assumption | (intro q0; cases q0; done) | (intro q0; simp at q0; omega))])) (ce) (by first | rfl | exact Nat.ble_eq_true_of_le (by omega)) (by first | rfl | exact Nat.ble_eq_true_of_le (by omega)) (by first | rfl | exact Nat.ble_eq_true_of_le (by omega)) rfl ?_
        refine s_if_eq dRun_goToBook_41 (fun _ => ?_) (fun q => absurd rfl q)
        refine s_aload_n dRun_goToBook_46 rfl rfl ?_
        refine s_get dRun_goToBook_47 gf_Run_172 (by repeat (first | exact up_self | assumption | rw [up_ne (by first | assumption | (intro q0; cases q0; done) | (intro q0; simp at q0; omega))])) ?_
        refine s_tv (congrArg vI ec) ?_
        refine s_bipush (v := nI 6) dRun_goToBook_50 (by decide) ?_
        refine s_icmp_ne dRun_goToBook_52 (fun q => absurd rfl q) (fun _ => ?_)
        refine s_iload dRun_goToBook_55 rfl ?_
        refine s_if_le dRun_goToBook_57 (fun q => absurd q (Int32.not_le.mpr (nI_lt (a := 0) (by omega) (by omega)))) (fun _ => ?_)
        refine s_iload dRun_goToBook_60 rfl ?_
        refine s_goto dRun_goToBook_62 ?_
        refine s_iret dRun_goToBook_66 rfl (by first | exact Nat.le_refl _ | decide | omega) (by first | exact Nat.le_refl _ | decide | omega) ?_
        refine ⟨q1, q2, q3, k, q4, q5, ?_⟩
        rw [if_neg (fun q0 => q0 z1), if_pos ⟨rfl, z2⟩]
  · rw [zi_dec.1 z1] at ce
    refine s_istore dRun_goToBook_35 rfl ?_
    refine s_aload_n dRun_goToBook_37 rfl rfl ?_
    refine s_v0 dRun_goToBook_38 cv_Run_44 (by repeat (first | exact up_self | assumption | rw [up_ne (by first | assumption | (intro q0; cases q0; done) | (intro q0; simp at q0; omega))])) (ce) (by first | rfl | exact Nat.ble_eq_true_of_le (by omega)) (by first | rfl | exact Nat.ble_eq_true_of_le (by omega)) (by first | rfl | exact Nat.ble_eq_true_of_le (by omega)) rfl ?_
    refine s_if_eq dRun_goToBook_41 (fun q => absurd q (by decide)) (fun _ => ?_)
    refine s_iconst (v := 0) dRun_goToBook_44 (by decide) ?_
    refine s_iret dRun_goToBook_45 rfl (by first | exact Nat.le_refl _ | decide | omega) (by first | exact Nat.le_refl _ | decide | omega) ?_
    refine ⟨q1, q2, q3, k, q4, q5, ?_⟩
    rw [if_pos z1]
theorem c_out {σ : Sg} {own od rw0 : Nat → List Nat} {K N NS B R s : Nat} (hs : s < N) : ∀ n, OUTc σ own od rw0 K N NS B R s n
  | 0 => c_outcome hs c_go0
  | n + 1 => c_outcome hs (c_goS (c_out hs n))
