/-! runs -/
def FR (σ : Sg) (d : Nat) (l : List Nat) (p : Nat) (vr : Nat → Int32) (ap : Nat → Bool) : Prop := (∀ i x, l[i]? = some x → σ 22 (60 * d + (p + i)) = nI x) ∧ σ 23 d = nI (p + l.length) ∧ σ 24 d = nI p ∧ p + l.length ≤ 60 ∧ fV σ d vr ap
def IV (σ0 σ1 σ : Sg) (d : Nat) (g : Gs) (l : List Nat) (p : Nat) (vr : Nat → Int32) (ap : Nat → Bool) : Prop :=
  sr σ0 σ ∧ gR σ g ∧ ge g = 0 ∧ gn g ≤ 300 ∧ σ 21 0 = nI (d + 1) ∧ FR σ d l p vr ap ∧ lw d σ1 σ ∧ σ 27 d = σ1 27 d ∧ σ 32 0 = σ1 32 0
section IVs
variable {σ0 σ1 σ : Sg} {d : Nat} {g : Gs} {l : List Nat} {p : Nat} {vr : Nat → Int32} {ap : Nat → Bool}
theorem IV.trc {r : Nat} (I : IV σ0 σ1 σ d g (r :: l) p vr ap) (hn : ¬ gn g = 300) (b : Bool) :
    IV σ0 σ1 (us (us (us (us (us σ 24 d (nI (p + 1))) 28 (3 * gn g) (nI r)) 28 (3 * gn g + 1) (zi b)) 28 (3 * gn g + 2) (nI (d + 1))) 29 0 (nI (gn g + 1))) d (gtr g r b (d + 1)) l (p + 1) vr ap := by
  obtain ⟨i1, ⟨v1, v2, v3, v4, v5⟩, i3, i4, i5, ⟨f1, f2, f3, f4, f5⟩, i7, i8, i9⟩ := I
  have hlen : p + (r :: l).length = p + 1 + l.length := by simp; omega
  refine ⟨((((i1.us rfl).us rfl).us rfl).us rfl).us rfl, ⟨fun i => ?_, fun i => ?_, us_s, ?_, ?_⟩, i3, ?_, ?_, ⟨fun i x q1 => ?_, ?_, ?_, by omega, fun x q1 => ?_, fun x q1 => ?_⟩, ?_, ?_, ?_⟩
  · rw [us_k (by decide), us_k (by decide), us_k (by decide), us_k (by decide), us_k (by decide)]; exact v1 i
  · rw [us_k (by decide)]
    show us (us (us (us σ 24 d (nI (p + 1))) 28 (3 * gn g) (nI r)) 28 (3 * gn g + 1) (zi b)) 28 (3 * gn g + 2) (nI (d + 1)) 28 i = uf (uf (uf (gt g) (3 * gn g) (nI r)) (3 * gn g + 1) (zi b)) (3 * gn g + 2) (nI (d + 1)) i
    by_cases c1 : i = 3 * gn g + 2
    · subst c1; rw [us_s]; unfold uf; rw [if_pos rfl]
    · rw [us_j c1, uf, if_neg c1]
      by_cases c2 : i = 3 * gn g + 1
      · subst c2; rw [us_s]; unfold uf; rw [if_pos rfl]
      · rw [us_j c2, uf, if_neg c2]
        by_cases c3 : i = 3 * gn g
        · subst c3; rw [us_s]; unfold uf; rw [if_pos rfl]
        · rw [us_j c3, uf, if_neg c3, us_k (by decide)]; exact v2 i
  · rw [us_k (by decide), us_k (by decide), us_k (by decide), us_k (by decide), us_k (by decide)]; exact v4
  · rw [us_k (by decide), us_k (by decide), us_k (by decide), us_k (by decide), us_k (by decide)]; exact v5
  · show gn g + 1 ≤ 300
    omega
  · rw [us_k (by decide), us_k (by decide), us_k (by decide), us_k (by decide), us_k (by decide)]; exact i5
  · rw [us_k (by decide), us_k (by decide), us_k (by decide), us_k (by decide), us_k (by decide), show p + 1 + i = p + (i + 1) by omega]; exact f1 (i + 1) x (by simpa using q1)
  · rw [us_k (by decide), us_k (by decide), us_k (by decide), us_k (by decide), us_k (by decide), ← hlen]; exact f2
  · rw [us_k (by decide), us_k (by decide), us_k (by decide), us_k (by decide), us_s]
  · rw [us_k (by decide), us_k (by decide), us_k (by decide), us_k (by decide), us_k (by decide)]; exact f5.1 x q1
  · rw [us_k (by decide), us_k (by decide), us_k (by decide), us_k (by decide), us_k (by decide)]; exact f5.2 x q1
  · exact ((((i7.us (by omega) (by omega) (by omega)).us (by omega) (by omega) (by omega)).us (by omega) (by omega) (by omega)).us (by omega) (by omega) (by omega)).us (by omega) (by omega) (by omega)
  · rw [us_k (by decide), us_k (by decide), us_k (by decide), us_k (by decide), us_k (by decide)]; exact i8
  · rw [us_k (by decide), us_k (by decide), us_k (by decide), us_k (by decide), us_k (by decide)]; exact i9
theorem IV.app {r : Nat} (I : IV σ0 σ1 σ d g l p vr ap) : IV σ0 σ1 (us σ 26 (60 * d + r) 1) d g l p vr (ub ap r) := by
  obtain ⟨i1, ⟨v1, v2, v3, v4, v5⟩, i3, i4, i5, ⟨f1, f2, f3, f4, f5⟩, i7, i8, i9⟩ := I
  refine ⟨i1.us rfl, ⟨fun i => ?_, fun i => ?_, ?_, ?_, ?_⟩, i3, i4, ?_, ⟨fun i x q1 => ?_, ?_, ?_, by omega, fun x q1 => ?_, fun x q1 => ?_⟩, i7.us (by omega) (by omega) (by omega), ?_, ?_⟩
  · rw [us_k (by decide)]; exact v1 i
  · rw [us_k (by decide)]; exact v2 i
  · rw [us_k (by decide)]; exact v3
  · rw [us_k (by decide)]; exact v4
  · rw [us_k (by decide)]; exact v5
  · rw [us_k (by decide)]; exact i5
  · rw [us_k (by decide)]; exact f1 i x q1
  · rw [us_k (by decide)]; exact f2
  · rw [us_k (by decide)]; exact f3
  · rw [us_k (by decide)]; exact f5.1 x q1
  · unfold ub
    by_cases c1 : x = r
    · subst c1; rw [us_s, if_pos rfl]; rfl
    · rw [us_j (by omega), if_neg c1]; exact f5.2 x q1
  · rw [us_k (by decide)]; exact i8
  · rw [us_k (by decide)]; exact i9
theorem IV.var {x : Nat} {y : Int32} (I : IV σ0 σ1 σ d g l p vr ap) : IV σ0 σ1 (us σ 25 (4 * d + x) y) d g l p (uf vr x y) ap := by
  obtain ⟨i1, ⟨v1, v2, v3, v4, v5⟩, i3, i4, i5, ⟨f1, f2, f3, f4, f5⟩, i7, i8, i9⟩ := I
  refine ⟨i1.us rfl, ⟨fun i => ?_, fun i => ?_, ?_, ?_, ?_⟩, i3, i4, ?_, ⟨fun i x q1 => ?_, ?_, ?_, by omega, fun z q1 => ?_, fun x q1 => ?_⟩, i7.us (by omega) (by omega) (by omega), ?_, ?_⟩
  · rw [us_k (by decide)]; exact v1 i
  · rw [us_k (by decide)]; exact v2 i
  · rw [us_k (by decide)]; exact v3
  · rw [us_k (by decide)]; exact v4
  · rw [us_k (by decide)]; exact v5
  · rw [us_k (by decide)]; exact i5
  · rw [us_k (by decide)]; exact f1 i x q1
  · rw [us_k (by decide)]; exact f2
  · rw [us_k (by decide)]; exact f3
  · unfold uf
    by_cases c1 : z = x
    · subst c1; rw [us_s, if_pos rfl]
    · rw [us_j (by omega), if_neg c1]; exact f5.1 z q1
  · rw [us_k (by decide)]; exact f5.2 x q1
  · rw [us_k (by decide)]; exact i8
  · rw [us_k (by decide)]; exact i9
theorem IV.val {x : Nat} {y : Int32} (I : IV σ0 σ1 σ d g l p vr ap) : IV σ0 σ1 (us σ 4 x y) d (gsv g x y) l p vr ap := by
  obtain ⟨i1, ⟨v1, v2, v3, v4, v5⟩, i3, i4, i5, ⟨f1, f2, f3, f4, f5⟩, i7, i8, i9⟩ := I
  refine ⟨i1.us rfl, ⟨fun i => ?_, fun i => ?_, ?_, ?_, ?_⟩, i3, i4, ?_, ⟨fun i x q1 => ?_, ?_, ?_, by omega, fun z q1 => ?_, fun x q1 => ?_⟩, i7.us (by omega) (by omega) (by omega), ?_, ?_⟩
  · show _ = uf (gv g) x y i
    unfold uf
    by_cases c1 : i = x
    · subst c1; rw [us_s, if_pos rfl]
    · rw [us_j c1, if_neg c1]; exact v1 i
  · rw [us_k (by decide)]; exact v2 i
  · rw [us_k (by decide)]; exact v3
  · rw [us_k (by decide)]; exact v4
  · rw [us_k (by decide)]; exact v5
  · rw [us_k (by decide)]; exact i5
  · rw [us_k (by decide)]; exact f1 i x q1
  · rw [us_k (by decide)]; exact f2
  · rw [us_k (by decide)]; exact f3
  · rw [us_k (by decide)]; exact f5.1 z q1
  · rw [us_k (by decide)]; exact f5.2 x q1
  · rw [us_k (by decide)]; exact i8
  · rw [us_k (by decide)]; exact i9
theorem IV.stop (I : IV σ0 σ1 σ d g l p vr ap) : IV σ0 σ1 (us σ 24 d (σ 23 d)) d g [] (p + l.length) vr ap := by
  obtain ⟨i1, ⟨v1, v2, v3, v4, v5⟩, i3, i4, i5, ⟨f1, f2, f3, f4, f5⟩, i7, i8, i9⟩ := I
  refine ⟨i1.us rfl, ⟨fun i => ?_, fun i => ?_, ?_, ?_, ?_⟩, i3, i4, ?_, ⟨fun i x q1 => ?_, ?_, ?_, by simpa using f4, fun z q1 => ?_, fun x q1 => ?_⟩, i7.us (by omega) (by omega) (by omega), ?_, ?_⟩
  · rw [us_k (by decide)]; exact v1 i
  · rw [us_k (by decide)]; exact v2 i
  · rw [us_k (by decide)]; exact v3
  · rw [us_k (by decide)]; exact v4
  · rw [us_k (by decide)]; exact v5
  · rw [us_k (by decide)]; exact i5
  · simp at q1
  · rw [us_k (by decide)]; exact f2
  · rw [us_s]; exact f2
  · rw [us_k (by decide)]; exact f5.1 z q1
  · rw [us_k (by decide)]; exact f5.2 x q1
  · rw [us_k (by decide)]; exact i8
  · rw [us_k (by decide)]; exact i9
/-- behind a book within -/
theorem IV.back {σ' : Sg} {g' : Gs} (I : IV σ0 σ1 σ d g l p vr ap) (b1 : sr σ0 σ') (b2 : gR σ' g') (b3 : ge g' = 0) (b4 : gn g' ≤ 300) (b5 : lw (d + 1) σ σ') (b6 : σ' 32 0 = σ 32 0) : IV σ0 σ1 (us σ' 21 0 (nI (d + 1))) d g' l p vr ap := by
  obtain ⟨i1, -, i3, i4, i5, ⟨f1, f2, f3, f4, f5⟩, i7, i8, i9⟩ := I
  obtain ⟨v1, v2, v3, v4, v5⟩ := b2
  refine ⟨b1.us rfl, ⟨fun i => ?_, fun i => ?_, ?_, ?_, ?_⟩, b3, b4, us_s, ⟨fun i x q1 => ?_, ?_, ?_, f4, fun z q1 => ?_, fun x q1 => ?_⟩, (i7.tr (b5.le (by omega))).us (by omega) (by omega) (by omega), ?_, ?_⟩
  · rw [us_k (by decide)]; exact v1 i
  · rw [us_k (by decide)]; exact v2 i
  · rw [us_k (by decide)]; exact v3
  · rw [us_k (by decide)]; exact v4
  · rw [us_k (by decide)]; exact v5
  · have hi1 : i < l.length := (List.getElem?_eq_some_iff.mp q1).1
    rw [us_k (by decide), (b5.1 _ (by omega)).1]; exact f1 i x q1
  · rw [us_k (by decide), (b5.2.2 d (by omega)).1]; exact f2
  · rw [us_k (by decide), (b5.2.2 d (by omega)).2.1]; exact f3
  · rw [us_k (by decide), b5.2.1 _ (by omega)]; exact f5.1 z q1
  · rw [us_k (by decide), (b5.1 _ (by omega)).2]; exact f5.2 x q1
  · rw [us_k (by decide), (b5.2.2 d (by omega)).2.2]; exact i8
  · rw [us_k (by decide), b6]; exact i9
/-- a book is begun -/
theorem PU.iv {σ' : Sg} {b d' : Nat} {a : Int32} {l' : List Nat} (i1 : sr σ0 σ) (i2 : gR σ g) (i3 : ge g = 0) (i4 : gn g ≤ 300) (U : PU σ σ' d' b a l') (hl : l'.length ≤ 60) : IV σ0 σ' σ' d' g l' 0 (fun x => σ0 7 (4 * b + x)) (fun _ => false) := by
  obtain ⟨u1, u2, u3, u4, u5, u6, u7, u8, u9⟩ := U
  obtain ⟨v1, v2, v3, v4, v5⟩ := i2
  refine ⟨fun k j q1 => ?_, ⟨fun i => ?_, fun i => ?_, ?_, ?_, ?_⟩, i3, i4, u3, ⟨fun i x q1 => ?_, ?_, u6, by omega, fun z q1 => ?_, fun x q1 => ?_⟩, lw.rf, rfl, rfl⟩
  · rw [u1 k j (fun z1 => by simp only [rk, Bool.or_eq_false_iff, decide_eq_false_iff_not, Bool.and_eq_false_iff] at q1; omega)]; exact i1 k j q1
  · rw [u1 _ _ (by decide)]; exact v1 i
  · rw [u1 _ _ (by decide)]; exact v2 i
  · rw [u1 _ _ (by decide)]; exact v3
  · rw [u1 _ _ (by decide)]; exact v4
  · rw [u1 _ _ (by decide)]; exact v5
  · rw [show 0 + i = i by omega]; exact u4 i x q1
  · rw [show 0 + l'.length = l'.length by omega]; exact u5
  · rw [u8 z q1]; exact i1 7 _ rfl
  · rw [u9 x q1]; rfl
end IVs
/-- what runs stand on -/
def RN (σ0 : Sg) (rw0 : Nat → List Nat) (R K N NS B : Nat) : Prop := RW σ0 R K ∧ SK σ0 N K ∧ CP σ0 R K NS ∧ DP σ0 R B ∧ B ≤ 12 ∧ (∀ b, b < B → ∃ O, ordL σ0 b R 0 O ∧ rw0 b = rowS σ0 b R O)
theorem rowS_mem {σ : Sg} {b R : Nat} {O : List Nat} (ho : ∀ r ∈ O, r < R) : ∀ x ∈ rowS σ b R O, x < R := by
  unfold rowS
  have g1 : ∀ (O l : List Nat), (∀ r ∈ O, r < R) → (∀ x ∈ l, x < R) → ∀ x ∈ O.foldl (fun l r => mvS σ r l) l, x < R := by
    intro O
    induction O with
    | nil => intro l _ hl1; exact hl1
    | cons r O ih1 =>
      intro l ho1 hl1
      refine ih1 _ (fun y hy1 => ho1 y (List.mem_cons_of_mem _ hy1)) (fun x hx1 => ?_)
      rcases mv_mem hx1 with c1 | c1
      · rw [c1]; exact ho1 r List.mem_cons_self
      · exact hl1 x c1
  exact g1 O _ ho (fun x hx1 => srt_mem hx1)
theorem ordL_mem {σ : Sg} {b R : Nat} : ∀ {O : List Nat} {t : Nat}, ordL σ b R t O → ∀ r ∈ O, r < R := by
  intro O
  induction O with
  | nil => intro t _ r hr1; cases hr1
  | cons a O ih1 =>
    intro t h1 r hr1
    rcases List.mem_cons.mp hr1 with c1 | c1
    · rw [c1]; exact h1.1.1
    · exact ih1 h1.2 r c1
theorem RN.mem {σ0 : Sg} {rw0 : Nat → List Nat} {R K N NS B b : Nat} (X : RN σ0 rw0 R K N NS B) (hb : b < B) : (∀ x ∈ rw0 b, x < R) ∧ (rw0 b).length ≤ R := by
  obtain ⟨O, h1, h2⟩ := X.2.2.2.2.2 b hb
  rw [h2]
  exact ⟨rowS_mem (ordL_mem h1), rowS_len⟩
