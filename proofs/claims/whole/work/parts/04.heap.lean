theorem cOK.eq {g : Gl} {ρ ρ' : Nm → Nat} {H H' : Heap} {a : Nat} {c : PC} (hc : cOK g ρ H a c) (hH : H'[a]? = H[a]?) (hv : ∀ j, tr ρ' (c.2.2 j) = tr ρ (c.2.2 j)) : cOK g ρ' H' a c := by
  have e : (fun j => tr ρ' (c.2.2 j)) = (fun j => tr ρ (c.2.2 j)) := funext hv
  unfold cOK at hc ⊢
  rw [e]
  split at hc
  · rename_i h1
    rw [if_pos h1]
    exact hc.kept hH
  · rename_i h1
    rw [if_neg h1]
    split at hc
    · rename_i h2
      rw [if_pos h2, hH]
      exact hc
    · rename_i h2
      rw [if_neg h2]
      obtain ⟨cell, q1, q2, q3, q4, q5, q6⟩ := hc
      exact ⟨cell, by rw [hH]; exact q1, q2, q3, q4, q5, fun j hj => by rw [hv]; exact q6 j hj⟩
theorem cOK.lt {g : Gl} {ρ : Nm → Nat} {H : Heap} {a : Nat} {c : PC} (hc : cOK g ρ H a c) : a < H.size := by
  unfold cOK at hc
  split at hc
  · obtain ⟨cell, q, -⟩ := hc
    exact (Array.getElem?_eq_some_iff.mp q).1
  · split at hc
    · exact (Array.getElem?_eq_some_iff.mp hc).1
    · obtain ⟨cell, q, -⟩ := hc
      exact (Array.getElem?_eq_some_iff.mp q).1
/-- one cell is written -/
theorem Wd.put {g : Gl} {ρ : Nm → Nat} {h : Hp} {U : State} {H H' : Heap} {n : Nm} {c' : PC} (w : Wd g ρ h U H) (hn : h n ≠ none) (h2 : 2 ≤ n.1) (hc : cOK g ρ H' (ρ n) c') (hv : ∀ j, wfv h (c'.2.2 j)) (hz : H'.size = H.size) (ho : ∀ q, q ≠ ρ n → H'[q]? = H[q]?) : Wd g ρ (up h n c') U H' := by
  obtain ⟨w1, w2, w3, w4, w5, w6⟩ := w
  have dm : ∀ m, up h n c' m ≠ none → h m ≠ none := fun m hm => by
    by_cases e : m = n
    · rw [e]; exact hn
    · rw [up_ne e] at hm; exact hm
  have n1 : ((1, 0, 0) : Nm) ≠ n := fun e => by rw [← e] at h2; exact absurd h2 (by decide)
  refine ⟨fun m c hm => ?_, fun m m' hm hm' e => w2 m m' (dm m hm) (dm m' hm') e, fun m hm hm2 => w3 m (dm m hm) hm2, by rw [hz]; exact w4, by rw [up_ne n1]; exact w5, w6.kept fun a _ ha => ho a fun e => ha (by rw [e]; exact w3 n hn h2)⟩
  by_cases e : m = n
  · subst e
    rw [up_self] at hm
    cases hm
    exact ⟨hc, fun j => (hv j).up⟩
  · rw [up_ne e] at hm
    obtain ⟨q1, q2⟩ := w1 m c hm
    exact ⟨q1.eq (ho _ fun z => e (w2 m n (by rw [hm]; exact fun q => by cases q) hn z)) (fun _ => rfl), fun j => (q2 j).up⟩
/-- a cell is made -/
theorem Wd.mk {g : Gl} {ρ : Nm → Nat} {h : Hp} {U : State} {H H' : Heap} {n : Nm} {c' : PC} (w : Wd g ρ h U H) (hn : h n = none) (hc : cOK g (upr ρ n H.size) H' H.size c') (hv : ∀ j, wfv h (c'.2.2 j)) (hz : H.size ≤ H'.size) (ho : ∀ q, q < H.size → H'[q]? = H[q]?) : Wd g (upr ρ n H.size) (up h n c') U H' := by
  obtain ⟨w1, w2, w3, w4, w5, w6⟩ := w
  have ne : ∀ m, h m ≠ none → m ≠ n := fun m hm e => hm (by rw [e]; exact hn)
  have re : ∀ m, h m ≠ none → upr ρ n H.size m = ρ m := fun m hm => if_neg (ne m hm)
  have rn : upr ρ n H.size n = H.size := if_pos rfl
  have lt : ∀ m, h m ≠ none → ρ m < H.size := fun m hm => by
    obtain ⟨c, hc⟩ := Option.ne_none_iff_exists'.mp hm
    exact (w1 m c hc).1.lt
  have dm : ∀ m, up h n c' m ≠ none → m = n ∨ h m ≠ none := fun m hm => by
    by_cases e : m = n
    · exact Or.inl e
    · rw [up_ne e] at hm; exact Or.inr hm
  have i1 : h (1, 0, 0) ≠ none := by rw [w5]; exact fun q => by cases q
  refine ⟨fun m c hm => ?_, fun m m' hm hm' e => ?_, fun m hm hm2 => ?_, Nat.le_trans w4 hz, by rw [up_ne (ne _ i1)]; exact w5, ?_⟩
  · by_cases e : m = n
    · subst e
      rw [up_self] at hm
      cases hm
      rw [rn]
      exact ⟨hc, fun j => (hv j).up⟩
    · rw [up_ne e] at hm
      have hm' : h m ≠ none := by rw [hm]; exact fun q => by cases q
      obtain ⟨q1, q2⟩ := w1 m c hm
      rw [re m hm']
      exact ⟨q1.eq (ho _ (lt m hm')) (fun j => trx (q2 j) re), fun j => (q2 j).up⟩
  · rcases dm m hm with a | a <;> rcases dm m' hm' with b | b
    · rw [a, b]
    · rw [a, rn, re m' b] at e
      exact absurd e (Nat.ne_of_gt (lt m' b))
    · rw [b, rn, re m a] at e
      exact absurd e (Nat.ne_of_lt (lt m a))
    · rw [re m a, re m' b] at e
      exact w2 m m' a b e
  · rcases dm m hm with a | a
    · rw [a, rn]; exact w4
    · rw [re m a]; exact w3 m a hm2
  · unfold eZ
    rw [re _ i1]
    exact w6.kept fun a ha _ => ho a ha
/-- a field by its table: link, class, place -/
def GF (own : String) (idx ci kf : Nat) : Prop := ci < 14 ∧ kf < cN ci ∧
  ((∃ ref, Cond.fieldLink own idx ref (cT ci kf).2.1 (cT ci kf).2.2.1 ∈ TB ∧ (ref = (cT ci kf).1 ∨ Cond.sameField ref (cT ci kf).1 (cT ci kf).2.1 (cT ci kf).2.2.1 ∈ TB)) ∨
   ∃ host, Cond.fieldLinkNest own idx (cT ci kf).1 (cT ci kf).2.1 (cT ci kf).2.2.1 host ∈ NT)
theorem cls_in : ∀ k, k < 14 → ∀ w ∈ u_ws (cS k) (cT k) (cN k), w ∈ TB := by decide +kernel
theorem cls_ty : ∀ k, k < 14 → ∀ j, j < cN k → parseFieldDescriptor (cT k j).2.2.1 = some (cY k j) := by decide +kernel
theorem cls_nm : ∀ k, k < 14 → ∀ a, a < cN k → ∀ b, b < cN k → a ≠ b → (cT k a).2.1 ≠ (cT k b).2.1 := by decide +kernel
