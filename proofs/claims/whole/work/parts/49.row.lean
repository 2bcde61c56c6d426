/-! rows of the class -/
theorem rL_in {l : List Nat} {i r : Nat} : (rL l).insertIdx i (28, r, 0) = rL (l.insertIdx i r) := by
  apply List.ext_getElem?
  intro j
  rw [List.getElem?_insertIdx]
  unfold rL
  simp only [List.getElem?_map, List.getElem?_insertIdx, List.length_map]
  by_cases c1 : j < i
  · rw [if_pos c1, if_pos c1]
  · rw [if_neg c1, if_neg c1]
    by_cases c2 : j = i
    · rw [if_pos c2, if_pos c2]
      split <;> rfl
    · rw [if_neg c2, if_neg c2]
theorem rL_er {l : List Nat} {i : Nat} : (rL l).eraseIdx i = rL (l.eraseIdx i) := by
  apply List.ext_getElem?
  intro j
  rw [List.getElem?_eraseIdx]
  unfold rL
  simp only [List.getElem?_map, List.getElem?_eraseIdx]
  split <;> rfl
theorem rL_ap {l : List Nat} {r : Nat} : rL l ++ [(28, r, 0)] = rL (l ++ [r]) := by simp [rL]
theorem rL_st {l : List Nat} {i r : Nat} : (rL l).set i (28, r, 0) = rL (l.set i r) := by simp [rL, List.map_set]
theorem set_ei {l : List Nat} {i r : Nat} (hi : i < l.length) : l.set i r = (l.eraseIdx i).insertIdx i r := by
  apply List.ext_getElem?
  intro j
  rw [List.getElem?_set, List.getElem?_insertIdx]
  by_cases c1 : j < i
  · rw [if_neg (by omega), if_pos c1, List.getElem?_eraseIdx, if_pos c1]
  · rw [if_neg c1]
    by_cases c2 : j = i
    · subst c2
      have : (l.eraseIdx j).length = l.length - 1 := List.length_eraseIdx_of_lt hi
      rw [if_pos rfl, if_pos (by omega), if_pos rfl, if_pos (by omega)]
    · rw [if_neg (fun z1 => c2 z1.symm), if_neg c2, List.getElem?_eraseIdx, if_neg (by omega), show j - 1 + 1 = j by omega]
theorem ap_in {l : List Nat} {r : Nat} : l ++ [r] = l.insertIdx l.length r := by
  apply List.ext_getElem?
  intro j
  rw [List.getElem?_insertIdx]
  by_cases c1 : j < l.length
  · rw [if_pos c1, List.getElem?_append_left c1]
  · rw [if_neg c1, List.getElem?_append_right (by omega)]
    by_cases c2 : j = l.length
    · subst c2
      simp
    · rw [if_neg c2, List.getElem?_eq_none (by simp; omega), List.getElem?_eq_none (by omega)]
/-- the row before any orders: by their keys -/
def Sd (σ : Sg) (l : List Nat) : Prop := ∀ (i j x y : Nat), i < j → l[i]? = some x → l[j]? = some y → ky σ y ≤ ky σ x
theorem ahd_lt {σ : Sg} {x r : Nat} (h1 : x < r) : ahd σ x r = decide (ky σ r ≤ ky σ x) := by
  unfold ahd
  by_cases c1 : ky σ r ≤ ky σ x
  · rw [decide_eq_true c1]
    by_cases c2 : ky σ r < ky σ x
    · simp [c2]
    · have c3 : ky σ x = ky σ r := by omega
      simp [c3, h1]
  · rw [decide_eq_false c1]
    have c2 : ¬ ky σ r < ky σ x := by omega
    have c3 : ¬ ky σ x = ky σ r := by omega
    simp [c2, c3]
theorem Sd.at {σ : Sg} {l : List Nat} {r p : Nat} (hs : Sd σ l) (hl : ∀ x ∈ l, x < r) (hp : p ≤ l.length) (h1 : ∀ j x, p ≤ j → l[j]? = some x → ky σ x < ky σ r) (h2 : p = 0 ∨ ∃ x, l[p - 1]? = some x ∧ ky σ r ≤ ky σ x) : (l.takeWhile fun x => ahd σ x r).length = p := by
  refine tw_len (fun i x hi1 hx1 => ?_) ?_
  · rw [ahd_lt (hl x (List.mem_of_getElem? hx1))]
    apply decide_eq_true
    rcases h2 with h2 | ⟨y, hy1, hy2⟩
    · omega
    · by_cases c1 : i = p - 1
      · subst c1
        rw [hx1] at hy1
        cases hy1
        exact hy2
      · have := hs i (p - 1) x y (by omega) hx1 hy1
        omega
  · by_cases c1 : p = l.length
    · exact Or.inl c1
    · obtain ⟨x, hx1⟩ : ∃ x, l[p]? = some x := ⟨_, List.getElem?_eq_getElem (by omega)⟩
      refine Or.inr ⟨x, hx1, ?_⟩
      rw [ahd_lt (hl x (List.mem_of_getElem? hx1))]
      have := h1 p x (Nat.le_refl _) hx1
      apply decide_eq_false
      omega
theorem Sd.ins {σ : Sg} {l : List Nat} {r : Nat} (hs : Sd σ l) (hl : ∀ x ∈ l, x < r) : Sd σ (insR σ r l) := by
  unfold insR
  generalize hp : (l.takeWhile fun x => ahd σ x r).length = p
  have hple : p ≤ l.length := by rw [← hp]; exact (List.takeWhile_prefix _).length_le
  have before : ∀ i x, i < p → l[i]? = some x → ky σ r ≤ ky σ x := by
    intro i x hi1 hx1
    have hm : x ∈ l.takeWhile fun x => ahd σ x r := by
      have hpre := List.takeWhile_prefix (l := l) (fun x => ahd σ x r)
      obtain ⟨t, ht⟩ := hpre
      rw [← ht, List.getElem?_append_left (by omega)] at hx1
      exact List.mem_of_getElem? hx1
    have := List.all_takeWhile (l := l) (p := fun x => ahd σ x r)
    have := List.all_eq_true.mp this x hm
    rw [ahd_lt (hl x (List.mem_of_getElem? hx1))] at this
    exact of_decide_eq_true this
  have after : ∀ i x, p ≤ i → l[i]? = some x → ky σ x < ky σ r := by
    have first : p < l.length → ∀ x, l[p]? = some x → ky σ x < ky σ r := by
      intro hlt x hx1
      have hnot : ahd σ x r = false := by
        cases hc : ahd σ x r with
        | false => rfl
        | true =>
          exfalso
          have hdw : l = (l.takeWhile fun x => ahd σ x r) ++ l.dropWhile (fun x => ahd σ x r) := (List.takeWhile_append_dropWhile).symm
          have hx2 : (l.dropWhile fun x => ahd σ x r)[0]? = some x := by
            rw [hdw, List.getElem?_append_right (by omega), hp] at hx1
            simpa using hx1
          cases hd : l.dropWhile (fun x => ahd σ x r) with
          | nil => rw [hd] at hx2; simp at hx2
          | cons y ys =>
            rw [hd] at hx2
            simp at hx2
            subst hx2
            have := List.head?_dropWhile_not (fun x => ahd σ x r) l
            rw [hd] at this
            simp [hc] at this
      rw [ahd_lt (hl x (List.mem_of_getElem? hx1))] at hnot
      have := of_decide_eq_false hnot
      omega
    intro i x hi1 hx1
    have hlt : i < l.length := (List.getElem?_eq_some_iff.mp hx1).1
    by_cases c1 : i = p
    · subst c1; exact first hlt x hx1
    · obtain ⟨y, hy1⟩ : ∃ y, l[p]? = some y := ⟨_, List.getElem?_eq_getElem (by omega)⟩
      have h1 := first (by omega) y hy1
      have h2 := hs p i y x (by omega) hy1 hx1
      omega
  intro i j x y hij hx1 hy1
  rw [List.getElem?_insertIdx] at hx1 hy1
  by_cases c1 : i < p
  · rw [if_pos c1] at hx1
    by_cases c2 : j < p
    · rw [if_pos c2] at hy1; exact hs i j x y hij hx1 hy1
    · rw [if_neg c2] at hy1
      by_cases c3 : j = p
      · rw [if_pos c3, if_pos (by omega)] at hy1
        cases hy1
        exact before i x c1 hx1
      · rw [if_neg c3] at hy1
        exact hs i (j - 1) x y (by omega) hx1 hy1
  · rw [if_neg c1] at hx1
    rw [if_neg (by omega), if_neg (by omega)] at hy1
    by_cases c3 : i = p
    · rw [if_pos c3, if_pos (by omega)] at hx1
      cases hx1
      have := after (j - 1) y (by omega) hy1
      omega
    · rw [if_neg c3] at hx1
      exact hs (i - 1) (j - 1) x y (by omega) hx1 hy1
/-- the rules of a book -/
def ownL (σ : Sg) (b R : Nat) : List Nat := (List.range R).filter fun r => decide (σ 9 r = nI b)
theorem ownL_succ {σ : Sg} {b R : Nat} : ownL σ b (R + 1) = if σ 9 R = nI b then ownL σ b R ++ [R] else ownL σ b R := by
  unfold ownL
  rw [List.range_succ, List.filter_append]
  by_cases c1 : σ 9 R = nI b
  · simp [c1]
  · simp [c1]
theorem ownL_mem {σ : Sg} {b R r : Nat} (h1 : r ∈ ownL σ b R) : r < R := by
  unfold ownL at h1
  rw [List.mem_filter, List.mem_range] at h1
  exact h1.1
theorem ownL_len {σ : Sg} {b R : Nat} : (ownL σ b R).length ≤ R := by
  have := List.length_filter_le (fun r => decide (σ 9 r = nI b)) (List.range R)
  rw [List.length_range] at this
  exact this
theorem srt_own {σ : Sg} {b : Nat} : ∀ R, srt σ b R = (ownL σ b R).foldl (fun l r => insR σ r l) [] := by
  intro R
  induction R with
  | zero => rfl
  | succ R ih1 =>
    rw [ownL_succ]
    by_cases c1 : σ 9 R = nI b
    · rw [if_pos c1, List.foldl_append, ← ih1]
      simp [srt, c1]
    · rw [if_neg c1, ← ih1]
      simp [srt, c1]
theorem srt_Sd {σ : Sg} {b : Nat} : ∀ R, Sd σ (srt σ b R) := by
  intro R
  induction R with
  | zero => intro i j x y _ h1; simp [srt] at h1
  | succ R ih1 =>
    unfold srt
    split
    · exact ih1.ins (fun x hx1 => srt_mem hx1)
    · exact ih1
