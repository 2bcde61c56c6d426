/-! the row that the reference makes -/
def Md (σ : Sg) (l : List Nat) : Prop := σ 20 0 = nI l.length ∧ ∀ i x, l[i]? = some x → σ 19 i = nI x
/-- nothing but the made row has changed -/
def sm (σ σ' : Sg) : Prop := ∀ k j, k ≠ 19 → k ≠ 20 → σ' k j = σ k j
theorem sm.rf {σ : Sg} : sm σ σ := fun _ _ _ _ => rfl
theorem sm.tr {a b c : Sg} (h : sm a b) (g : sm b c) : sm a c := fun k j h1 h2 => (g k j h1 h2).trans (h k j h1 h2)
theorem sm.u19 {σ σ' : Sg} {j : Nat} {x : Int32} (h : sm σ σ') : sm σ (us σ' 19 j x) := fun k j' h1 h2 => by rw [us_k h1]; exact h k j' h1 h2
theorem sm.u20 {σ σ' : Sg} {j : Nat} {x : Int32} (h : sm σ σ') : sm σ (us σ' 20 j x) := fun k j' h1 h2 => by rw [us_k h2]; exact h k j' h1 h2
def plc (l : List Nat) (r : Nat) : Int32 := if r ∈ l then nI (l.idxOf r) else -4
theorem idx_at {l : List Nat} {r : Nat} : ∀ {k : Nat}, l[k]? = some r → (∀ i x, i < k → l[i]? = some x → x ≠ r) → l.idxOf r = k := by
  induction l with
  | nil => intro k h; simp at h
  | cons a l ih =>
    intro k h hb
    cases k with
    | zero =>
      simp at h
      subst h
      simp
    | succ k =>
      have ha : a ≠ r := hb 0 a (by omega) (by simp)
      rw [List.idxOf_cons]
      have := ih (k := k) (by simpa using h) (fun i x hi hx => hb (i + 1) x (by omega) (by simpa using hx))
      have hab : (a == r) = false := by simpa using ha
      rw [hab, this]
      rfl
theorem l_M_placeOf {σ : Sg} {h : Hp} {l : List Nat} {r : Nat} {Q : Option PV → Hp → Prop} (hn : σ 20 0 = nI l.length) (hl : ∀ i x, l[i]? = some x → σ 19 i = nI x) (h60 : l.length ≤ 60) (hb : ∀ x ∈ l, x < 60) (hr : r < 60) (hq : Q (some (vI (plc l r))) (hM σ h)) : ∀ (d k : Nat), k + d = l.length → (∀ i x, i < k → l[i]? = some x → x ≠ r) → S mM_placeOf 0 0 0 Q 2 [some (vR (100, 0, 0)), some (vI (nI r)), some (vI (nI k))] [] (hM σ h) 0 0 := by
  intro d
  induction d with
  | zero =>
    intro k hk hx
    have ek : k = l.length := by omega
    subst ek
    refine s_iload_n dM_placeOf_2 rfl rfl ?_
    refine s_aload_n dM_placeOf_3 rfl rfl ?_
    refine s_mgi dM_placeOf_4 gf_M_157 rfl ?_
    refine s_top hn ?_
    refine s_icmp_ge dM_placeOf_7 (fun _ => ?_) (fun q => absurd (nI_le (Nat.le_refl _) (by omega)) q)
    refine s_bipush (v := (-4)) dM_placeOf_28 (by decide) ?_
    refine s_iret dM_placeOf_30 rfl (by first | exact Nat.le_refl _ | decide | omega) (by first | exact Nat.le_refl _ | decide | omega) ?_
    have : r ∉ l := fun q => by
      obtain ⟨i, hi⟩ := List.getElem?_of_mem q
      exact hx i r (List.getElem?_eq_some_iff.mp hi).1 hi rfl
    rw [plc, if_neg this] at hq
    exact hq
  | succ d ih =>
    intro k hk hx
    have hkl : k < l.length := by omega
    obtain ⟨y, hy⟩ : ∃ y, l[k]? = some y := ⟨_, List.getElem?_eq_getElem hkl⟩
    have ey := hl k y hy
    have hy60 := hb y (List.mem_of_getElem? hy)
    by_cases e : y = r
    · subst e
      refine s_iload_n dM_placeOf_2 rfl rfl ?_
      refine s_aload_n dM_placeOf_3 rfl rfl ?_
      refine s_mgi dM_placeOf_4 gf_M_157 rfl ?_
      refine s_top hn ?_
      refine s_icmp_ge dM_placeOf_7 (fun q => absurd q (nI_ge hkl (by omega))) (fun _ => ?_)
      refine s_aload_n dM_placeOf_10 rfl rfl ?_
      refine s_mga dM_placeOf_11 gf_M_52 rfl ?_
      refine s_iload_n dM_placeOf_14 rfl rfl ?_
      refine s_mald dM_placeOf_15 rfl rfl (show _ < 60 by omega) rfl ?_
      refine s_top ey ?_
      refine s_iload_n dM_placeOf_16 rfl rfl ?_
      refine s_icmp_ne dM_placeOf_17 (fun q => absurd rfl q) (fun _ => ?_)
      refine s_iload_n dM_placeOf_20 rfl rfl ?_
      refine s_iret dM_placeOf_21 rfl (by first | exact Nat.le_refl _ | decide | omega) (by first | exact Nat.le_refl _ | decide | omega) ?_
      rw [plc, if_pos (List.mem_of_getElem? hy), idx_at hy hx] at hq
      exact hq
    · refine s_iload_n dM_placeOf_2 rfl rfl ?_
      refine s_aload_n dM_placeOf_3 rfl rfl ?_
      refine s_mgi dM_placeOf_4 gf_M_157 rfl ?_
      refine s_top hn ?_
      refine s_icmp_ge dM_placeOf_7 (fun q => absurd q (nI_ge hkl (by omega))) (fun _ => ?_)
      refine s_aload_n dM_placeOf_10 rfl rfl ?_
      refine s_mga dM_placeOf_11 gf_M_52 rfl ?_
      refine s_iload_n dM_placeOf_14 rfl rfl ?_
      refine s_mald dM_placeOf_15 rfl rfl (show _ < 60 by omega) rfl ?_
      refine s_top ey ?_
      refine s_iload_n dM_placeOf_16 rfl rfl ?_
      refine s_icmp_ne dM_placeOf_17 (fun _ => ?_) (fun q => absurd q (nI_ne e (by omega) (by omega)))
      first | refine s_iincN dM_placeOf_22 rfl rfl ?_ | refine s_iinc dM_placeOf_22 rfl rfl ?_
      refine s_goto dM_placeOf_25 ?_
      refine ih (k + 1) (by omega) (fun i x hi hix => ?_)
      by_cases ei : i = k
      · subst ei
        rw [hy] at hix
        cases hix
        exact e
      · exact hx i x (by omega) hix
theorem c_M_placeOf {σ : Sg} {h : Hp} {l : List Nat} {r : Nat} (M0 : Md σ l) (h60 : l.length ≤ 60) (hb : ∀ x ∈ l, x < 60) (hr : r < 60) : ConF mM_placeOf 0 [vR (100, 0, 0), vI (nI r)] (hM σ h) (some (vI (plc l r))) (hM σ h) := by
  refine c_enter (by decide +kernel) rfl rfl ?_
  refine s_iconst (v := 0) dM_placeOf_0 (by decide) ?_
  refine s_istore_n dM_placeOf_1 rfl rfl ?_
  exact l_M_placeOf M0.1 M0.2 h60 hb hr ⟨rfl, rfl⟩ l.length 0 (by omega) (fun i x hi => by omega)
theorem l_M_goes {σ0 : Sg} {h : Hp} {n p : Nat} {a : Nat → Int32} {Q : Option PV → Hp → Prop} (hn : n < 60) (hq : ∀ σ, sm σ0 σ → σ 20 0 = nI n → (∀ j, σ 19 j = if p ≤ j ∧ j < n then a (j + 1) else a j) → Q none (hM σ h)) :
    ∀ (d k : Nat) (σ : Sg), k + d = n → p ≤ k → sm σ0 σ → σ 20 0 = nI n → (∀ j, σ 19 j = if p ≤ j ∧ j < k then a (j + 1) else a j) → S mM_goes 0 0 0 Q 12 [some (vR (100, 0, 0)), some (vI (nI p)), some (vI (nI k))] [] (hM σ h) 0 0 := by
  intro d
  induction d with
  | zero =>
    intro k σ hk hp hs h20 ha
    have : k = n := by omega
    subst this
    refine s_iload_n dM_goes_12 rfl rfl ?_
    refine s_aload_n dM_goes_13 rfl rfl ?_
    refine s_mgi dM_goes_14 gf_M_157 rfl ?_
    refine s_top h20 ?_
    refine s_icmp_ge dM_goes_17 (fun _ => ?_) (fun q => absurd (nI_le (Nat.le_refl _) (by omega)) q)
    refine s_vret dM_goes_40 rfl (by first | exact Nat.le_refl _ | decide | omega) (by first | exact Nat.le_refl _ | decide | omega) ?_
    exact hq σ hs h20 ha
  | succ d ih =>
    intro k σ hk hp hs h20 ha
    refine s_iload_n dM_goes_12 rfl rfl ?_
    refine s_aload_n dM_goes_13 rfl rfl ?_
    refine s_mgi dM_goes_14 gf_M_157 rfl ?_
    refine s_top h20 ?_
    refine s_icmp_ge dM_goes_17 (fun q => absurd q (nI_ge (show k < n by omega) (by omega))) (fun _ => ?_)
    refine s_aload_n dM_goes_20 rfl rfl ?_
    refine s_mga dM_goes_21 gf_M_52 rfl ?_
    refine s_iload_n dM_goes_24 rfl rfl ?_
    refine s_aload_n dM_goes_25 rfl rfl ?_
    refine s_mga dM_goes_26 gf_M_52 rfl ?_
    refine s_iload_n dM_goes_29 rfl rfl ?_
    refine s_iconst (v := nI 1) dM_goes_30 (by decide) ?_
    first | refine s_iaddN dM_goes_31 ?_ | refine s_iadd dM_goes_31 ?_
    refine s_mald dM_goes_32 rfl rfl (show _ < 60 by omega) rfl ?_
    refine s_mast dM_goes_33 rfl rfl (show _ < 60 by omega) rfl ?_
    first | refine s_iincN dM_goes_34 rfl rfl ?_ | refine s_iinc dM_goes_34 rfl rfl ?_
    refine s_goto dM_goes_37 ?_
    refine ih (k + 1) _ (by omega) (by omega) hs.u19 (by rw [us_k (by decide)]; exact h20) (fun j => ?_)
    by_cases e : j = k
    · subst e
      rw [us_s, if_pos ⟨hp, by omega⟩, ha (j + 1), if_neg (by omega)]
    · rw [us_j e, ha j]
      by_cases q : p ≤ j ∧ j < k
      · rw [if_pos q, if_pos (by omega)]
      · rw [if_neg q, if_neg (by omega)]
theorem c_M_goes {σ : Sg} {h : Hp} {l : List Nat} {p : Nat} (M0 : Md σ l) (h60 : l.length ≤ 60) (hp : p < l.length) : Con mM_goes 0 0 0 [vR (100, 0, 0), vI (nI p)] (hM σ h) (fun v h' => v = none ∧ ∃ σ', h' = hM σ' h ∧ sm σ σ' ∧ Md σ' (l.eraseIdx p)) := by
  refine c_enter (by decide +kernel) rfl rfl ?_
  refine s_aload_n dM_goes_0 rfl rfl ?_
  refine s_dup dM_goes_1 rfl ?_
  refine s_mgi dM_goes_2 gf_M_157 rfl ?_
  refine s_top M0.1 ?_
  refine s_iconst (v := nI 1) dM_goes_5 (by decide) ?_
  first | refine s_isubN dM_goes_6 (by omega) ?_ | refine s_isub dM_goes_6 ?_
  refine s_mpi dM_goes_7 gf_M_157 rfl rfl (by first | exact ⟨_, rfl⟩ | exact Or.inl rfl | exact Or.inr rfl) ?_
  refine s_iload_n dM_goes_10 rfl rfl ?_
  refine s_istore_n dM_goes_11 rfl rfl ?_
  have fin0 : ∀ σ', sm σ σ' → σ' 20 0 = nI (l.length - 1) → (∀ j, σ' 19 j = if p ≤ j ∧ j < l.length - 1 then σ 19 (j + 1) else σ 19 j) → Md σ' (l.eraseIdx p) := by
    intro σ' hs1 hm1 ha1
    refine ⟨by rw [hm1, List.length_eraseIdx_of_lt hp], fun i x hi1 => ?_⟩
    rw [List.getElem?_eraseIdx] at hi1
    rw [ha1 i]
    by_cases q1 : i < p
    · rw [if_pos q1] at hi1
      rw [if_neg (by omega)]
      exact M0.2 i x hi1
    · rw [if_neg q1] at hi1
      have hl1 := (List.getElem?_eq_some_iff.mp hi1).1
      rw [if_pos (by omega)]
      exact M0.2 (i + 1) x hi1
  exact l_M_goes (σ0 := σ) (n := l.length - 1) (p := p) (a := σ 19) (by omega) (fun σ' hs1 hm1 ha1 => ⟨rfl, σ', rfl, hs1, fin0 σ' hs1 hm1 ha1⟩) (l.length - 1 - p) p _ (by omega) (Nat.le_refl _) sm.rf.u20 us_s (fun j => by rw [us_k (by decide), if_neg (by omega)])
theorem l_M_comes {σ0 : Sg} {h : Hp} {n p r : Nat} {a : Nat → Int32} {Q : Option PV → Hp → Prop} (hn : n < 60) (hpn : p ≤ n) (hq : ∀ σ, sm σ0 σ → σ 20 0 = nI (n + 1) → (∀ j, σ 19 j = if j = p then nI r else if p < j ∧ j ≤ n then a (j - 1) else a j) → Q none (hM σ h)) :
    ∀ (d k : Nat) (σ : Sg), k = p + d → k ≤ n → sm σ0 σ → σ 20 0 = nI n → (∀ j, σ 19 j = if k < j ∧ j ≤ n then a (j - 1) else a j) → S mM_comes 0 0 0 Q 5 [some (vR (100, 0, 0)), some (vI (nI r)), some (vI (nI p)), some (vI (nI k))] [] (hM σ h) 0 0 := by
  intro d
  induction d with
  | zero =>
    intro k σ hk hp hs h20 ha
    have : k = p := by omega
    subst this
    refine s_iload_n dM_comes_5 rfl rfl ?_
    refine s_iload_n dM_comes_6 rfl rfl ?_
    refine s_icmp_le dM_comes_7 (fun _ => ?_) (fun q => absurd (nI_le (Nat.le_refl _) (by omega)) q)
    refine s_aload_n dM_comes_30 rfl rfl ?_
    refine s_mga dM_comes_31 gf_M_52 rfl ?_
    refine s_iload_n dM_comes_34 rfl rfl ?_
    refine s_iload_n dM_comes_35 rfl rfl ?_
    refine s_mast dM_comes_36 rfl rfl (show _ < 60 by omega) rfl ?_
    refine s_aload_n dM_comes_37 rfl rfl ?_
    refine s_dup dM_comes_38 rfl ?_
    refine s_mgi dM_comes_39 gf_M_157 rfl ?_
    refine s_top (show us σ 19 k (nI r) 20 0 = nI n by rw [us_k (by decide)]; exact h20) ?_
    refine s_iconst (v := nI 1) dM_comes_42 (by decide) ?_
    first | refine s_iaddN dM_comes_43 ?_ | refine s_iadd dM_comes_43 ?_
    refine s_mpi dM_comes_44 gf_M_157 rfl rfl (by first | exact ⟨_, rfl⟩ | exact Or.inl rfl | exact Or.inr rfl) ?_
    refine s_vret dM_comes_47 rfl (by first | exact Nat.le_refl _ | decide | omega) (by first | exact Nat.le_refl _ | decide | omega) ?_
    refine hq _ hs.u19.u20 us_s (fun j => ?_)
    rw [us_k (by decide)]
    by_cases e : j = k
    · subst e
      rw [us_s, if_pos rfl]
    · rw [us_j e, if_neg e, ha j]
  | succ d ih =>
    intro k σ hk hp hs h20 ha
    refine s_iload_n dM_comes_5 rfl rfl ?_
    refine s_iload_n dM_comes_6 rfl rfl ?_
    refine s_icmp_le dM_comes_7 (fun q => absurd q (nI_ge (show p < k by omega) (by omega))) (fun _ => ?_)
    refine s_aload_n dM_comes_10 rfl rfl ?_
    refine s_mga dM_comes_11 gf_M_52 rfl ?_
    refine s_iload_n dM_comes_14 rfl rfl ?_
    refine s_aload_n dM_comes_15 rfl rfl ?_
    refine s_mga dM_comes_16 gf_M_52 rfl ?_
    refine s_iload_n dM_comes_19 rfl rfl ?_
    refine s_iconst (v := nI 1) dM_comes_20 (by decide) ?_
    first | refine s_isubN dM_comes_21 (by omega) ?_ | refine s_isub dM_comes_21 ?_
    refine s_mald dM_comes_22 rfl rfl (show _ < 60 by omega) rfl ?_
    refine s_mast dM_comes_23 rfl rfl (show _ < 60 by omega) rfl ?_
    refine s_iinc dM_comes_24 rfl rfl ?_
    rw [show nI k + Int32.ofInt (-1) = nI (k - 1) by rw [show Int32.ofInt (-1) = (-1 : Int32) by decide, ← pk_m1 (k - 1), show k - 1 + 1 = k by omega]]
    refine s_goto dM_comes_27 ?_
    refine ih (k - 1) _ (by omega) (by omega) hs.u19 (by rw [us_k (by decide)]; exact h20) (fun j => ?_)
    by_cases e : j = k
    · subst e
      rw [us_s, if_pos (by omega), ha (j - 1), if_neg (by omega)]
    · rw [us_j e, ha j]
      by_cases q : k < j ∧ j ≤ n
      · rw [if_pos q, if_pos (by omega)]
      · rw [if_neg q, if_neg (by omega)]
theorem c_M_comes {σ : Sg} {h : Hp} {l : List Nat} {p r : Nat} (M0 : Md σ l) (h60 : l.length < 60) (hp : p ≤ l.length) : Con mM_comes 0 0 0 [vR (100, 0, 0), vI (nI r), vI (nI p)] (hM σ h) (fun v h' => v = none ∧ ∃ σ', h' = hM σ' h ∧ sm σ σ' ∧ Md σ' (l.insertIdx p r)) := by
  refine c_enter (by decide +kernel) rfl rfl ?_
  refine s_aload_n dM_comes_0 rfl rfl ?_
  refine s_mgi dM_comes_1 gf_M_157 rfl ?_
  refine s_top M0.1 ?_
  refine s_istore_n dM_comes_4 rfl rfl ?_
  have fin0 : ∀ σ', sm σ σ' → σ' 20 0 = nI (l.length + 1) → (∀ j, σ' 19 j = if j = p then nI r else if p < j ∧ j ≤ l.length then σ 19 (j - 1) else σ 19 j) → Md σ' (l.insertIdx p r) := by
    intro σ' hs1 hm1 ha1
    refine ⟨by rw [hm1, List.length_insertIdx_of_le_length hp], fun i x hi1 => ?_⟩
    rw [List.getElem?_insertIdx] at hi1
    rw [ha1 i]
    by_cases q1 : i < p
    · rw [if_pos q1] at hi1
      rw [if_neg (by omega), if_neg (by omega)]
      exact M0.2 i x hi1
    · rw [if_neg q1] at hi1
      by_cases q2 : i = p
      · rw [if_pos q2, if_pos (by omega)] at hi1
        cases hi1
        rw [if_pos q2]
      · rw [if_neg q2] at hi1
        have hl1 := (List.getElem?_eq_some_iff.mp hi1).1
        rw [if_neg q2, if_pos (by omega)]
        exact M0.2 (i - 1) x hi1
  exact l_M_comes (σ0 := σ) (n := l.length) (p := p) (r := r) (a := σ 19) h60 hp (fun σ' hs1 hm1 ha1 => ⟨rfl, σ', rfl, hs1, fin0 σ' hs1 hm1 ha1⟩) (l.length - p) l.length σ (by omega) (Nat.le_refl _) sm.rf M0.1 (fun j => by rw [if_neg (by omega)])
/-! orders -/
def cand (σ : Sg) (b t r : Nat) : Prop := σ 9 r = nI b ∧ ¬ σ 15 r = -4 ∧ t < nt (σ 17 r)
/-- told orders have their times -/
def TP (σ : Sg) (R : Nat) : Prop := ∀ r, r < R → ¬ σ 15 r = -4 → ∃ t, 0 < t ∧ t < 2 ^ 20 ∧ σ 17 r = nI t
def oI (o : Option Nat) : Int32 := match o with
  | some r => nI r
  | none => -4
def best (σ : Sg) (b t k : Nat) (o : Option Nat) : Prop := match o with
  | none => ∀ r, r < k → ¬ cand σ b t r
  | some r => r < k ∧ cand σ b t r ∧ ∀ r', r' < k → cand σ b t r' → nt (σ 17 r) ≤ nt (σ 17 r')
theorem l_M_nextOrder {σ : Sg} {h : Hp} {R B b t : Nat} {Q : Option PV → Hp → Prop} (hR : σ 8 0 = nI R) (h60 : R ≤ 60) (T : TP σ R) (hB : ∀ r, r < R → ∃ c, c < 2 ^ 20 ∧ σ 9 r = nI c) (hb : b < 2 ^ 20) (ht : t < 2 ^ 20) (hq : ∀ o, best σ b t R o → Q (some (vI (oI o))) (hM σ h)) :
    ∀ (d k : Nat) (o : Option Nat), k + d = R → best σ b t k o → S mM_nextOrder 0 0 0 Q 6 [some (vR (100, 0, 0)), some (vI (nI b)), some (vI (nI t)), some (vI (oI o)), some (vI (nI k))] [] (hM σ h) 0 0 := by
  intro d
  induction d with
  | zero =>
    intro k o hk hbst
    have : k = R := by omega
    subst this
    refine s_iload dM_nextOrder_6 rfl ?_
    refine s_aload_n dM_nextOrder_8 rfl rfl ?_
    refine s_mgi dM_nextOrder_9 gf_M_138 rfl ?_
    refine s_top hR ?_
    refine s_icmp_ge dM_nextOrder_12 (fun _ => ?_) (fun q => absurd (nI_le (Nat.le_refl _) (by omega)) q)
    refine s_iload_n dM_nextOrder_80 rfl rfl ?_
    refine s_iret dM_nextOrder_81 rfl (by first | exact Nat.le_refl _ | decide | omega) (by first | exact Nat.le_refl _ | decide | omega) ?_
    exact hq o hbst
  | succ d ih =>
    intro k o hk hbst
    have hkR : k < R := by omega
    obtain ⟨c, hc, ec⟩ := hB k hkR
    -- the same best
    have keep : (∀ r, o = some r → cand σ b t k → nt (σ 17 r) ≤ nt (σ 17 k)) → (o = none → ¬ cand σ b t k) → S mM_nextOrder 0 0 0 Q 74 [some (vR (100, 0, 0)), some (vI (nI b)), some (vI (nI t)), some (vI (oI o)), some (vI (nI k))] [] (hM σ h) 0 0 := by
      intro q1 q2
      first | refine s_iincN dM_nextOrder_74 rfl rfl ?_ | refine s_iinc dM_nextOrder_74 rfl rfl ?_
      refine s_goto dM_nextOrder_77 ?_
      refine ih (k + 1) o (by omega) ?_
      cases o with
      | none =>
        intro r hr
        by_cases e : r = k
        · rw [e]; exact q2 rfl
        · exact hbst r (by omega)
      | some r0 =>
        refine ⟨by have := hbst.1; omega, hbst.2.1, fun r hr hcr => ?_⟩
        by_cases e : r = k
        · rw [e] at hcr ⊢; exact q1 r0 rfl hcr
        · exact hbst.2.2 r (by omega) hcr
    have nc : ¬ cand σ b t k → S mM_nextOrder 0 0 0 Q 74 [some (vR (100, 0, 0)), some (vI (nI b)), some (vI (nI t)), some (vI (oI o)), some (vI (nI k))] [] (hM σ h) 0 0 := fun q => keep (fun _ _ z => absurd z q) (fun _ => q)
    by_cases e1 : σ 9 k = nI b
    · by_cases e2 : σ 15 k = -4
      · refine s_iload dM_nextOrder_6 rfl ?_
        refine s_aload_n dM_nextOrder_8 rfl rfl ?_
        refine s_mgi dM_nextOrder_9 gf_M_138 rfl ?_
        refine s_top hR ?_
        refine s_icmp_ge dM_nextOrder_12 (fun q => absurd q (nI_ge hkR (by omega))) (fun _ => ?_)
        refine s_aload_n dM_nextOrder_15 rfl rfl ?_
        refine s_mga dM_nextOrder_16 gf_M_25 rfl ?_
        refine s_iload dM_nextOrder_19 rfl ?_
        refine s_mald dM_nextOrder_21 rfl rfl (show _ < 60 by omega) rfl ?_
        refine s_iload_n dM_nextOrder_22 rfl rfl ?_
        refine s_icmp_ne dM_nextOrder_23 (fun q => absurd e1 q) (fun _ => ?_)
        refine s_aload_n dM_nextOrder_26 rfl rfl ?_
        refine s_mga dM_nextOrder_27 gf_M_43 rfl ?_
        refine s_iload dM_nextOrder_30 rfl ?_
        refine s_mald dM_nextOrder_32 rfl rfl (show _ < 60 by omega) rfl ?_
        refine s_bipush (v := (-4)) dM_nextOrder_33 (by decide) ?_
        refine s_icmp_eq dM_nextOrder_35 (fun _ => ?_) (fun q => absurd e2 q)
        exact nc fun z => z.2.1 e2
      · obtain ⟨t1, ht0, ht1, et⟩ := T k hkR e2
        have ent : nt (σ 17 k) = t1 := by rw [et]; exact nt_nI (by omega)
        by_cases e3 : t < t1
        · have hck : cand σ b t k := ⟨e1, e2, by rw [ent]; exact e3⟩
          have take : (∀ r', r' < k → cand σ b t r' → nt (σ 17 k) ≤ nt (σ 17 r')) → S mM_nextOrder 0 0 0 Q 71 [some (vR (100, 0, 0)), some (vI (nI b)), some (vI (nI t)), some (vI (oI o)), some (vI (nI k))] [] (hM σ h) 0 0 := by
            intro q
            refine s_iload dM_nextOrder_71 rfl ?_
            refine s_istore_n dM_nextOrder_73 rfl rfl ?_
            first | refine s_iincN dM_nextOrder_74 rfl rfl ?_ | refine s_iinc dM_nextOrder_74 rfl rfl ?_
            refine s_goto dM_nextOrder_77 ?_
            refine ih (k + 1) (some k) (by omega) ⟨by omega, hck, fun r hr hcr => ?_⟩
            by_cases e : r = k
            · rw [e]; exact Nat.le_refl _
            · exact q r (by omega) hcr
          cases o with
          | none =>
            refine s_iload dM_nextOrder_6 rfl ?_
            refine s_aload_n dM_nextOrder_8 rfl rfl ?_
            refine s_mgi dM_nextOrder_9 gf_M_138 rfl ?_
            refine s_top hR ?_
            refine s_icmp_ge dM_nextOrder_12 (fun q => absurd q (nI_ge hkR (by omega))) (fun _ => ?_)
            refine s_aload_n dM_nextOrder_15 rfl rfl ?_
            refine s_mga dM_nextOrder_16 gf_M_25 rfl ?_
            refine s_iload dM_nextOrder_19 rfl ?_
            refine s_mald dM_nextOrder_21 rfl rfl (show _ < 60 by omega) rfl ?_
            refine s_iload_n dM_nextOrder_22 rfl rfl ?_
            refine s_icmp_ne dM_nextOrder_23 (fun q => absurd e1 q) (fun _ => ?_)
            refine s_aload_n dM_nextOrder_26 rfl rfl ?_
            refine s_mga dM_nextOrder_27 gf_M_43 rfl ?_
            refine s_iload dM_nextOrder_30 rfl ?_
            refine s_mald dM_nextOrder_32 rfl rfl (show _ < 60 by omega) rfl ?_
            refine s_bipush (v := (-4)) dM_nextOrder_33 (by decide) ?_
            refine s_icmp_eq dM_nextOrder_35 (fun q => absurd q e2) (fun _ => ?_)
            refine s_aload_n dM_nextOrder_38 rfl rfl ?_
            refine s_mga dM_nextOrder_39 gf_M_49 rfl ?_
            refine s_iload dM_nextOrder_42 rfl ?_
            refine s_mald dM_nextOrder_44 rfl rfl (show _ < 60 by omega) rfl ?_
            refine s_top et ?_
            refine s_iload_n dM_nextOrder_45 rfl rfl ?_
            refine s_icmp_le dM_nextOrder_46 (fun q => absurd q (nI_ge e3 (by omega))) (fun _ => ?_)
            refine s_iload_n dM_nextOrder_49 rfl rfl ?_
            refine s_bipush (v := (-4)) dM_nextOrder_50 (by decide) ?_
            refine s_icmp_eq dM_nextOrder_52 (fun _ => ?_) (fun q => absurd rfl q)
            exact take fun r hr hcr => absurd hcr (hbst r hr)
          | some r0 =>
            obtain ⟨hr0, hc0, hm0⟩ := hbst
            obtain ⟨t2, h20, h21, et2⟩ := T r0 (by omega) hc0.2.1
            have ent2 : nt (σ 17 r0) = t2 := by rw [et2]; exact nt_nI (by omega)
            by_cases e4 : t1 < t2
            · refine s_iload dM_nextOrder_6 rfl ?_
              refine s_aload_n dM_nextOrder_8 rfl rfl ?_
              refine s_mgi dM_nextOrder_9 gf_M_138 rfl ?_
              refine s_top hR ?_
              refine s_icmp_ge dM_nextOrder_12 (fun q => absurd q (nI_ge hkR (by omega))) (fun _ => ?_)
              refine s_aload_n dM_nextOrder_15 rfl rfl ?_
              refine s_mga dM_nextOrder_16 gf_M_25 rfl ?_
              refine s_iload dM_nextOrder_19 rfl ?_
              refine s_mald dM_nextOrder_21 rfl rfl (show _ < 60 by omega) rfl ?_
              refine s_iload_n dM_nextOrder_22 rfl rfl ?_
              refine s_icmp_ne dM_nextOrder_23 (fun q => absurd e1 q) (fun _ => ?_)
              refine s_aload_n dM_nextOrder_26 rfl rfl ?_
              refine s_mga dM_nextOrder_27 gf_M_43 rfl ?_
              refine s_iload dM_nextOrder_30 rfl ?_
              refine s_mald dM_nextOrder_32 rfl rfl (show _ < 60 by omega) rfl ?_
              refine s_bipush (v := (-4)) dM_nextOrder_33 (by decide) ?_
              refine s_icmp_eq dM_nextOrder_35 (fun q => absurd q e2) (fun _ => ?_)
              refine s_aload_n dM_nextOrder_38 rfl rfl ?_
              refine s_mga dM_nextOrder_39 gf_M_49 rfl ?_
              refine s_iload dM_nextOrder_42 rfl ?_
              refine s_mald dM_nextOrder_44 rfl rfl (show _ < 60 by omega) rfl ?_
              refine s_top et ?_
              refine s_iload_n dM_nextOrder_45 rfl rfl ?_
              refine s_icmp_le dM_nextOrder_46 (fun q => absurd q (nI_ge e3 (by omega))) (fun _ => ?_)
              refine s_iload_n dM_nextOrder_49 rfl rfl ?_
              refine s_bipush (v := (-4)) dM_nextOrder_50 (by decide) ?_
              refine s_icmp_eq dM_nextOrder_52 (fun q => absurd q (nI_m4 (by omega))) (fun _ => ?_)
              refine s_aload_n dM_nextOrder_55 rfl rfl ?_
              refine s_mga dM_nextOrder_56 gf_M_49 rfl ?_
              refine s_iload dM_nextOrder_59 rfl ?_
              refine s_mald dM_nextOrder_61 rfl rfl (show _ < 60 by omega) rfl ?_
              refine s_top et ?_
              refine s_aload_n dM_nextOrder_62 rfl rfl ?_
              refine s_mga dM_nextOrder_63 gf_M_49 rfl ?_
              refine s_iload_n dM_nextOrder_66 rfl rfl ?_
              refine s_mald dM_nextOrder_67 rfl rfl (show _ < 60 by omega) rfl ?_
              refine s_top et2 ?_
              refine s_icmp_ge dM_nextOrder_68 (fun q => absurd q (nI_ge e4 (by omega))) (fun _ => ?_)
              exact take fun r hr hcr => by have := hm0 r hr hcr; omega
            · refine s_iload dM_nextOrder_6 rfl ?_
              refine s_aload_n dM_nextOrder_8 rfl rfl ?_
              refine s_mgi dM_nextOrder_9 gf_M_138 rfl ?_
              refine s_top hR ?_
              refine s_icmp_ge dM_nextOrder_12 (fun q => absurd q (nI_ge hkR (by omega))) (fun _ => ?_)
              refine s_aload_n dM_nextOrder_15 rfl rfl ?_
              refine s_mga dM_nextOrder_16 gf_M_25 rfl ?_
              refine s_iload dM_nextOrder_19 rfl ?_
              refine s_mald dM_nextOrder_21 rfl rfl (show _ < 60 by omega) rfl ?_
              refine s_iload_n dM_nextOrder_22 rfl rfl ?_
              refine s_icmp_ne dM_nextOrder_23 (fun q => absurd e1 q) (fun _ => ?_)
              refine s_aload_n dM_nextOrder_26 rfl rfl ?_
              refine s_mga dM_nextOrder_27 gf_M_43 rfl ?_
              refine s_iload dM_nextOrder_30 rfl ?_
              refine s_mald dM_nextOrder_32 rfl rfl (show _ < 60 by omega) rfl ?_
              refine s_bipush (v := (-4)) dM_nextOrder_33 (by decide) ?_
              refine s_icmp_eq dM_nextOrder_35 (fun q => absurd q e2) (fun _ => ?_)
              refine s_aload_n dM_nextOrder_38 rfl rfl ?_
              refine s_mga dM_nextOrder_39 gf_M_49 rfl ?_
              refine s_iload dM_nextOrder_42 rfl ?_
              refine s_mald dM_nextOrder_44 rfl rfl (show _ < 60 by omega) rfl ?_
              refine s_top et ?_
              refine s_iload_n dM_nextOrder_45 rfl rfl ?_
              refine s_icmp_le dM_nextOrder_46 (fun q => absurd q (nI_ge e3 (by omega))) (fun _ => ?_)
              refine s_iload_n dM_nextOrder_49 rfl rfl ?_
              refine s_bipush (v := (-4)) dM_nextOrder_50 (by decide) ?_
              refine s_icmp_eq dM_nextOrder_52 (fun q => absurd q (nI_m4 (by omega))) (fun _ => ?_)
              refine s_aload_n dM_nextOrder_55 rfl rfl ?_
              refine s_mga dM_nextOrder_56 gf_M_49 rfl ?_
              refine s_iload dM_nextOrder_59 rfl ?_
              refine s_mald dM_nextOrder_61 rfl rfl (show _ < 60 by omega) rfl ?_
              refine s_top et ?_
              refine s_aload_n dM_nextOrder_62 rfl rfl ?_
              refine s_mga dM_nextOrder_63 gf_M_49 rfl ?_
              refine s_iload_n dM_nextOrder_66 rfl rfl ?_
              refine s_mald dM_nextOrder_67 rfl rfl (show _ < 60 by omega) rfl ?_
              refine s_top et2 ?_
              refine s_icmp_ge dM_nextOrder_68 (fun _ => ?_) (fun q => absurd (nI_le (by omega) (by omega)) q)
              exact keep (fun r hr _ => by cases hr; omega) (fun q => by cases q)
        · refine s_iload dM_nextOrder_6 rfl ?_
          refine s_aload_n dM_nextOrder_8 rfl rfl ?_
          refine s_mgi dM_nextOrder_9 gf_M_138 rfl ?_
          refine s_top hR ?_
          refine s_icmp_ge dM_nextOrder_12 (fun q => absurd q (nI_ge hkR (by omega))) (fun _ => ?_)
          refine s_aload_n dM_nextOrder_15 rfl rfl ?_
          refine s_mga dM_nextOrder_16 gf_M_25 rfl ?_
          refine s_iload dM_nextOrder_19 rfl ?_
          refine s_mald dM_nextOrder_21 rfl rfl (show _ < 60 by omega) rfl ?_
          refine s_iload_n dM_nextOrder_22 rfl rfl ?_
          refine s_icmp_ne dM_nextOrder_23 (fun q => absurd e1 q) (fun _ => ?_)
          refine s_aload_n dM_nextOrder_26 rfl rfl ?_
          refine s_mga dM_nextOrder_27 gf_M_43 rfl ?_
          refine s_iload dM_nextOrder_30 rfl ?_
          refine s_mald dM_nextOrder_32 rfl rfl (show _ < 60 by omega) rfl ?_
          refine s_bipush (v := (-4)) dM_nextOrder_33 (by decide) ?_
          refine s_icmp_eq dM_nextOrder_35 (fun q => absurd q e2) (fun _ => ?_)
          refine s_aload_n dM_nextOrder_38 rfl rfl ?_
          refine s_mga dM_nextOrder_39 gf_M_49 rfl ?_
          refine s_iload dM_nextOrder_42 rfl ?_
          refine s_mald dM_nextOrder_44 rfl rfl (show _ < 60 by omega) rfl ?_
          refine s_top et ?_
          refine s_iload_n dM_nextOrder_45 rfl rfl ?_
          refine s_icmp_le dM_nextOrder_46 (fun _ => ?_) (fun q => absurd (nI_le (by omega) (by omega)) q)
          exact nc fun z => e3 (by rw [← ent]; exact z.2.2)
    · refine s_iload dM_nextOrder_6 rfl ?_
      refine s_aload_n dM_nextOrder_8 rfl rfl ?_
      refine s_mgi dM_nextOrder_9 gf_M_138 rfl ?_
      refine s_top hR ?_
      refine s_icmp_ge dM_nextOrder_12 (fun q => absurd q (nI_ge hkR (by omega))) (fun _ => ?_)
      refine s_aload_n dM_nextOrder_15 rfl rfl ?_
      refine s_mga dM_nextOrder_16 gf_M_25 rfl ?_
      refine s_iload dM_nextOrder_19 rfl ?_
      refine s_mald dM_nextOrder_21 rfl rfl (show _ < 60 by omega) rfl ?_
      refine s_iload_n dM_nextOrder_22 rfl rfl ?_
      refine s_icmp_ne dM_nextOrder_23 (fun _ => ?_) (fun q => absurd q e1)
      exact nc fun z => e1 z.1
theorem c_M_nextOrder {σ : Sg} {h : Hp} {R b t : Nat} (hR : σ 8 0 = nI R) (h60 : R ≤ 60) (T : TP σ R) (hB : ∀ r, r < R → ∃ c, c < 2 ^ 20 ∧ σ 9 r = nI c) (hb : b < 2 ^ 20) (ht : t < 2 ^ 20) : Con mM_nextOrder 0 0 0 [vR (100, 0, 0), vI (nI b), vI (nI t)] (hM σ h) (fun v h' => h' = hM σ h ∧ ∃ o, v = some (vI (oI o)) ∧ best σ b t R o) := by
  refine c_enter (by decide +kernel) rfl rfl ?_
  refine s_bipush (v := (-4)) dM_nextOrder_0 (by decide) ?_
  refine s_istore_n dM_nextOrder_2 rfl rfl ?_
  refine s_iconst (v := 0) dM_nextOrder_3 (by decide) ?_
  refine s_istore dM_nextOrder_4 rfl ?_
  exact l_M_nextOrder (B := 0) hR h60 T hB hb ht (fun o ho => ⟨rfl, o, rfl, ho⟩) R 0 none (by omega) (fun r hr => by omega)
