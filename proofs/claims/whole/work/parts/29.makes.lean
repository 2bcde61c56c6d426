/-! moves, makes, row -/
def mvR (w o r : Nat) (l : List Nat) : List Nat :=
  if r ∈ l ∧ (isAb w = true → o ∈ l) then
    (if w = 0 then (l.eraseIdx (l.idxOf r)).insertIdx 0 r
    else if w = 1 then (l.eraseIdx (l.idxOf r)).insertIdx (l.eraseIdx (l.idxOf r)).length r
    else if w = 2 then (l.eraseIdx (l.idxOf r)).insertIdx ((l.eraseIdx (l.idxOf r)).idxOf o) r
    else if w = 3 then (l.eraseIdx (l.idxOf r)).insertIdx ((l.eraseIdx (l.idxOf r)).idxOf o + 1) r
    else if w = 4 then ((l.eraseIdx (l.idxOf r)).eraseIdx ((l.eraseIdx (l.idxOf r)).idxOf o)).insertIdx ((l.eraseIdx (l.idxOf r)).idxOf o) r
    else l.eraseIdx (l.idxOf r))
  else l
theorem idx_get {l : List Nat} {r : Nat} (hr1 : r ∈ l) : l[l.idxOf r]? = some r := by
  have hl1 := List.idxOf_lt_length_of_mem hr1
  rw [List.getElem?_eq_getElem hl1]
  simp
theorem mem_erI {l : List Nat} {r o p : Nat} (hp1 : l[p]? = some r) (ho1 : o ∈ l) (hne1 : o ≠ r) : o ∈ l.eraseIdx p := by
  obtain ⟨i1, hi1⟩ := List.getElem?_of_mem ho1
  by_cases c1 : i1 < p
  · refine List.mem_of_getElem? (i := i1) ?_
    rw [List.getElem?_eraseIdx, if_pos c1]
    exact hi1
  · have c2 : i1 ≠ p := fun z1 => hne1 (by rw [z1, hp1] at hi1; exact (Option.some.inj hi1).symm)
    refine List.mem_of_getElem? (i := i1 - 1) ?_
    rw [List.getElem?_eraseIdx, if_neg (by omega), show i1 - 1 + 1 = i1 by omega]
    exact hi1
theorem mem_of_erI {l : List Nat} {p x : Nat} (hx1 : x ∈ l.eraseIdx p) : x ∈ l := by
  obtain ⟨i1, hi1⟩ := List.getElem?_of_mem hx1
  rw [List.getElem?_eraseIdx] at hi1
  split at hi1
  · exact List.mem_of_getElem? hi1
  · exact List.mem_of_getElem? hi1
theorem mem_of_inI {l : List Nat} {p r x : Nat} (hx1 : x ∈ l.insertIdx p r) : x = r ∨ x ∈ l := by
  obtain ⟨i1, hi1⟩ := List.getElem?_of_mem hx1
  rw [List.getElem?_insertIdx] at hi1
  split at hi1
  · exact Or.inr (List.mem_of_getElem? hi1)
  · split at hi1
    · split at hi1
      · cases hi1; exact Or.inl rfl
      · cases hi1
    · exact Or.inr (List.mem_of_getElem? hi1)
theorem mv_mem {w o r : Nat} {l : List Nat} {x : Nat} (hx1 : x ∈ mvR w o r l) : x = r ∨ x ∈ l := by
  unfold mvR at hx1
  split at hx1
  · repeat' split at hx1
    all_goals first
      | (rcases mem_of_inI hx1 with c1 | c1
         · exact Or.inl c1
         · first
             | exact Or.inr (mem_of_erI (mem_of_erI c1))
             | exact Or.inr (mem_of_erI c1))
      | exact Or.inr (mem_of_erI hx1)
  · exact Or.inr hx1
theorem er_len {l : List Nat} {r : Nat} (hr1 : r ∈ l) : (l.eraseIdx (l.idxOf r)).length + 1 = l.length := by
  have hl1 := List.idxOf_lt_length_of_mem hr1
  rw [List.length_eraseIdx_of_lt hl1]
  omega
theorem in_len {l : List Nat} {p r : Nat} : (l.insertIdx p r).length ≤ l.length + 1 := by
  by_cases c1 : p ≤ l.length
  · rw [List.length_insertIdx_of_le_length c1]; omega
  · rw [List.insertIdx_of_length_lt (by omega)]; omega
theorem mv_len {w o r : Nat} {l : List Nat} : (mvR w o r l).length ≤ l.length := by
  unfold mvR
  split
  · rename_i c1
    have e1 := er_len c1.1
    have e2 : ∀ p1 x1 : Nat, ((l.eraseIdx (l.idxOf r)).insertIdx p1 x1).length ≤ l.length := fun p1 x1 => by have := in_len (l := l.eraseIdx (l.idxOf r)) (p := p1) (r := x1); omega
    have e3 : ∀ p1 : Nat, ((l.eraseIdx (l.idxOf r)).eraseIdx p1).length ≤ (l.eraseIdx (l.idxOf r)).length := fun p1 => List.length_eraseIdx_le ..
    repeat' split
    all_goals first
      | exact e2 _ _
      | (refine Nat.le_trans in_len ?_
         have := e3 ((l.eraseIdx (l.idxOf r)).idxOf o)
         omega)
      | omega
  · exact Nat.le_refl _
/-- told orders are good -/
def OP (σ : Sg) (R : Nat) : Prop := ∀ r, r < R → ¬ σ 15 r = -4 → ∃ w, w ≤ 5 ∧ σ 15 r = nI w ∧ (isAb w = true → ∃ o, o < R ∧ o ≠ r ∧ σ 16 r = nI o)
abbrev mvS (σ : Sg) (r : Nat) (l : List Nat) : List Nat := mvR (nt (σ 15 r)) (nt (σ 16 r)) r l
theorem zi_t : zi true = 1 := rfl
theorem zi_f : zi false = 0 := rfl
theorem c_M_moves {σ : Sg} {h : Hp} {l : List Nat} {R r w o : Nat} (M0 : Md σ l) (h60 : l.length ≤ 60) (hR : R ≤ 60) (hb : ∀ x ∈ l, x < R) (hr : r < R) (hw : w ≤ 5) (ew : σ 15 r = nI w) (ho : isAb w = true → o < R ∧ o ≠ r ∧ σ 16 r = nI o) : Con mM_moves 1 0 0 [vR (100, 0, 0), vI (nI r)] (hM σ h) (fun v h' => v = none ∧ ∃ σ', h' = hM σ' h ∧ sm σ σ' ∧ Md σ' (mvR w o r l)) := by
  have hb60 : ∀ x ∈ l, x < 60 := fun x hx1 => by have := hb x hx1; omega
  refine c_enter (by decide +kernel) rfl rfl ?_
  by_cases c1 : r ∈ l
  case neg =>
    have ep : plc l r = -4 := if_neg c1
    refine s_aload_n dM_moves_0 rfl rfl ?_
    refine s_iload_n dM_moves_1 rfl rfl ?_
    refine s_v1 dM_moves_2 cv_M_175 hM_o (c_M_placeOf M0 h60 hb60 (by omega)) rfl rfl rfl rfl ?_
    refine s_top ep ?_
    refine s_istore_n dM_moves_5 rfl rfl ?_
    refine s_aload_n dM_moves_6 rfl rfl ?_
    refine s_mga dM_moves_7 gf_M_43 rfl ?_
    refine s_iload_n dM_moves_10 rfl rfl ?_
    refine s_mald dM_moves_11 rfl rfl (show _ < 60 by omega) rfl ?_
    refine s_top ew ?_
    refine s_istore_n dM_moves_12 rfl rfl ?_
    refine s_iload_n dM_moves_13 rfl rfl ?_
    refine s_iconst (v := nI 2) dM_moves_14 (by decide) ?_
    refine s_iconst (v := nI 4) dM_moves_15 (by decide) ?_
    refine s_t3 dM_moves_16 cs_M_117 (c_in24 (by omega)) rfl rfl rfl rfl ?_
    refine s_istore dM_moves_19 rfl ?_
    refine s_iload_n dM_moves_21 rfl rfl ?_
    refine s_bipush (v := (-4)) dM_moves_22 (by decide) ?_
    refine s_icmp_eq dM_moves_24 (fun _ => ?_) (fun q => absurd rfl q)
    refine s_vret dM_moves_47 rfl (by first | exact Nat.le_refl _ | decide | omega) (by first | exact Nat.le_refl _ | decide | omega) ?_
    refine ⟨rfl, σ, rfl, sm.rf, ?_⟩
    rw [mvR, if_neg fun z1 => c1 z1.1]
    exact M0
  have ep : plc l r = nI (l.idxOf r) := if_pos c1
  have hix := List.idxOf_lt_length_of_mem c1
  have e1 := er_len c1
  cases hab : isAb w with
  | false =>
    have mvE : mvR w o r l = (if w = 0 then (l.eraseIdx (l.idxOf r)).insertIdx 0 r else if w = 1 then (l.eraseIdx (l.idxOf r)).insertIdx (l.eraseIdx (l.idxOf r)).length r else l.eraseIdx (l.idxOf r)) := by
      unfold mvR
      rw [if_pos ⟨c1, fun z1 => by rw [hab] at z1; cases z1⟩]
      by_cases w0 : w = 0
      · rw [if_pos w0, if_pos w0]
      · rw [if_neg w0, if_neg w0]
        by_cases w1 : w = 1
        · rw [if_pos w1, if_pos w1]
        · have w5 : w = 5 := by simp [isAb] at hab; omega
          rw [if_neg w1, if_neg w1, if_neg (by omega), if_neg (by omega), if_neg (by omega)]
    refine s_aload_n dM_moves_0 rfl rfl ?_
    refine s_iload_n dM_moves_1 rfl rfl ?_
    refine s_v1 dM_moves_2 cv_M_175 hM_o (c_M_placeOf M0 h60 hb60 (by omega)) rfl rfl rfl rfl ?_
    refine s_top ep ?_
    refine s_istore_n dM_moves_5 rfl rfl ?_
    refine s_aload_n dM_moves_6 rfl rfl ?_
    refine s_mga dM_moves_7 gf_M_43 rfl ?_
    refine s_iload_n dM_moves_10 rfl rfl ?_
    refine s_mald dM_moves_11 rfl rfl (show _ < 60 by omega) rfl ?_
    refine s_top ew ?_
    refine s_istore_n dM_moves_12 rfl rfl ?_
    refine s_iload_n dM_moves_13 rfl rfl ?_
    refine s_iconst (v := nI 2) dM_moves_14 (by decide) ?_
    refine s_iconst (v := nI 4) dM_moves_15 (by decide) ?_
    refine s_t3 dM_moves_16 cs_M_117 (c_in24 (by omega)) rfl rfl rfl rfl ?_
    refine s_istore dM_moves_19 rfl ?_
    refine s_iload_n dM_moves_21 rfl rfl ?_
    refine s_bipush (v := (-4)) dM_moves_22 (by decide) ?_
    refine s_icmp_eq dM_moves_24 (fun q => absurd q (nI_m4 (by omega))) (fun _ => ?_)
    refine s_iload dM_moves_27 rfl ?_
    refine s_if_eq dM_moves_29 (fun _ => ?_) (fun q => absurd (by rw [hab]; rfl) q)
    refine s_aload_n dM_moves_48 rfl rfl ?_
    refine s_iload_n dM_moves_49 rfl rfl ?_
    refine s_callV (As := [_]) dM_moves_50 cv_M_178 hM_o (c_M_goes M0 h60 hix) rfl rfl rfl rfl (fun v h' q => ?_)
    obtain ⟨rfl, σ1, rfl, s1, M1⟩ := q
    by_cases w0 : w = 0
    · subst w0
      refine s_iload dM_moves_53 rfl ?_
      refine s_if_eq dM_moves_55 (fun _ => ?_) (fun q => absurd (by rw [hab]; rfl) q)
      refine s_iconst (v := 0) dM_moves_71 (by decide) ?_
      refine s_istore dM_moves_72 rfl ?_
      refine s_iload_n dM_moves_74 rfl rfl ?_
      refine s_iconst (v := nI 4) dM_moves_75 (by decide) ?_
      refine s_icmp_ne dM_moves_76 (fun _ => ?_) (fun q => absurd q (by decide))
      refine s_iload_n dM_moves_85 rfl rfl ?_
      refine s_iconst (v := nI 5) dM_moves_86 (by decide) ?_
      refine s_icmp_eq dM_moves_87 (fun q => absurd q (by decide)) (fun _ => ?_)
      refine s_aload_n dM_moves_90 rfl rfl ?_
      refine s_iload_n dM_moves_91 rfl rfl ?_
      refine s_iload_n dM_moves_92 rfl rfl ?_
      refine s_if_ne dM_moves_93 (fun q => absurd rfl q) (fun _ => ?_)
      refine s_iconst (v := 0) dM_moves_96 (by decide) ?_
      refine s_goto dM_moves_97 ?_
      refine s_callV (As := [_, _]) dM_moves_126 cv_M_163 hM_o (c_M_comes (p := 0) M1 (by omega) (Nat.zero_le _)) rfl rfl rfl rfl (fun v h' q => ?_)
      obtain ⟨rfl, σ2, rfl, s2, M2⟩ := q
      refine s_vret dM_moves_129 rfl (by first | exact Nat.le_refl _ | decide | omega) (by first | exact Nat.le_refl _ | decide | omega) ?_
      refine ⟨rfl, σ2, rfl, s1.tr s2, ?_⟩
      rw [mvE, if_pos rfl]
      exact M2
    · by_cases w1 : w = 1
      · subst w1
        refine s_iload dM_moves_53 rfl ?_
        refine s_if_eq dM_moves_55 (fun _ => ?_) (fun q => absurd (by rw [hab]; rfl) q)
        refine s_iconst (v := 0) dM_moves_71 (by decide) ?_
        refine s_istore dM_moves_72 rfl ?_
        refine s_iload_n dM_moves_74 rfl rfl ?_
        refine s_iconst (v := nI 4) dM_moves_75 (by decide) ?_
        refine s_icmp_ne dM_moves_76 (fun _ => ?_) (fun q => absurd q (by decide))
        refine s_iload_n dM_moves_85 rfl rfl ?_
        refine s_iconst (v := nI 5) dM_moves_86 (by decide) ?_
        refine s_icmp_eq dM_moves_87 (fun q => absurd q (by decide)) (fun _ => ?_)
        refine s_aload_n dM_moves_90 rfl rfl ?_
        refine s_iload_n dM_moves_91 rfl rfl ?_
        refine s_iload_n dM_moves_92 rfl rfl ?_
        refine s_if_ne dM_moves_93 (fun _ => ?_) (fun q => absurd q (by decide))
        refine s_iload_n dM_moves_100 rfl rfl ?_
        refine s_iconst (v := 1) dM_moves_101 (by decide) ?_
        refine s_icmp_ne dM_moves_102 (fun q => absurd rfl q) (fun _ => ?_)
        refine s_aload_n dM_moves_105 rfl rfl ?_
        refine s_mgi dM_moves_106 gf_M_157 rfl ?_
        refine s_top M1.1 ?_
        refine s_goto dM_moves_109 ?_
        refine s_callV (As := [_, _]) dM_moves_126 cv_M_163 hM_o (c_M_comes (p := (l.eraseIdx (l.idxOf r)).length) M1 (by omega) (Nat.le_refl _)) rfl rfl rfl rfl (fun v h' q => ?_)
        obtain ⟨rfl, σ2, rfl, s2, M2⟩ := q
        refine s_vret dM_moves_129 rfl (by first | exact Nat.le_refl _ | decide | omega) (by first | exact Nat.le_refl _ | decide | omega) ?_
        refine ⟨rfl, σ2, rfl, s1.tr s2, ?_⟩
        rw [mvE, if_neg w0, if_pos rfl]
        exact M2
      · have w5 : w = 5 := by simp [isAb] at hab; omega
        subst w5
        refine s_iload dM_moves_53 rfl ?_
        refine s_if_eq dM_moves_55 (fun _ => ?_) (fun q => absurd (by rw [hab]; rfl) q)
        refine s_iconst (v := 0) dM_moves_71 (by decide) ?_
        refine s_istore dM_moves_72 rfl ?_
        refine s_iload_n dM_moves_74 rfl rfl ?_
        refine s_iconst (v := nI 4) dM_moves_75 (by decide) ?_
        refine s_icmp_ne dM_moves_76 (fun _ => ?_) (fun q => absurd q (by decide))
        refine s_iload_n dM_moves_85 rfl rfl ?_
        refine s_iconst (v := nI 5) dM_moves_86 (by decide) ?_
        refine s_icmp_eq dM_moves_87 (fun _ => ?_) (fun q => absurd rfl q)
        refine s_vret dM_moves_129 rfl (by first | exact Nat.le_refl _ | decide | omega) (by first | exact Nat.le_refl _ | decide | omega) ?_
        refine ⟨rfl, σ1, rfl, s1, ?_⟩
        rw [mvE, if_neg w0, if_neg w1]
        exact M1
  | true =>
    obtain ⟨ho1, ho2, eo⟩ := ho hab
    by_cases c2 : o ∈ l
    case neg =>
      have ep2 : plc l o = -4 := if_neg c2
      refine s_aload_n dM_moves_0 rfl rfl ?_
      refine s_iload_n dM_moves_1 rfl rfl ?_
      refine s_v1 dM_moves_2 cv_M_175 hM_o (c_M_placeOf M0 h60 hb60 (by omega)) rfl rfl rfl rfl ?_
      refine s_top ep ?_
      refine s_istore_n dM_moves_5 rfl rfl ?_
      refine s_aload_n dM_moves_6 rfl rfl ?_
      refine s_mga dM_moves_7 gf_M_43 rfl ?_
      refine s_iload_n dM_moves_10 rfl rfl ?_
      refine s_mald dM_moves_11 rfl rfl (show _ < 60 by omega) rfl ?_
      refine s_top ew ?_
      refine s_istore_n dM_moves_12 rfl rfl ?_
      refine s_iload_n dM_moves_13 rfl rfl ?_
      refine s_iconst (v := nI 2) dM_moves_14 (by decide) ?_
      refine s_iconst (v := nI 4) dM_moves_15 (by decide) ?_
      refine s_t3 dM_moves_16 cs_M_117 (c_in24 (by omega)) rfl rfl rfl rfl ?_
      refine s_istore dM_moves_19 rfl ?_
      refine s_iload_n dM_moves_21 rfl rfl ?_
      refine s_bipush (v := (-4)) dM_moves_22 (by decide) ?_
      refine s_icmp_eq dM_moves_24 (fun q => absurd q (nI_m4 (by omega))) (fun _ => ?_)
      refine s_iload dM_moves_27 rfl ?_
      refine s_if_eq dM_moves_29 (fun q => absurd q (by rw [hab]; decide)) (fun _ => ?_)
      refine s_aload_n dM_moves_32 rfl rfl ?_
      refine s_aload_n dM_moves_33 rfl rfl ?_
      refine s_mga dM_moves_34 gf_M_46 rfl ?_
      refine s_iload_n dM_moves_37 rfl rfl ?_
      refine s_mald dM_moves_38 rfl rfl (show _ < 60 by omega) rfl ?_
      refine s_top eo ?_
      refine s_v1 dM_moves_39 cv_M_175 hM_o (c_M_placeOf M0 h60 hb60 (r := o) (by omega)) rfl rfl rfl rfl ?_
      refine s_top ep2 ?_
      refine s_bipush (v := (-4)) dM_moves_42 (by decide) ?_
      refine s_icmp_ne dM_moves_44 (fun q => absurd rfl q) (fun _ => ?_)
      refine s_vret dM_moves_47 rfl (by first | exact Nat.le_refl _ | decide | omega) (by first | exact Nat.le_refl _ | decide | omega) ?_
      refine ⟨rfl, σ, rfl, sm.rf, ?_⟩
      rw [mvR, if_neg fun z1 => c2 (z1.2 hab)]
      exact M0
    have hix2 := List.idxOf_lt_length_of_mem c2
    have ep2 : plc l o = nI (l.idxOf o) := if_pos c2
    have c3 : o ∈ l.eraseIdx (l.idxOf r) := mem_erI (idx_get c1) c2 ho2
    have hix3 := List.idxOf_lt_length_of_mem c3
    have ep3 : plc (l.eraseIdx (l.idxOf r)) o = nI ((l.eraseIdx (l.idxOf r)).idxOf o) := if_pos c3
    have hb1 : ∀ x ∈ l.eraseIdx (l.idxOf r), x < 60 := fun x hx1 => hb60 x (mem_of_erI hx1)
    have mvE : mvR w o r l = (if w = 2 then (l.eraseIdx (l.idxOf r)).insertIdx ((l.eraseIdx (l.idxOf r)).idxOf o) r else if w = 3 then (l.eraseIdx (l.idxOf r)).insertIdx ((l.eraseIdx (l.idxOf r)).idxOf o + 1) r else ((l.eraseIdx (l.idxOf r)).eraseIdx ((l.eraseIdx (l.idxOf r)).idxOf o)).insertIdx ((l.eraseIdx (l.idxOf r)).idxOf o) r) := by
      simp only [isAb, Bool.and_eq_true, decide_eq_true_eq] at hab
      unfold mvR
      rw [if_pos ⟨c1, fun _ => c2⟩, if_neg (by omega), if_neg (by omega)]
      by_cases w2 : w = 2
      · rw [if_pos w2, if_pos w2]
      · rw [if_neg w2, if_neg w2]
        by_cases w3 : w = 3
        · rw [if_pos w3, if_pos w3]
        · rw [if_neg w3, if_neg w3, if_pos (by omega)]
    refine s_aload_n dM_moves_0 rfl rfl ?_
    refine s_iload_n dM_moves_1 rfl rfl ?_
    refine s_v1 dM_moves_2 cv_M_175 hM_o (c_M_placeOf M0 h60 hb60 (by omega)) rfl rfl rfl rfl ?_
    refine s_top ep ?_
    refine s_istore_n dM_moves_5 rfl rfl ?_
    refine s_aload_n dM_moves_6 rfl rfl ?_
    refine s_mga dM_moves_7 gf_M_43 rfl ?_
    refine s_iload_n dM_moves_10 rfl rfl ?_
    refine s_mald dM_moves_11 rfl rfl (show _ < 60 by omega) rfl ?_
    refine s_top ew ?_
    refine s_istore_n dM_moves_12 rfl rfl ?_
    refine s_iload_n dM_moves_13 rfl rfl ?_
    refine s_iconst (v := nI 2) dM_moves_14 (by decide) ?_
    refine s_iconst (v := nI 4) dM_moves_15 (by decide) ?_
    refine s_t3 dM_moves_16 cs_M_117 (c_in24 (by omega)) rfl rfl rfl rfl ?_
    refine s_istore dM_moves_19 rfl ?_
    refine s_iload_n dM_moves_21 rfl rfl ?_
    refine s_bipush (v := (-4)) dM_moves_22 (by decide) ?_
    refine s_icmp_eq dM_moves_24 (fun q => absurd q (nI_m4 (by omega))) (fun _ => ?_)
    refine s_iload dM_moves_27 rfl ?_
    refine s_if_eq dM_moves_29 (fun q => absurd q (by rw [hab]; decide)) (fun _ => ?_)
    refine s_aload_n dM_moves_32 rfl rfl ?_
    refine s_aload_n dM_moves_33 rfl rfl ?_
    refine s_mga dM_moves_34 gf_M_46 rfl ?_
    refine s_iload_n dM_moves_37 rfl rfl ?_
    refine s_mald dM_moves_38 rfl rfl (show _ < 60 by omega) rfl ?_
    refine s_top eo ?_
    refine s_v1 dM_moves_39 cv_M_175 hM_o (c_M_placeOf M0 h60 hb60 (r := o) (by omega)) rfl rfl rfl rfl ?_
    refine s_top ep2 ?_
    refine s_bipush (v := (-4)) dM_moves_42 (by decide) ?_
    refine s_icmp_ne dM_moves_44 (fun _ => ?_) (fun q => absurd q (nI_m4 (by omega)))
    refine s_aload_n dM_moves_48 rfl rfl ?_
    refine s_iload_n dM_moves_49 rfl rfl ?_
    refine s_callV (As := [_]) dM_moves_50 cv_M_178 hM_o (c_M_goes M0 h60 hix) rfl rfl rfl rfl (fun v h' q => ?_)
    obtain ⟨rfl, σ1, rfl, s1, M1⟩ := q
    have eo1 : σ1 16 r = nI o := (s1 16 r (by decide) (by decide)).trans eo
    by_cases w2 : w = 2
    · subst w2
      refine s_iload dM_moves_53 rfl ?_
      refine s_if_eq dM_moves_55 (fun q => absurd q (by rw [hab]; decide)) (fun _ => ?_)
      refine s_aload_n dM_moves_58 rfl rfl ?_
      refine s_aload_n dM_moves_59 rfl rfl ?_
      refine s_mga dM_moves_60 gf_M_46 rfl ?_
      refine s_iload_n dM_moves_63 rfl rfl ?_
      refine s_mald dM_moves_64 rfl rfl (show _ < 60 by omega) rfl ?_
      refine s_top eo1 ?_
      refine s_v1 dM_moves_65 cv_M_175 hM_o (c_M_placeOf M1 (by omega) hb1 (r := o) (by omega)) rfl rfl rfl rfl ?_
      refine s_top ep3 ?_
      refine s_goto dM_moves_68 ?_
      refine s_istore dM_moves_72 rfl ?_
      refine s_iload_n dM_moves_74 rfl rfl ?_
      refine s_iconst (v := nI 4) dM_moves_75 (by decide) ?_
      refine s_icmp_ne dM_moves_76 (fun _ => ?_) (fun q => absurd q (by decide))
      refine s_iload_n dM_moves_85 rfl rfl ?_
      refine s_iconst (v := nI 5) dM_moves_86 (by decide) ?_
      refine s_icmp_eq dM_moves_87 (fun q => absurd q (by decide)) (fun _ => ?_)
      refine s_aload_n dM_moves_90 rfl rfl ?_
      refine s_iload_n dM_moves_91 rfl rfl ?_
      refine s_iload_n dM_moves_92 rfl rfl ?_
      refine s_if_ne dM_moves_93 (fun _ => ?_) (fun q => absurd q (by decide))
      refine s_iload_n dM_moves_100 rfl rfl ?_
      refine s_iconst (v := 1) dM_moves_101 (by decide) ?_
      refine s_icmp_ne dM_moves_102 (fun _ => ?_) (fun q => absurd q (by decide))
      refine s_iload_n dM_moves_112 rfl rfl ?_
      refine s_iconst (v := nI 3) dM_moves_113 (by decide) ?_
      refine s_icmp_ne dM_moves_114 (fun _ => ?_) (fun q => absurd q (by decide))
      refine s_iload dM_moves_124 rfl ?_
      refine s_callV (As := [_, _]) dM_moves_126 cv_M_163 hM_o (c_M_comes (p := (l.eraseIdx (l.idxOf r)).idxOf o) M1 (by omega) (by omega)) rfl rfl rfl rfl (fun v h' q => ?_)
      obtain ⟨rfl, σ2, rfl, s2, M2⟩ := q
      refine s_vret dM_moves_129 rfl (by first | exact Nat.le_refl _ | decide | omega) (by first | exact Nat.le_refl _ | decide | omega) ?_
      refine ⟨rfl, σ2, rfl, s1.tr s2, ?_⟩
      rw [mvE, if_pos rfl]
      exact M2
    · by_cases w3 : w = 3
      · subst w3
        refine s_iload dM_moves_53 rfl ?_
        refine s_if_eq dM_moves_55 (fun q => absurd q (by rw [hab]; decide)) (fun _ => ?_)
        refine s_aload_n dM_moves_58 rfl rfl ?_
        refine s_aload_n dM_moves_59 rfl rfl ?_
        refine s_mga dM_moves_60 gf_M_46 rfl ?_
        refine s_iload_n dM_moves_63 rfl rfl ?_
        refine s_mald dM_moves_64 rfl rfl (show _ < 60 by omega) rfl ?_
        refine s_top eo1 ?_
        refine s_v1 dM_moves_65 cv_M_175 hM_o (c_M_placeOf M1 (by omega) hb1 (r := o) (by omega)) rfl rfl rfl rfl ?_
        refine s_top ep3 ?_
        refine s_goto dM_moves_68 ?_
        refine s_istore dM_moves_72 rfl ?_
        refine s_iload_n dM_moves_74 rfl rfl ?_
        refine s_iconst (v := nI 4) dM_moves_75 (by decide) ?_
        refine s_icmp_ne dM_moves_76 (fun _ => ?_) (fun q => absurd q (by decide))
        refine s_iload_n dM_moves_85 rfl rfl ?_
        refine s_iconst (v := nI 5) dM_moves_86 (by decide) ?_
        refine s_icmp_eq dM_moves_87 (fun q => absurd q (by decide)) (fun _ => ?_)
        refine s_aload_n dM_moves_90 rfl rfl ?_
        refine s_iload_n dM_moves_91 rfl rfl ?_
        refine s_iload_n dM_moves_92 rfl rfl ?_
        refine s_if_ne dM_moves_93 (fun _ => ?_) (fun q => absurd q (by decide))
        refine s_iload_n dM_moves_100 rfl rfl ?_
        refine s_iconst (v := 1) dM_moves_101 (by decide) ?_
        refine s_icmp_ne dM_moves_102 (fun _ => ?_) (fun q => absurd q (by decide))
        refine s_iload_n dM_moves_112 rfl rfl ?_
        refine s_iconst (v := nI 3) dM_moves_113 (by decide) ?_
        refine s_icmp_ne dM_moves_114 (fun q => absurd rfl q) (fun _ => ?_)
        refine s_iload dM_moves_117 rfl ?_
        refine s_iconst (v := nI 1) dM_moves_119 (by decide) ?_
        first | refine s_iaddN dM_moves_120 ?_ | refine s_iadd dM_moves_120 ?_
        refine s_goto dM_moves_121 ?_
        refine s_callV (As := [_, _]) dM_moves_126 cv_M_163 hM_o (c_M_comes (p := (l.eraseIdx (l.idxOf r)).idxOf o + 1) M1 (by omega) (by omega)) rfl rfl rfl rfl (fun v h' q => ?_)
        obtain ⟨rfl, σ2, rfl, s2, M2⟩ := q
        refine s_vret dM_moves_129 rfl (by first | exact Nat.le_refl _ | decide | omega) (by first | exact Nat.le_refl _ | decide | omega) ?_
        refine ⟨rfl, σ2, rfl, s1.tr s2, ?_⟩
        rw [mvE, if_neg w2, if_pos rfl]
        exact M2
      · have w4 : w = 4 := by simp [isAb] at hab; omega
        subst w4
        refine s_iload dM_moves_53 rfl ?_
        refine s_if_eq dM_moves_55 (fun q => absurd q (by rw [hab]; decide)) (fun _ => ?_)
        refine s_aload_n dM_moves_58 rfl rfl ?_
        refine s_aload_n dM_moves_59 rfl rfl ?_
        refine s_mga dM_moves_60 gf_M_46 rfl ?_
        refine s_iload_n dM_moves_63 rfl rfl ?_
        refine s_mald dM_moves_64 rfl rfl (show _ < 60 by omega) rfl ?_
        refine s_top eo1 ?_
        refine s_v1 dM_moves_65 cv_M_175 hM_o (c_M_placeOf M1 (by omega) hb1 (r := o) (by omega)) rfl rfl rfl rfl ?_
        refine s_top ep3 ?_
        refine s_goto dM_moves_68 ?_
        refine s_istore dM_moves_72 rfl ?_
        refine s_iload_n dM_moves_74 rfl rfl ?_
        refine s_iconst (v := nI 4) dM_moves_75 (by decide) ?_
        refine s_icmp_ne dM_moves_76 (fun q => absurd rfl q) (fun _ => ?_)
        refine s_aload_n dM_moves_79 rfl rfl ?_
        refine s_iload dM_moves_80 rfl ?_
        refine s_callV (As := [_]) dM_moves_82 cv_M_178 hM_o (c_M_goes M1 (by omega) hix3) rfl rfl rfl rfl (fun v h' q => ?_)
        obtain ⟨rfl, σ2, rfl, s2, M2⟩ := q
        have e2 := List.length_eraseIdx_of_lt hix3
        refine s_iload_n dM_moves_85 rfl rfl ?_
        refine s_iconst (v := nI 5) dM_moves_86 (by decide) ?_
        refine s_icmp_eq dM_moves_87 (fun q => absurd q (by decide)) (fun _ => ?_)
        refine s_aload_n dM_moves_90 rfl rfl ?_
        refine s_iload_n dM_moves_91 rfl rfl ?_
        refine s_iload_n dM_moves_92 rfl rfl ?_
        refine s_if_ne dM_moves_93 (fun _ => ?_) (fun q => absurd q (by decide))
        refine s_iload_n dM_moves_100 rfl rfl ?_
        refine s_iconst (v := 1) dM_moves_101 (by decide) ?_
        refine s_icmp_ne dM_moves_102 (fun _ => ?_) (fun q => absurd q (by decide))
        refine s_iload_n dM_moves_112 rfl rfl ?_
        refine s_iconst (v := nI 3) dM_moves_113 (by decide) ?_
        refine s_icmp_ne dM_moves_114 (fun _ => ?_) (fun q => absurd q (by decide))
        refine s_iload dM_moves_124 rfl ?_
        refine s_callV (As := [_, _]) dM_moves_126 cv_M_163 hM_o (c_M_comes (p := (l.eraseIdx (l.idxOf r)).idxOf o) M2 (by omega) (by omega)) rfl rfl rfl rfl (fun v h' q => ?_)
        obtain ⟨rfl, σ3, rfl, s3, M3⟩ := q
        refine s_vret dM_moves_129 rfl (by first | exact Nat.le_refl _ | decide | omega) (by first | exact Nat.le_refl _ | decide | omega) ?_
        refine ⟨rfl, σ3, rfl, (s1.tr s2).tr s3, ?_⟩
        rw [mvE, if_neg w2, if_neg w3]
        exact M3
