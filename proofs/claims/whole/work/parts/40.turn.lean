/-! the scenes of a turn -/
def eOf (σ : Sg) (s : Nat) : Nat := if σ 42 s = 1 then 2 * s + 1 else 2 * s
abbrev evN (σ : Sg) : Nat := nt (σ 49 0)
def stp (σ : Sg) (s : Nat) : Sg :=
  if (σ 42 s = 1 ∨ σ 43 s = 0 ∨ σ 41 s = 1) ∧ isEv σ (nI (eOf σ s)) (evN σ) = false ∧ met σ (eOf σ s) (evN σ) = true then
    (if σ 42 s = 1 then us (us (us (us σ 48 (evN σ) (nI (eOf σ s))) 49 0 (nI (evN σ + 1))) 43 s (σ 43 s + 0)) 42 s 0
    else us (us (us (us σ 48 (evN σ) (nI (eOf σ s))) 49 0 (nI (evN σ + 1))) 43 s (σ 43 s + nI 1)) 42 s 1)
  else σ
def rndF : Nat → Nat → Sg → Sg
  | 0, _, σ => σ
  | n + 1, s, σ => rndF n (s + 1) (stp σ s)
def rnds (NS : Nat) : Nat → Sg → Sg
  | 0, σ => σ
  | f + 1, σ => if rndF NS 0 σ 49 0 = σ 49 0 then rndF NS 0 σ else rnds NS f (rndF NS 0 σ)
/-- the fields that a turn's scenes write -/
def tk (k : Nat) : Bool := decide (k = 42 ∨ k = 43 ∨ k = 48 ∨ k = 49)
def st (σ σ' : Sg) : Prop := ∀ k j, tk k = false → σ' k j = σ k j
theorem st.rf {σ : Sg} : st σ σ := fun _ _ _ => rfl
theorem st.tr {a b c : Sg} (h1 : st a b) (h2 : st b c) : st a c := fun k j q1 => (h2 k j q1).trans (h1 k j q1)
theorem st.us {σ0 σ : Sg} {k j : Nat} {x : Int32} (h1 : st σ0 σ) (hk1 : tk k = true) : st σ0 (us σ k j x) := fun k' j' q1 => by
  have c1 : k' ≠ k := fun z1 => by rw [z1, hk1] at q1; cases q1
  rw [us_k c1]
  exact h1 k' j' q1
/-- what holds in a turn: the events L so far -/
def TI (σ : Sg) (NS : Nat) (L : List Nat) : Prop := NS ≤ 8 ∧ L.Nodup ∧ (∀ x ∈ L, x < 2 * NS) ∧ σ 49 0 = nI L.length ∧ (∀ i x, L[i]? = some x → σ 48 i = nI x) ∧ ∀ s, s < NS → σ 42 s = 0 ∨ σ 42 s = 1
theorem TI.len {σ : Sg} {NS : Nat} {L : List Nat} (I : TI σ NS L) : L.length ≤ 2 * NS := nd_len _ _ I.2.1 I.2.2.1
theorem TI.evN {σ : Sg} {NS : Nat} {L : List Nat} (I : TI σ NS L) : evN σ = L.length := by
  have h1 := I.len
  have h2 := I.1
  show nt (σ 49 0) = _
  rw [I.2.2.2.1, nt_nI (by omega)]
theorem TI.new {σ : Sg} {NS e : Nat} {L : List Nat} (I : TI σ NS L) (he : isEv σ (nI e) L.length = false) : e ∉ L := fun q1 => by
  obtain ⟨i, hi1⟩ := List.getElem?_of_mem q1
  have h1 := (List.getElem?_eq_some_iff.mp hi1).1
  rw [isEv_of h1 (I.2.2.2.2.1 i e hi1)] at he
  cases he
theorem TI.add {σ : Sg} {NS e s : Nat} {L : List Nat} {x y : Int32} (I : TI σ NS L) (he : e < 2 * NS) (hn : e ∉ L) (hy : y = 0 ∨ y = 1) : TI (us (us (us (us σ 48 L.length (nI e)) 49 0 (nI (L.length + 1))) 43 s x) 42 s y) NS (L ++ [e]) := by
  obtain ⟨i1, i2, i3, i4, i5, i6⟩ := I
  refine ⟨i1, ?_, fun x hx1 => ?_, ?_, fun i z hz1 => ?_, fun j hj1 => ?_⟩
  · refine List.nodup_append.mpr ⟨i2, by simp, fun a ha1 b hb1 z1 => ?_⟩
    rw [List.mem_singleton.mp hb1] at z1
    exact hn (z1 ▸ ha1)
  · rcases List.mem_append.mp hx1 with c1 | c1
    · exact i3 x c1
    · rw [List.mem_singleton.mp c1]; exact he
  · rw [us_k (by decide), us_k (by decide), us_s]; simp
  · rw [us_k (by decide), us_k (by decide), us_k (by decide)]
    by_cases c1 : i < L.length
    · rw [us_j (by omega)]
      rw [List.getElem?_append_left c1] at hz1
      exact i5 i z hz1
    · rw [List.getElem?_append_right (by omega)] at hz1
      have c2 : i - L.length = 0 := by
        have := (List.getElem?_eq_some_iff.mp hz1).1
        simp at this
        omega
      have c3 : i = L.length := by omega
      subst c3
      rw [c2] at hz1
      simp at hz1
      subst hz1
      exact us_s
  · by_cases c1 : j = s
    · subst c1; rw [us_s]; exact hy
    · rw [us_j c1, us_k (by decide), us_k (by decide), us_k (by decide)]; exact i6 j hj1
theorem AP.st {σ σ' : Sg} {A NS : Nat} (c1 : st σ σ') (P : AP σ A NS) : AP σ' A NS := by
  refine ⟨P.1, P.2.1, fun a ha1 => ?_⟩
  have l1 := P.2.2 a ha1
  simp only [c1 44 _ rfl, c1 45 _ rfl]
  exact l1
theorem eOf_lt {σ : Sg} {s NS : Nat} (hs : s < NS) : eOf σ s < 2 * NS := by
  unfold eOf
  split <;> omega
/-- a step keeps it -/
theorem TI.step {σ : Sg} {NS s : Nat} {L : List Nat} (I : TI σ NS L) (hs : s < NS) : st σ (stp σ s) ∧ (stp σ s = σ ∨ ∃ e, TI (stp σ s) NS (L ++ [e])) := by
  unfold stp
  split
  · rename_i c1
    rw [I.evN] at c1 ⊢
    have c2 := I.new c1.2.1
    split
    · exact ⟨(((st.rf.us rfl).us rfl).us rfl).us rfl, Or.inr ⟨eOf σ s, I.add (eOf_lt hs) c2 (Or.inl rfl)⟩⟩
    · exact ⟨(((st.rf.us rfl).us rfl).us rfl).us rfl, Or.inr ⟨eOf σ s, I.add (eOf_lt hs) c2 (Or.inr rfl)⟩⟩
  · exact ⟨st.rf, Or.inl rfl⟩
/-- the rest of a round: n0 events at its start -/
theorem l_M_rnd {σ0 : Sg} {h : Hp} {NS n0 : Nat} {Q : Option PV → Hp → Prop} (P : AP σ0 (2 * NS) NS) (hNS : σ0 40 0 = nI NS) :
    ∀ (n s : Nat) (σ : Sg) (L : List Nat) (o3 o4 : Option PV), s + n = NS → st σ0 σ → TI σ NS L → n0 ≤ L.length →
      (∀ (L' : List Nat) (o3 o4 : Option PV), st σ0 (rndF n s σ) → TI (rndF n s σ) NS L' → n0 ≤ L'.length → S mM_turn 7 0 0 Q 17 [some (vR (100, 0, 0)), some (vI (zi (decide (n0 < L'.length)))), some (vI (nI NS)), o3, o4] [] (hM (rndF n s σ) h) 0 0) →
      S mM_turn 7 0 0 Q 25 [some (vR (100, 0, 0)), some (vI (zi (decide (n0 < L.length)))), some (vI (nI s)), o3, o4] [] (hM σ h) 0 0 := by
  have hNS8 := P.1
  intro n
  induction n with
  | zero =>
    intro s σ L o3 o4 hs1 ht1 I hle kk
    have es : s = NS := by omega
    subst es
    have e40 : σ 40 0 = nI s := (ht1 40 0 rfl).trans hNS
    refine s_iload_n dM_turn_25 rfl rfl ?_
    refine s_aload_n dM_turn_26 rfl rfl ?_
    refine s_mgi dM_turn_27 gf_M_144 rfl ?_
    refine s_top e40 ?_
    refine s_icmp_ge dM_turn_30 (fun _ => ?_) (fun q => absurd (nI_le (Nat.le_refl _) (by omega)) q)
    refine s_goto dM_turn_181 ?_
    exact kk L o3 o4 ht1 I hle
  | succ n ih1 =>
    intro s σ L o3 o4 hs1 ht1 I hle kk
    have hsN : s < NS := by omega
    have e40 : σ 40 0 = nI NS := (ht1 40 0 rfl).trans hNS
    have hlen := I.len
    have heN := I.evN
    have P1 := P.st ht1
    have e49 := I.2.2.2.1
    have he1 := eOf_lt (σ := σ) hsN
    have hst := I.step hsN
    -- behind a step
    have J : ∀ (L' : List Nat) (o3 o4 : Option PV), TI (stp σ s) NS L' → n0 ≤ L'.length → S mM_turn 7 0 0 Q 175 [some (vR (100, 0, 0)), some (vI (zi (decide (n0 < L'.length)))), some (vI (nI s)), o3, o4] [] (hM (stp σ s) h) 0 0 := by
      intro L' o3 o4 I' hle'
      first | refine s_iincN dM_turn_175 rfl rfl ?_ | refine s_iinc dM_turn_175 rfl rfl ?_
      refine s_goto dM_turn_178 ?_
      exact ih1 (s + 1) (stp σ s) L' _ _ (by omega) (ht1.tr hst.1) I' hle' kk
    have Jn : ∀ (o3 o4 : Option PV), stp σ s = σ → S mM_turn 7 0 0 Q 175 [some (vR (100, 0, 0)), some (vI (zi (decide (n0 < L.length)))), some (vI (nI s)), o3, o4] [] (hM σ h) 0 0 := by
      intro o3 o4 z1
      have := J L o3 o4 (by rw [z1]; exact I) hle
      rw [z1] at this
      exact this
    have Jy : ∀ (o3 o4 : Option PV) (e : Nat) (x y : Int32), e < 2 * NS → e ∉ L → (y = 0 ∨ y = 1) → stp σ s = us (us (us (us σ 48 L.length (nI e)) 49 0 (nI (L.length + 1))) 43 s x) 42 s y → S mM_turn 7 0 0 Q 175 [some (vR (100, 0, 0)), some (vI 1), some (vI (nI s)), o3, o4] [] (hM (us (us (us (us σ 48 L.length (nI e)) 49 0 (nI (L.length + 1))) 43 s x) 42 s y) h) 0 0 := by
      intro o3 o4 e x y z1 z2 z3 z4
      have := J (L ++ [e]) o3 o4 (by rw [z4]; exact I.add z1 z2 z3) (by simp; omega)
      rw [z4, zi_dec.1 (by simp; omega)] at this
      exact this
    rcases I.2.2.2.2.2 s hsN with c42 | c42
    · have ee : eOf σ s = 2 * s := by unfold eOf; rw [if_neg (by rw [c42]; decide)]
      rw [ee] at he1
      have ne1 : ¬ σ 42 s = 1 := by rw [c42]; decide
      by_cases cm : σ 43 s = 0 ∨ σ 41 s = 1
      · have K1 : S mM_turn 7 0 0 Q 87 [some (vR (100, 0, 0)), some (vI (zi (decide (n0 < L.length)))), some (vI (nI s)), some (vI (nI (2 * s))), o4] [vI 1] (hM σ h) 0 0 := by
          cases hi1 : isEv σ (nI (2 * s)) L.length with
          | true =>
            have ce := c_M_isEvent (h := h) (e1 := nI (2 * s)) e49 (by omega)
            rw [hi1] at ce
            refine s_istore dM_turn_87 rfl ?_
            refine s_iload dM_turn_89 rfl ?_
            refine s_if_eq dM_turn_91 (fun q => absurd q (by decide)) (fun _ => ?_)
            refine s_aload_n dM_turn_94 rfl rfl ?_
            refine s_iload_n dM_turn_95 rfl rfl ?_
            refine s_v1 dM_turn_96 cv_M_245 hM_o (ce) rfl rfl rfl rfl ?_
            refine s_if_ne dM_turn_99 (fun _ => ?_) (fun q => absurd q (by decide))
            refine Jn _ _ ?_
            unfold stp
            rw [if_neg (fun z1 => by rw [ee, heN, hi1] at z1; cases z1.2.1)]
          | false =>
            have ce := c_M_isEvent (h := h) (e1 := nI (2 * s)) e49 (by omega)
            rw [hi1] at ce
            cases hm1 : met σ (2 * s) L.length with
            | false =>
              have cm1 := c_M_isMet (h := h) e49 (by omega) P1 he1
              rw [hm1] at cm1
              refine s_istore dM_turn_87 rfl ?_
              refine s_iload dM_turn_89 rfl ?_
              refine s_if_eq dM_turn_91 (fun q => absurd q (by decide)) (fun _ => ?_)
              refine s_aload_n dM_turn_94 rfl rfl ?_
              refine s_iload_n dM_turn_95 rfl rfl ?_
              refine s_v1 dM_turn_96 cv_M_245 hM_o (ce) rfl rfl rfl rfl ?_
              refine s_if_ne dM_turn_99 (fun q => absurd rfl q) (fun _ => ?_)
              refine s_aload_n dM_turn_102 rfl rfl ?_
              refine s_iload_n dM_turn_103 rfl rfl ?_
              refine s_v1 dM_turn_104 cv_M_248 hM_o (cm1) rfl rfl rfl rfl ?_
              refine s_if_eq dM_turn_107 (fun _ => ?_) (fun q => absurd rfl q)
              refine Jn _ _ ?_
              unfold stp
              rw [if_neg (fun z1 => by rw [ee, heN, hm1] at z1; cases z1.2.2)]
            | true =>
              have cm1 := c_M_isMet (h := h) e49 (by omega) P1 he1
              rw [hm1] at cm1
              have hlt : L.length < 16 := by
                have := (I.add (s := s) (x := 0) (y := 0) he1 (I.new hi1) (Or.inl rfl)).len
                simp at this
                omega
              have f49 : ∀ x, us σ 48 L.length x 49 0 = nI L.length := fun x => by rw [us_k (by decide)]; exact e49
              refine s_istore dM_turn_87 rfl ?_
              refine s_iload dM_turn_89 rfl ?_
              refine s_if_eq dM_turn_91 (fun q => absurd q (by decide)) (fun _ => ?_)
              refine s_aload_n dM_turn_94 rfl rfl ?_
              refine s_iload_n dM_turn_95 rfl rfl ?_
              refine s_v1 dM_turn_96 cv_M_245 hM_o (ce) rfl rfl rfl rfl ?_
              refine s_if_ne dM_turn_99 (fun q => absurd rfl q) (fun _ => ?_)
              refine s_aload_n dM_turn_102 rfl rfl ?_
              refine s_iload_n dM_turn_103 rfl rfl ?_
              refine s_v1 dM_turn_104 cv_M_248 hM_o (cm1) rfl rfl rfl rfl ?_
              refine s_if_eq dM_turn_107 (fun q => absurd q (by decide)) (fun _ => ?_)
              refine s_aload_n dM_turn_110 rfl rfl ?_
              refine s_mga dM_turn_111 gf_M_104 rfl ?_
              refine s_aload_n dM_turn_114 rfl rfl ?_
              refine s_mgi dM_turn_115 gf_M_239 rfl ?_
              refine s_top e49 ?_
              refine s_iload_n dM_turn_118 rfl rfl ?_
              refine s_mast dM_turn_119 rfl rfl (show _ < 16 by omega) rfl ?_
              refine s_aload_n dM_turn_120 rfl rfl ?_
              refine s_dup dM_turn_121 rfl ?_
              refine s_mgi dM_turn_122 gf_M_239 rfl ?_
              refine s_top (f49 _) ?_
              refine s_iconst (v := nI 1) dM_turn_125 (by decide) ?_
              first | refine s_iaddN dM_turn_126 ?_ | refine s_iadd dM_turn_126 ?_
              refine s_mpi dM_turn_127 gf_M_239 rfl rfl (by first | exact ⟨_, rfl⟩ | exact Or.inl rfl | exact Or.inr rfl) ?_
              refine s_aload_n dM_turn_130 rfl rfl ?_
              refine s_mga dM_turn_131 gf_M_95 rfl ?_
              refine s_iload_n dM_turn_134 rfl rfl ?_
              refine s_dup2 dM_turn_135 rfl rfl ?_
              refine s_mald dM_turn_136 rfl rfl (show _ < 8 by omega) rfl ?_
              refine s_top ((us_k (by decide)).trans (us_k (by decide))) ?_
              refine s_aload_n dM_turn_137 rfl rfl ?_
              refine s_mga dM_turn_138 gf_M_92 rfl ?_
              refine s_iload_n dM_turn_141 rfl rfl ?_
              refine s_mzld dM_turn_142 rfl rfl (show _ < 8 by omega) rfl ?_
              refine s_top ((us_k (by decide)).trans (us_k (by decide))) ?_
              refine s_if_eq dM_turn_143 (fun _ => ?_) (fun q => absurd c42 q)
              refine s_iconst (v := nI 1) dM_turn_150 (by decide) ?_
              first | refine s_iaddN dM_turn_151 ?_ | refine s_iadd dM_turn_151 ?_
              refine s_mast dM_turn_152 rfl rfl (show _ < 8 by omega) rfl ?_
              refine s_aload_n dM_turn_153 rfl rfl ?_
              refine s_mga dM_turn_154 gf_M_92 rfl ?_
              refine s_iload_n dM_turn_157 rfl rfl ?_
              refine s_aload_n dM_turn_158 rfl rfl ?_
              refine s_mga dM_turn_159 gf_M_92 rfl ?_
              refine s_iload_n dM_turn_162 rfl rfl ?_
              refine s_mzld dM_turn_163 rfl rfl (show _ < 8 by omega) rfl ?_
              refine s_top ((us_k (by decide)).trans ((us_k (by decide)).trans (us_k (by decide)))) ?_
              refine s_if_ne dM_turn_164 (fun q => absurd c42 q) (fun _ => ?_)
              refine s_iconst (v := 1) dM_turn_167 (by decide) ?_
              refine s_goto dM_turn_168 ?_
              refine s_mzst dM_turn_172 rfl rfl (by first | exact Or.inl rfl | exact Or.inr rfl | assumption) (show _ < 8 by omega) rfl ?_
              refine s_iconst (v := 1) dM_turn_173 (by decide) ?_
              refine s_istore_n dM_turn_174 rfl rfl ?_
              refine Jy _ _ (2 * s) _ 1 he1 (I.new hi1) (Or.inr rfl) ?_
              unfold stp
              rw [ee, heN, if_pos ⟨Or.inr cm, hi1, hm1⟩, if_neg ne1]
        by_cases c43 : σ 43 s = 0
        · refine s_iload_n dM_turn_25 rfl rfl ?_
          refine s_aload_n dM_turn_26 rfl rfl ?_
          refine s_mgi dM_turn_27 gf_M_144 rfl ?_
          refine s_top e40 ?_
          refine s_icmp_ge dM_turn_30 (fun q => absurd q (nI_ge hsN (by omega))) (fun _ => ?_)
          refine s_aload_n dM_turn_33 rfl rfl ?_
          refine s_mga dM_turn_34 gf_M_92 rfl ?_
          refine s_iload_n dM_turn_37 rfl rfl ?_
          refine s_mzld dM_turn_38 rfl rfl (show _ < 8 by omega) rfl ?_
          refine s_if_eq dM_turn_39 (fun _ => ?_) (fun q => absurd c42 q)
          refine s_iconst (v := nI 2) dM_turn_50 (by decide) ?_
          refine s_iload_n dM_turn_51 rfl rfl ?_
          first | refine s_imulN dM_turn_52 ?_ | refine s_imul dM_turn_52 ?_
          refine s_istore_n dM_turn_53 rfl rfl ?_
          refine s_aload_n dM_turn_54 rfl rfl ?_
          refine s_mga dM_turn_55 gf_M_92 rfl ?_
          refine s_iload_n dM_turn_58 rfl rfl ?_
          refine s_mzld dM_turn_59 rfl rfl (show _ < 8 by omega) rfl ?_
          refine s_if_ne dM_turn_60 (fun q => absurd c42 q) (fun _ => ?_)
          refine s_aload_n dM_turn_63 rfl rfl ?_
          refine s_mga dM_turn_64 gf_M_95 rfl ?_
          refine s_iload_n dM_turn_67 rfl rfl ?_
          refine s_mald dM_turn_68 rfl rfl (show _ < 8 by omega) rfl ?_
          refine s_if_eq dM_turn_69 (fun _ => ?_) (fun q => absurd c43 q)
          refine s_iconst (v := 1) dM_turn_82 (by decide) ?_
          refine s_goto dM_turn_83 ?_
          exact K1
        · have c41 : σ 41 s = 1 := by rcases cm with z1 | z1; exact absurd z1 c43; exact z1
          refine s_iload_n dM_turn_25 rfl rfl ?_
          refine s_aload_n dM_turn_26 rfl rfl ?_
          refine s_mgi dM_turn_27 gf_M_144 rfl ?_
          refine s_top e40 ?_
          refine s_icmp_ge dM_turn_30 (fun q => absurd q (nI_ge hsN (by omega))) (fun _ => ?_)
          refine s_aload_n dM_turn_33 rfl rfl ?_
          refine s_mga dM_turn_34 gf_M_92 rfl ?_
          refine s_iload_n dM_turn_37 rfl rfl ?_
          refine s_mzld dM_turn_38 rfl rfl (show _ < 8 by omega) rfl ?_
          refine s_if_eq dM_turn_39 (fun _ => ?_) (fun q => absurd c42 q)
          refine s_iconst (v := nI 2) dM_turn_50 (by decide) ?_
          refine s_iload_n dM_turn_51 rfl rfl ?_
          first | refine s_imulN dM_turn_52 ?_ | refine s_imul dM_turn_52 ?_
          refine s_istore_n dM_turn_53 rfl rfl ?_
          refine s_aload_n dM_turn_54 rfl rfl ?_
          refine s_mga dM_turn_55 gf_M_92 rfl ?_
          refine s_iload_n dM_turn_58 rfl rfl ?_
          refine s_mzld dM_turn_59 rfl rfl (show _ < 8 by omega) rfl ?_
          refine s_if_ne dM_turn_60 (fun q => absurd c42 q) (fun _ => ?_)
          refine s_aload_n dM_turn_63 rfl rfl ?_
          refine s_mga dM_turn_64 gf_M_95 rfl ?_
          refine s_iload_n dM_turn_67 rfl rfl ?_
          refine s_mald dM_turn_68 rfl rfl (show _ < 8 by omega) rfl ?_
          refine s_if_eq dM_turn_69 (fun q => absurd q c43) (fun _ => ?_)
          refine s_aload_n dM_turn_72 rfl rfl ?_
          refine s_mga dM_turn_73 gf_M_89 rfl ?_
          refine s_iload_n dM_turn_76 rfl rfl ?_
          refine s_mald dM_turn_77 rfl rfl (show _ < 8 by omega) rfl ?_
          refine s_iconst (v := 1) dM_turn_78 (by decide) ?_
          refine s_icmp_ne dM_turn_79 (fun q => absurd c41 q) (fun _ => ?_)
          refine s_iconst (v := 1) dM_turn_82 (by decide) ?_
          refine s_goto dM_turn_83 ?_
          exact K1
      · refine s_iload_n dM_turn_25 rfl rfl ?_
        refine s_aload_n dM_turn_26 rfl rfl ?_
        refine s_mgi dM_turn_27 gf_M_144 rfl ?_
        refine s_top e40 ?_
        refine s_icmp_ge dM_turn_30 (fun q => absurd q (nI_ge hsN (by omega))) (fun _ => ?_)
        refine s_aload_n dM_turn_33 rfl rfl ?_
        refine s_mga dM_turn_34 gf_M_92 rfl ?_
        refine s_iload_n dM_turn_37 rfl rfl ?_
        refine s_mzld dM_turn_38 rfl rfl (show _ < 8 by omega) rfl ?_
        refine s_if_eq dM_turn_39 (fun _ => ?_) (fun q => absurd c42 q)
        refine s_iconst (v := nI 2) dM_turn_50 (by decide) ?_
        refine s_iload_n dM_turn_51 rfl rfl ?_
        first | refine s_imulN dM_turn_52 ?_ | refine s_imul dM_turn_52 ?_
        refine s_istore_n dM_turn_53 rfl rfl ?_
        refine s_aload_n dM_turn_54 rfl rfl ?_
        refine s_mga dM_turn_55 gf_M_92 rfl ?_
        refine s_iload_n dM_turn_58 rfl rfl ?_
        refine s_mzld dM_turn_59 rfl rfl (show _ < 8 by omega) rfl ?_
        refine s_if_ne dM_turn_60 (fun q => absurd c42 q) (fun _ => ?_)
        refine s_aload_n dM_turn_63 rfl rfl ?_
        refine s_mga dM_turn_64 gf_M_95 rfl ?_
        refine s_iload_n dM_turn_67 rfl rfl ?_
        refine s_mald dM_turn_68 rfl rfl (show _ < 8 by omega) rfl ?_
        refine s_if_eq dM_turn_69 (fun q => absurd q (fun z1 => cm (Or.inl z1))) (fun _ => ?_)
        refine s_aload_n dM_turn_72 rfl rfl ?_
        refine s_mga dM_turn_73 gf_M_89 rfl ?_
        refine s_iload_n dM_turn_76 rfl rfl ?_
        refine s_mald dM_turn_77 rfl rfl (show _ < 8 by omega) rfl ?_
        refine s_iconst (v := 1) dM_turn_78 (by decide) ?_
        refine s_icmp_ne dM_turn_79 (fun _ => ?_) (fun q => absurd q (fun z1 => cm (Or.inr z1)))
        refine s_iconst (v := 0) dM_turn_86 (by decide) ?_
        refine s_istore dM_turn_87 rfl ?_
        refine s_iload dM_turn_89 rfl ?_
        refine s_if_eq dM_turn_91 (fun _ => ?_) (fun q => absurd rfl q)
        refine Jn _ _ ?_
        unfold stp
        rw [if_neg (fun z1 => by
          rcases z1.1 with z2 | z2
          · exact ne1 z2
          · exact cm z2)]
    · have ee : eOf σ s = 2 * s + 1 := by unfold eOf; rw [if_pos c42]
      rw [ee] at he1
      have n0c : ¬ σ 42 s = 0 := by rw [c42]; decide
      cases hi1 : isEv σ (nI (2 * s + 1)) L.length with
      | true =>
        have ce := c_M_isEvent (h := h) (e1 := nI (2 * s + 1)) e49 (by omega)
        rw [hi1] at ce
        refine s_iload_n dM_turn_25 rfl rfl ?_
        refine s_aload_n dM_turn_26 rfl rfl ?_
        refine s_mgi dM_turn_27 gf_M_144 rfl ?_
        refine s_top e40 ?_
        refine s_icmp_ge dM_turn_30 (fun q => absurd q (nI_ge hsN (by omega))) (fun _ => ?_)
        refine s_aload_n dM_turn_33 rfl rfl ?_
        refine s_mga dM_turn_34 gf_M_92 rfl ?_
        refine s_iload_n dM_turn_37 rfl rfl ?_
        refine s_mzld dM_turn_38 rfl rfl (show _ < 8 by omega) rfl ?_
        refine s_if_eq dM_turn_39 (fun q => absurd q n0c) (fun _ => ?_)
        refine s_iconst (v := nI 2) dM_turn_42 (by decide) ?_
        refine s_iload_n dM_turn_43 rfl rfl ?_
        first | refine s_imulN dM_turn_44 ?_ | refine s_imul dM_turn_44 ?_
        refine s_iconst (v := nI 1) dM_turn_45 (by decide) ?_
        first | refine s_iaddN dM_turn_46 ?_ | refine s_iadd dM_turn_46 ?_
        refine s_goto dM_turn_47 ?_
        refine s_istore_n dM_turn_53 rfl rfl ?_
        refine s_aload_n dM_turn_54 rfl rfl ?_
        refine s_mga dM_turn_55 gf_M_92 rfl ?_
        refine s_iload_n dM_turn_58 rfl rfl ?_
        refine s_mzld dM_turn_59 rfl rfl (show _ < 8 by omega) rfl ?_
        refine s_if_ne dM_turn_60 (fun _ => ?_) (fun q => absurd q n0c)
        refine s_iconst (v := 1) dM_turn_82 (by decide) ?_
        refine s_goto dM_turn_83 ?_
        refine s_istore dM_turn_87 rfl ?_
        refine s_iload dM_turn_89 rfl ?_
        refine s_if_eq dM_turn_91 (fun q => absurd q (by decide)) (fun _ => ?_)
        refine s_aload_n dM_turn_94 rfl rfl ?_
        refine s_iload_n dM_turn_95 rfl rfl ?_
        refine s_v1 dM_turn_96 cv_M_245 hM_o (ce) rfl rfl rfl rfl ?_
        refine s_if_ne dM_turn_99 (fun _ => ?_) (fun q => absurd q (by decide))
        refine Jn _ _ ?_
        unfold stp
        rw [if_neg (fun z1 => by rw [ee, heN, hi1] at z1; cases z1.2.1)]
      | false =>
        have ce := c_M_isEvent (h := h) (e1 := nI (2 * s + 1)) e49 (by omega)
        rw [hi1] at ce
        cases hm1 : met σ (2 * s + 1) L.length with
        | false =>
          have cm1 := c_M_isMet (h := h) e49 (by omega) P1 he1
          rw [hm1] at cm1
          refine s_iload_n dM_turn_25 rfl rfl ?_
          refine s_aload_n dM_turn_26 rfl rfl ?_
          refine s_mgi dM_turn_27 gf_M_144 rfl ?_
          refine s_top e40 ?_
          refine s_icmp_ge dM_turn_30 (fun q => absurd q (nI_ge hsN (by omega))) (fun _ => ?_)
          refine s_aload_n dM_turn_33 rfl rfl ?_
          refine s_mga dM_turn_34 gf_M_92 rfl ?_
          refine s_iload_n dM_turn_37 rfl rfl ?_
          refine s_mzld dM_turn_38 rfl rfl (show _ < 8 by omega) rfl ?_
          refine s_if_eq dM_turn_39 (fun q => absurd q n0c) (fun _ => ?_)
          refine s_iconst (v := nI 2) dM_turn_42 (by decide) ?_
          refine s_iload_n dM_turn_43 rfl rfl ?_
          first | refine s_imulN dM_turn_44 ?_ | refine s_imul dM_turn_44 ?_
          refine s_iconst (v := nI 1) dM_turn_45 (by decide) ?_
          first | refine s_iaddN dM_turn_46 ?_ | refine s_iadd dM_turn_46 ?_
          refine s_goto dM_turn_47 ?_
          refine s_istore_n dM_turn_53 rfl rfl ?_
          refine s_aload_n dM_turn_54 rfl rfl ?_
          refine s_mga dM_turn_55 gf_M_92 rfl ?_
          refine s_iload_n dM_turn_58 rfl rfl ?_
          refine s_mzld dM_turn_59 rfl rfl (show _ < 8 by omega) rfl ?_
          refine s_if_ne dM_turn_60 (fun _ => ?_) (fun q => absurd q n0c)
          refine s_iconst (v := 1) dM_turn_82 (by decide) ?_
          refine s_goto dM_turn_83 ?_
          refine s_istore dM_turn_87 rfl ?_
          refine s_iload dM_turn_89 rfl ?_
          refine s_if_eq dM_turn_91 (fun q => absurd q (by decide)) (fun _ => ?_)
          refine s_aload_n dM_turn_94 rfl rfl ?_
          refine s_iload_n dM_turn_95 rfl rfl ?_
          refine s_v1 dM_turn_96 cv_M_245 hM_o (ce) rfl rfl rfl rfl ?_
          refine s_if_ne dM_turn_99 (fun q => absurd rfl q) (fun _ => ?_)
          refine s_aload_n dM_turn_102 rfl rfl ?_
          refine s_iload_n dM_turn_103 rfl rfl ?_
          refine s_v1 dM_turn_104 cv_M_248 hM_o (cm1) rfl rfl rfl rfl ?_
          refine s_if_eq dM_turn_107 (fun _ => ?_) (fun q => absurd rfl q)
          refine Jn _ _ ?_
          unfold stp
          rw [if_neg (fun z1 => by rw [ee, heN, hm1] at z1; cases z1.2.2)]
        | true =>
          have cm1 := c_M_isMet (h := h) e49 (by omega) P1 he1
          rw [hm1] at cm1
          have hlt : L.length < 16 := by
            have := (I.add (s := s) (x := 0) (y := 0) he1 (I.new hi1) (Or.inl rfl)).len
            simp at this
            omega
          have f49 : ∀ x, us σ 48 L.length x 49 0 = nI L.length := fun x => by rw [us_k (by decide)]; exact e49
          refine s_iload_n dM_turn_25 rfl rfl ?_
          refine s_aload_n dM_turn_26 rfl rfl ?_
          refine s_mgi dM_turn_27 gf_M_144 rfl ?_
          refine s_top e40 ?_
          refine s_icmp_ge dM_turn_30 (fun q => absurd q (nI_ge hsN (by omega))) (fun _ => ?_)
          refine s_aload_n dM_turn_33 rfl rfl ?_
          refine s_mga dM_turn_34 gf_M_92 rfl ?_
          refine s_iload_n dM_turn_37 rfl rfl ?_
          refine s_mzld dM_turn_38 rfl rfl (show _ < 8 by omega) rfl ?_
          refine s_if_eq dM_turn_39 (fun q => absurd q n0c) (fun _ => ?_)
          refine s_iconst (v := nI 2) dM_turn_42 (by decide) ?_
          refine s_iload_n dM_turn_43 rfl rfl ?_
          first | refine s_imulN dM_turn_44 ?_ | refine s_imul dM_turn_44 ?_
          refine s_iconst (v := nI 1) dM_turn_45 (by decide) ?_
          first | refine s_iaddN dM_turn_46 ?_ | refine s_iadd dM_turn_46 ?_
          refine s_goto dM_turn_47 ?_
          refine s_istore_n dM_turn_53 rfl rfl ?_
          refine s_aload_n dM_turn_54 rfl rfl ?_
          refine s_mga dM_turn_55 gf_M_92 rfl ?_
          refine s_iload_n dM_turn_58 rfl rfl ?_
          refine s_mzld dM_turn_59 rfl rfl (show _ < 8 by omega) rfl ?_
          refine s_if_ne dM_turn_60 (fun _ => ?_) (fun q => absurd q n0c)
          refine s_iconst (v := 1) dM_turn_82 (by decide) ?_
          refine s_goto dM_turn_83 ?_
          refine s_istore dM_turn_87 rfl ?_
          refine s_iload dM_turn_89 rfl ?_
          refine s_if_eq dM_turn_91 (fun q => absurd q (by decide)) (fun _ => ?_)
          refine s_aload_n dM_turn_94 rfl rfl ?_
          refine s_iload_n dM_turn_95 rfl rfl ?_
          refine s_v1 dM_turn_96 cv_M_245 hM_o (ce) rfl rfl rfl rfl ?_
          refine s_if_ne dM_turn_99 (fun q => absurd rfl q) (fun _ => ?_)
          refine s_aload_n dM_turn_102 rfl rfl ?_
          refine s_iload_n dM_turn_103 rfl rfl ?_
          refine s_v1 dM_turn_104 cv_M_248 hM_o (cm1) rfl rfl rfl rfl ?_
          refine s_if_eq dM_turn_107 (fun q => absurd q (by decide)) (fun _ => ?_)
          refine s_aload_n dM_turn_110 rfl rfl ?_
          refine s_mga dM_turn_111 gf_M_104 rfl ?_
          refine s_aload_n dM_turn_114 rfl rfl ?_
          refine s_mgi dM_turn_115 gf_M_239 rfl ?_
          refine s_top e49 ?_
          refine s_iload_n dM_turn_118 rfl rfl ?_
          refine s_mast dM_turn_119 rfl rfl (show _ < 16 by omega) rfl ?_
          refine s_aload_n dM_turn_120 rfl rfl ?_
          refine s_dup dM_turn_121 rfl ?_
          refine s_mgi dM_turn_122 gf_M_239 rfl ?_
          refine s_top (f49 _) ?_
          refine s_iconst (v := nI 1) dM_turn_125 (by decide) ?_
          first | refine s_iaddN dM_turn_126 ?_ | refine s_iadd dM_turn_126 ?_
          refine s_mpi dM_turn_127 gf_M_239 rfl rfl (by first | exact ⟨_, rfl⟩ | exact Or.inl rfl | exact Or.inr rfl) ?_
          refine s_aload_n dM_turn_130 rfl rfl ?_
          refine s_mga dM_turn_131 gf_M_95 rfl ?_
          refine s_iload_n dM_turn_134 rfl rfl ?_
          refine s_dup2 dM_turn_135 rfl rfl ?_
          refine s_mald dM_turn_136 rfl rfl (show _ < 8 by omega) rfl ?_
          refine s_top ((us_k (by decide)).trans (us_k (by decide))) ?_
          refine s_aload_n dM_turn_137 rfl rfl ?_
          refine s_mga dM_turn_138 gf_M_92 rfl ?_
          refine s_iload_n dM_turn_141 rfl rfl ?_
          refine s_mzld dM_turn_142 rfl rfl (show _ < 8 by omega) rfl ?_
          refine s_top ((us_k (by decide)).trans (us_k (by decide))) ?_
          refine s_if_eq dM_turn_143 (fun q => absurd q n0c) (fun _ => ?_)
          refine s_iconst (v := 0) dM_turn_146 (by decide) ?_
          refine s_goto dM_turn_147 ?_
          first | refine s_iaddN dM_turn_151 ?_ | refine s_iadd dM_turn_151 ?_
          refine s_mast dM_turn_152 rfl rfl (show _ < 8 by omega) rfl ?_
          refine s_aload_n dM_turn_153 rfl rfl ?_
          refine s_mga dM_turn_154 gf_M_92 rfl ?_
          refine s_iload_n dM_turn_157 rfl rfl ?_
          refine s_aload_n dM_turn_158 rfl rfl ?_
          refine s_mga dM_turn_159 gf_M_92 rfl ?_
          refine s_iload_n dM_turn_162 rfl rfl ?_
          refine s_mzld dM_turn_163 rfl rfl (show _ < 8 by omega) rfl ?_
          refine s_top ((us_k (by decide)).trans ((us_k (by decide)).trans (us_k (by decide)))) ?_
          refine s_if_ne dM_turn_164 (fun _ => ?_) (fun q => absurd q n0c)
          refine s_iconst (v := 0) dM_turn_171 (by decide) ?_
          refine s_mzst dM_turn_172 rfl rfl (by first | exact Or.inl rfl | exact Or.inr rfl | assumption) (show _ < 8 by omega) rfl ?_
          refine s_iconst (v := 1) dM_turn_173 (by decide) ?_
          refine s_istore_n dM_turn_174 rfl rfl ?_
          refine Jy _ _ (2 * s + 1) _ 0 he1 (I.new hi1) (Or.inl rfl) ?_
          unfold stp
          rw [ee, heN, if_pos ⟨Or.inl c42, hi1, hm1⟩, if_pos c42]
theorem l_M_rnds {σ0 : Sg} {h : Hp} {NS : Nat} {Q : Option PV → Hp → Prop} (P : AP σ0 (2 * NS) NS) (hNS : σ0 40 0 = nI NS) :
    ∀ (f : Nat) (σ : Sg) (L : List Nat) (o1 o2 o3 o4 : Option PV), 17 ≤ L.length + f → st σ0 σ → TI σ NS L →
      (∀ (L' : List Nat) (o1 o2 o3 o4 : Option PV), st σ0 (rnds NS f σ) → TI (rnds NS f σ) NS L' → S mM_turn 7 0 0 Q 184 [some (vR (100, 0, 0)), o1, o2, o3, o4] [] (hM (rnds NS f σ) h) 0 0) →
      S mM_turn 7 0 0 Q 21 [some (vR (100, 0, 0)), o1, o2, o3, o4] [] (hM σ h) 0 0 := by
  have hNS8 := P.1
  intro f
  induction f with
  | zero =>
    intro σ L o1 o2 o3 o4 hf1 ht1 I kk
    have := I.len
    omega
  | succ f ih1 =>
    intro σ L o1 o2 o3 o4 hf1 ht1 I kk
    refine s_iconst (v := 0) dM_turn_21 (by decide) ?_
    refine s_istore_n dM_turn_22 rfl rfl ?_
    refine s_iconst (v := 0) dM_turn_23 (by decide) ?_
    refine s_istore_n dM_turn_24 rfl rfl ?_
    have e0 : (0 : Int32) = zi (decide (L.length < L.length)) := by rw [zi_dec.2 (by omega)]
    have hl := I.len
    have fin0 := l_M_rnd (h := h) (n0 := L.length) (Q := Q) P hNS NS 0 σ L o3 o4 (by omega) ht1 I (Nat.le_refl _) (fun L' o3 o4 a1 a2 a3 => by
      have hl' := a2.len
      unfold rnds at kk
      by_cases c1 : L.length < L'.length
      · rw [zi_dec.1 c1]
        rw [if_neg (by rw [a2.2.2.2.1, I.2.2.2.1]; exact nI_ne (by omega) (by omega) (by omega))] at kk
        refine s_iload_n dM_turn_17 rfl rfl ?_
        refine s_if_eq dM_turn_18 (fun q => absurd q (by decide)) (fun _ => ?_)
        exact ih1 (rndF NS 0 σ) L' _ _ _ _ (by omega) a1 a2 kk
      · rw [zi_dec.2 c1]
        have c2 : L'.length = L.length := by omega
        rw [if_pos (by rw [a2.2.2.2.1, I.2.2.2.1, c2])] at kk
        refine s_iload_n dM_turn_17 rfl rfl ?_
        refine s_if_eq dM_turn_18 (fun _ => ?_) (fun q => absurd rfl q)
        exact kk L' _ _ _ _ a1 a2)
    rw [← e0] at fin0
    exact fin0
/-- the state when the scenes of a turn are done -/
def trnE (σ : Sg) (NS : Nat) : Sg := rnds NS 17 (us (us σ 47 0 (σ 47 0 + nI 1)) 49 0 0)
def fTurn (σ : Sg) (rw0 : Nat → List Nat) (NS N : Nat) (g : Gs) : Int32 × Gs := if σ 46 0 = -4 ∨ N = 0 then (trnE σ NS 49 0, g) else (if ge (runS (trnE σ NS) rw0 0 6 0 (nt (σ 46 0)) (gf g)).1 = 0 then trnE σ NS 49 0 else -10 - gs (runS (trnE σ NS) rw0 0 6 0 (nt (σ 46 0)) (gf g)).1, (runS (trnE σ NS) rw0 0 6 0 (nt (σ 46 0)) (gf g)).1)
theorem c_M_turn {σ : Sg} {h : Hp} {rw0 : Nat → List Nat} {R K N NS B : Nat} {g : Gs} (X : RN σ rw0 R K N NS B) (P : AP σ (2 * NS) NS) (hNS : σ 40 0 = nI NS) (hN : σ 2 0 = nI N) (h46 : σ 46 0 = -4 ∨ ∃ b, b < B ∧ σ 46 0 = nI b) (hg : gR σ g) (hn : gn g ≤ 300) :
    Con mM_turn 7 0 0 [vR (100, 0, 0)] (hM σ h) (fun v h' => ∃ σ' L, h' = hM σ' h ∧ v = some (vI (fTurn σ rw0 NS N g).1) ∧ st (us σ 47 0 (σ 47 0 + nI 1)) (trnE σ NS) ∧ TI (trnE σ NS) NS L ∧ RP (trnE σ NS) σ' (fTurn σ rw0 NS N g).2) := by
  have hB12 := X.2.2.2.2.1
  have hN20 := X.2.1.1
  have hNS8 := P.1
  have h42 := X.2.2.1.2.2.1
  refine c_enter (by decide +kernel) rfl rfl ?_
  refine s_aload_n dM_turn_0 rfl rfl ?_
  refine s_dup dM_turn_1 rfl ?_
  refine s_mgi dM_turn_2 gf_M_242 rfl ?_
  refine s_iconst (v := nI 1) dM_turn_5 (by decide) ?_
  first | refine s_iaddN dM_turn_6 ?_ | refine s_iadd dM_turn_6 ?_
  refine s_mpi dM_turn_7 gf_M_242 rfl rfl (by first | exact ⟨_, rfl⟩ | exact Or.inl rfl | exact Or.inr rfl) ?_
  refine s_aload_n dM_turn_10 rfl rfl ?_
  refine s_iconst (v := 0) dM_turn_11 (by decide) ?_
  refine s_mpi dM_turn_12 gf_M_239 rfl rfl (by first | exact ⟨_, rfl⟩ | exact Or.inl rfl | exact Or.inr rfl) ?_
  refine s_iconst (v := 1) dM_turn_15 (by decide) ?_
  refine s_istore_n dM_turn_16 rfl rfl ?_
  refine s_iload_n dM_turn_17 rfl rfl ?_
  refine s_if_eq dM_turn_18 (fun q => absurd q (by decide)) (fun _ => ?_)
  have t1 : ∀ k j, k ≠ 47 → k ≠ 49 → us (us σ 47 0 (σ 47 0 + nI 1)) 49 0 0 k j = σ k j := fun k j z1 z2 => by rw [us_k z2, us_k z1]
  have P1 : AP (us (us σ 47 0 (σ 47 0 + nI 1)) 49 0 0) (2 * NS) NS := by
    refine ⟨P.1, P.2.1, fun a ha1 => ?_⟩
    have l1 := P.2.2 a ha1
    simp only [t1 44 _ (by decide) (by decide), t1 45 _ (by decide) (by decide)]
    exact l1
  refine l_M_rnds P1 ((t1 40 0 (by decide) (by decide)).trans hNS) 17 _ [] _ _ _ _ (by simp) st.rf ⟨hNS8, List.nodup_nil, fun x hx1 => by (cases hx1), us_s, fun i x q1 => by simp at q1, fun s hs1 => by rw [t1 42 s (by decide) (by decide)]; exact h42 s hs1⟩ (fun L o1 o2 o3 o4 a1 a2 => ?_)
  rw [show rnds NS 17 (us (us σ 47 0 (σ 47 0 + nI 1)) 49 0 0) = trnE σ NS from rfl] at a1 a2 ⊢
  have a0 : st (us σ 47 0 (σ 47 0 + nI 1)) (trnE σ NS) := (st.us st.rf rfl).tr a1
  unfold fTurn
  generalize trnE σ NS = σe at a0 a1 a2 ⊢
  have t2 : ∀ k j, k ≠ 47 → tk k = false → σe k j = σ k j := fun k j z1 z2 => by rw [a0 k j z2, us_k z1]
  have gE : gR σe g := ⟨fun i => by rw [t2 4 i (by decide) rfl]; exact hg.1 i, fun i => by rw [t2 28 i (by decide) rfl]; exact hg.2.1 i, by rw [t2 29 0 (by decide) rfl]; exact hg.2.2.1, by rw [t2 30 0 (by decide) rfl]; exact hg.2.2.2.1, by rw [t2 31 0 (by decide) rfl]; exact hg.2.2.2.2⟩
  have c1 : sq σ σe := fun k j z1 => by
    simp only [qk, decide_eq_true_eq] at z1
    refine t2 k j (by omega) ?_
    simp only [tk, decide_eq_false_iff_not]
    omega
  have X1 := X.sq c1 a2.2.2.2.2.2
  have e46 := t2 46 0 (by decide) rfl
  have e2 : σe 2 0 = nI N := (t2 2 0 (by decide) rfl).trans hN
  have hRP0 : RP σe σe g := ⟨sr.rf, gE, hn⟩
  rcases h46 with z1 | ⟨b, hb1, z1⟩
  · rw [z1] at e46
    rw [if_pos (Or.inl z1)]
    refine s_aload_n dM_turn_184 rfl rfl ?_
    refine s_mgi dM_turn_185 gf_M_114 rfl ?_
    refine s_top e46 ?_
    refine s_bipush (v := (-4)) dM_turn_188 (by decide) ?_
    refine s_icmp_eq dM_turn_190 (fun _ => ?_) (fun q => absurd rfl q)
    refine s_aload_n dM_turn_237 rfl rfl ?_
    refine s_mgi dM_turn_238 gf_M_239 rfl ?_
    refine s_iret dM_turn_241 rfl (by first | exact Nat.le_refl _ | decide | omega) (by first | exact Nat.le_refl _ | decide | omega) ?_
    exact ⟨σe, L, rfl, rfl, a0, a2, hRP0⟩
  · rw [z1] at e46
    by_cases c3 : N = 0
    · subst c3
      rw [if_pos (Or.inr rfl)]
      refine s_aload_n dM_turn_184 rfl rfl ?_
      refine s_mgi dM_turn_185 gf_M_114 rfl ?_
      refine s_top e46 ?_
      refine s_bipush (v := (-4)) dM_turn_188 (by decide) ?_
      refine s_icmp_eq dM_turn_190 (fun q => absurd q (nI_m4 (by omega))) (fun _ => ?_)
      refine s_aload_n dM_turn_193 rfl rfl ?_
      refine s_mgi dM_turn_194 gf_M_125 rfl ?_
      refine s_if_le dM_turn_197 (fun _ => ?_) (fun q => absurd (by rw [e2]; exact Int32.le_refl 0) q)
      refine s_aload_n dM_turn_237 rfl rfl ?_
      refine s_mgi dM_turn_238 gf_M_239 rfl ?_
      refine s_iret dM_turn_241 rfl (by first | exact Nat.le_refl _ | decide | omega) (by first | exact Nat.le_refl _ | decide | omega) ?_
      exact ⟨σe, L, rfl, rfl, a0, a2, hRP0⟩
    · rw [if_neg (fun z2 => by
        rcases z2 with z2 | z2
        · rw [z1] at z2; exact nI_m4 (by omega) z2
        · exact c3 z2), z1, nt_nI (by omega)]
      have c4 : sr σe (us σe 32 0 1) := sr.rf.us rfl
      refine s_aload_n dM_turn_184 rfl rfl ?_
      refine s_mgi dM_turn_185 gf_M_114 rfl ?_
      refine s_top e46 ?_
      refine s_bipush (v := (-4)) dM_turn_188 (by decide) ?_
      refine s_icmp_eq dM_turn_190 (fun q => absurd q (nI_m4 (by omega))) (fun _ => ?_)
      refine s_aload_n dM_turn_193 rfl rfl ?_
      refine s_mgi dM_turn_194 gf_M_125 rfl ?_
      refine s_if_le dM_turn_197 (fun q => absurd q (by rw [e2]; exact nI_ge (a := 0) (by omega) (by omega))) (fun _ => ?_)
      refine s_aload_n dM_turn_200 rfl rfl ?_
      refine s_iconst (v := 1) dM_turn_201 (by decide) ?_
      refine s_mpi dM_turn_202 gf_M_187 rfl rfl (by first | exact ⟨_, rfl⟩ | exact Or.inl rfl | exact Or.inr rfl) ?_
      refine s_aload_n dM_turn_205 rfl rfl ?_
      refine s_aload_n dM_turn_206 rfl rfl ?_
      refine s_mgi dM_turn_207 gf_M_114 rfl ?_
      refine s_top ((us_k (by decide)).trans e46) ?_
      refine s_iconst (v := 0) dM_turn_210 (by decide) ?_
      refine s_callV (As := [_, _]) dM_turn_211 cv_M_221 hM_o (c_M_runs1 (s := 0) (X1.sr c4) (by omega) hb1 (gE.us (by decide)) us_s) rfl rfl rfl rfl (fun v h' q => ?_)
      obtain ⟨σ1, o, rfl, rfl, q1, q2, q3⟩ := q
      rw [runS_sr c4] at q1 q2
      generalize runS σe rw0 0 6 0 b (gf g) = F at q1 q2 ⊢
      have q4 : RP σe σ1 F.1 := ⟨c4.tr q2.1, q2.2⟩
      have e30 := q2.2.1.2.2.2.1
      have e31 := q2.2.1.2.2.2.2
      dsimp only
      by_cases c5 : ge F.1 = 0
      · rw [if_pos c5]
        refine s_istore_n dM_turn_214 rfl rfl ?_
        refine s_aload_n dM_turn_215 rfl rfl ?_
        refine s_mgi dM_turn_216 gf_M_194 rfl ?_
        refine s_if_eq dM_turn_219 (fun _ => ?_) (fun q => absurd (e30.trans c5) q)
        refine s_aload_n dM_turn_232 rfl rfl ?_
        refine s_mgi dM_turn_233 gf_M_239 rfl ?_
        refine s_top (q4.1 49 0 rfl) ?_
        refine s_iret dM_turn_236 rfl (by first | exact Nat.le_refl _ | decide | omega) (by first | exact Nat.le_refl _ | decide | omega) ?_
        exact ⟨σ1, L, rfl, rfl, a0, a2, q4⟩
      · rw [if_neg c5]
        refine s_istore_n dM_turn_214 rfl rfl ?_
        refine s_aload_n dM_turn_215 rfl rfl ?_
        refine s_mgi dM_turn_216 gf_M_194 rfl ?_
        refine s_if_eq dM_turn_219 (fun q => absurd q (by rw [e30]; exact c5)) (fun _ => ?_)
        refine s_bipush (v := (-10)) dM_turn_222 (by decide) ?_
        refine s_aload_n dM_turn_224 rfl rfl ?_
        refine s_mgi dM_turn_225 gf_M_211 rfl ?_
        refine s_top e31 ?_
        first | refine s_isubN dM_turn_228 (by omega) ?_ | refine s_isub dM_turn_228 ?_
        refine s_goto dM_turn_229 ?_
        refine s_iret dM_turn_236 rfl (by first | exact Nat.le_refl _ | decide | omega) (by first | exact Nat.le_refl _ | decide | omega) ?_
        exact ⟨σ1, L, rfl, rfl, a0, a2, q4⟩
