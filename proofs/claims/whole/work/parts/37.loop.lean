/-! the loop of runs -/
section LP
variable {σ0 : Sg} {h : Hp} {rw0 : Nat → List Nat} {R K N NS B s : Nat} {zb : Int32} {Q : Option PV → Hp → Prop}
/-- the ends of a frame -/
abbrev kErr (σ0 : Sg) (h : Hp) (Q : Option PV → Hp → Prop) (σ1 : Sg) (F : Gs × Int32) : Prop := ∀ σ', sr σ0 σ' → gR σ' F.1 → ¬ ge F.1 = 0 → gn F.1 ≤ 300 → σ' 32 0 = σ1 32 0 → Q (some (vI 0)) (hM σ' h)
abbrev kOk (σ0 : Sg) (h : Hp) (zb : Int32) (s : Nat) (Q : Option PV → Hp → Prop) (d : Nat) (σ1 : Sg) (F : Gs × Int32) : Prop := ∀ σ' (o5 o6 : Option PV), sr σ0 σ' → gR σ' F.1 → ge F.1 = 0 → gn F.1 ≤ 300 → lw d σ1 σ' → σ' 21 0 = nI (d + 1) → σ' 27 d = σ1 27 d → σ' 32 0 = σ1 32 0 → S mM_runs 6 0 0 Q 71 [some (vR (100, 0, 0)), some (vI zb), some (vI (nI s)), some (vI F.2), some (vI (nI d)), o5, o6] [] (hM σ' h) 0 0
/-- a frame ends with an outcome -/
theorem l_M_out {d : Nat} {σ1 σ : Sg} {F : Gs × Int32} {o4 o5 o6 : Option PV} (hd : d < 6) (kok : kOk σ0 h zb s Q d σ1 F) (i1 : sr σ0 σ) (i2 : gR σ F.1) (i3 : ge F.1 = 0) (i4 : gn F.1 ≤ 300) (i5 : lw d σ1 σ) (i6 : σ 21 0 = nI (d + 1)) (i7 : σ 27 d = σ1 27 d) (i8 : σ 32 0 = σ1 32 0) (ho : ¬ F.2 = 0) :
    S mM_runs 6 0 0 Q 35 [some (vR (100, 0, 0)), some (vI zb), some (vI (nI s)), some (vI F.2), o4, o5, o6] [] (hM σ h) 0 0 := by
  refine s_aload_n dM_runs_35 rfl rfl ?_
  refine s_mgi dM_runs_36 gf_M_184 rfl ?_
  refine s_top i6 ?_
  refine s_if_le dM_runs_39 (fun q => absurd q (nI_ge (a := 0) (by omega) (by omega))) (fun _ => ?_)
  refine s_aload_n dM_runs_42 rfl rfl ?_
  refine s_mgi dM_runs_43 gf_M_184 rfl ?_
  refine s_top i6 ?_
  refine s_iconst (v := nI 1) dM_runs_46 (by decide) ?_
  first | refine s_isubN dM_runs_47 (by omega) ?_ | refine s_isub dM_runs_47 ?_
  refine s_top (by rw [Nat.add_sub_cancel]) ?_
  refine s_istore dM_runs_48 rfl ?_
  refine s_iload_n dM_runs_50 rfl rfl ?_
  refine s_if_ne dM_runs_51 (fun _ => ?_) (fun q => absurd q ho)
  exact kok σ o5 o6 i1 i2 i3 i4 i5 i6 i7 i8
/-- a row is through -/
theorem l_M_nil {d p : Nat} {σ1 σ : Sg} {g : Gs} {vr : Nat → Int32} {ap : Nat → Bool} {o4 o5 o6 : Option PV} (hd : d < 6) (kok : kOk σ0 h zb s Q d σ1 (g, 0)) (I : IV σ0 σ1 σ d g [] p vr ap) :
    S mM_runs 6 0 0 Q 35 [some (vR (100, 0, 0)), some (vI zb), some (vI (nI s)), some (vI 0), o4, o5, o6] [] (hM σ h) 0 0 := by
  obtain ⟨i1, i2, i3, i4, i5, ⟨f1, f2, f3, f4, f5⟩, i7, i8, i9⟩ := I
  refine s_aload_n dM_runs_35 rfl rfl ?_
  refine s_mgi dM_runs_36 gf_M_184 rfl ?_
  refine s_top i5 ?_
  refine s_if_le dM_runs_39 (fun q => absurd q (nI_ge (a := 0) (by omega) (by omega))) (fun _ => ?_)
  refine s_aload_n dM_runs_42 rfl rfl ?_
  refine s_mgi dM_runs_43 gf_M_184 rfl ?_
  refine s_top i5 ?_
  refine s_iconst (v := nI 1) dM_runs_46 (by decide) ?_
  first | refine s_isubN dM_runs_47 (by omega) ?_ | refine s_isub dM_runs_47 ?_
  refine s_top (by rw [Nat.add_sub_cancel]) ?_
  refine s_istore dM_runs_48 rfl ?_
  refine s_iload_n dM_runs_50 rfl rfl ?_
  refine s_if_ne dM_runs_51 (fun q => absurd rfl q) (fun _ => ?_)
  refine s_aload_n dM_runs_54 rfl rfl ?_
  refine s_mga dM_runs_55 gf_M_61 rfl ?_
  refine s_iload dM_runs_58 rfl ?_
  refine s_mald dM_runs_60 rfl rfl (show _ < 6 by omega) rfl ?_
  refine s_top f3 ?_
  refine s_aload_n dM_runs_61 rfl rfl ?_
  refine s_mga dM_runs_62 gf_M_58 rfl ?_
  refine s_iload dM_runs_65 rfl ?_
  refine s_mald dM_runs_67 rfl rfl (show _ < 6 by omega) rfl ?_
  refine s_top f2 ?_
  refine s_icmp_ne dM_runs_68 (fun q => absurd rfl q) (fun _ => ?_)
  exact kok σ o5 o6 i1 i2 i3 i4 i7 i5 i8 i9
theorem goL_cons {sub : Nat → Nat → Gs → Gs × Int32} {σ : Sg} {s d r : Nat} {l : List Nat} {g : Gs} {vr : Nat → Int32} {ap : Nat → Bool} {F : Gs × Int32} (h1 : goL sub σ s d (r :: l) g vr ap = F) :
    (gn g = 300 ∧ F = (ger g (nI 3) r, 0)) ∨ (¬ gn g = 300 ∧ apP σ r s (gv g) vr ap (nt (σ 13 r)) = false ∧ goL sub σ s d l (gtr g r false d) vr ap = F) ∨ (¬ gn g = 300 ∧ apP σ r s (gv g) vr ap (nt (σ 13 r)) = true ∧ (match dC σ r with
      | 1 => (gtr g r true d, nI (dX σ r))
      | 2 => goL sub σ s d l (gtr g r true d) (uf vr (dX σ r) (vr (dX σ r) + dY σ r)) (ub ap r)
      | 3 => goL sub σ s d l (gsv (gtr g r true d) (4 * s + dX σ r) (dY σ r)) vr (ub ap r)
      | 4 => if vr (nt (dY σ r)) = 0 then (ger (gtr g r true d) 1 r, 0) else goL sub σ s d l (gsv (gtr g r true d) (4 * s + dX σ r) (gv g (4 * s + dX σ r) / vr (nt (dY σ r)))) vr (ub ap r)
      | 5 => if ge (sub r (dX σ r) (gtr g r true d)).1 ≠ 0 then ((sub r (dX σ r) (gtr g r true d)).1, 0) else goL sub σ s d l (sub r (dX σ r) (gtr g r true d)).1 vr (ub ap r)
      | 6 => if ge (sub r (dX σ r) (gtr g r true d)).1 ≠ 0 then ((sub r (dX σ r) (gtr g r true d)).1, 0) else if (sub r (dX σ r) (gtr g r true d)).2 ≠ 0 then sub r (dX σ r) (gtr g r true d) else goL sub σ s d l (sub r (dX σ r) (gtr g r true d)).1 vr (ub ap r)
      | 7 => (gtr g r true d, 0)
      | 8 => goL sub σ s d l (gtr g r true d) (uf vr (dX σ r) (gv g (4 * s + nt (dY σ r)))) (ub ap r)
      | _ => goL sub σ s d l (gtr g r true d) vr (ub ap r)) = F) := by
  unfold goL at h1
  by_cases c1 : gn g = 300
  · rw [if_pos c1] at h1
    exact Or.inl ⟨c1, h1.symm⟩
  · rw [if_neg c1] at h1
    right
    cases c2 : apP σ r s (gv g) vr ap (nt (σ 13 r)) with
    | false =>
      rw [if_pos c2] at h1
      exact Or.inl ⟨c1, rfl, h1⟩
    | true =>
      rw [if_neg (by rw [c2]; decide)] at h1
      exact Or.inr ⟨c1, rfl, h1⟩
theorem l_M_step (X : RN σ0 rw0 R K N NS B) (hs : s < N) {d : Nat} {σ1 : Sg} {F : Gs × Int32} {sub : Nat → Nat → Gs → Gs × Int32} {r : Nat} {l : List Nat} (hd : d < 6) (hr : r < R) (kerr : kErr σ0 h Q σ1 F) (kok : kOk σ0 h zb s Q d σ1 F)
    (rec0 : ∀ (p : Nat) (σ : Sg) (g : Gs) (vr : Nat → Int32) (ap : Nat → Bool) (o4 o5 o6 : Option PV), IV σ0 σ1 σ d g l p vr ap → goL sub σ0 s (d + 1) l g vr ap = F → S mM_runs 6 0 0 Q 35 [some (vR (100, 0, 0)), some (vI zb), some (vI (nI s)), some (vI 0), o4, o5, o6] [] (hM σ h) 0 0)
    (hsub : ∀ (p : Nat) (σ : Sg) (g : Gs) (vr : Nat → Int32) (ap : Nat → Bool) (x c : Nat), IV σ0 σ1 σ d g l p vr ap → c = 5 ∨ c = 6 → σ 14 (3 * r) = nI c → x < B → σ 14 (3 * r + 1) = nI x →
      (ge (sub r x g).1 ≠ 0 → F = ((sub r x g).1, 0)) → (ge (sub r x g).1 = 0 → (c = 6 ∧ (sub r x g).2 ≠ 0 → F = sub r x g) ∧ (¬ (c = 6 ∧ (sub r x g).2 ≠ 0) → goL sub σ0 s (d + 1) l (sub r x g).1 vr ap = F)) →
      S mM_runs 6 0 0 Q 256 [some (vR (100, 0, 0)), some (vI zb), some (vI (nI s)), some (vI 0), some (vI (nI d)), some (vI (nI r)), some (vI 1)] [vI (nI d), vI (nI s), vI (nI r), vR (100, 0, 0)] (hM σ h) 0 0)
    {p : Nat} {σ : Sg} {g : Gs} {vr : Nat → Int32} {ap : Nat → Bool} {o4 o5 o6 : Option PV} (I : IV σ0 σ1 σ d g (r :: l) p vr ap) (hF : goL sub σ0 s (d + 1) (r :: l) g vr ap = F) :
    S mM_runs 6 0 0 Q 35 [some (vR (100, 0, 0)), some (vI zb), some (vI (nI s)), some (vI 0), o4, o5, o6] [] (hM σ h) 0 0 := by
  obtain ⟨W0, S0, C0, D0, hB, hrw⟩ := X
  have hR60 := W0.2.1.1
  have hN := S0.1
  have I0 := I
  obtain ⟨i1, ⟨v1, v2, v3, v4, v5⟩, i3, i4, i5, ⟨f1, f2, f3, f4, f5⟩, i7, i8, i9⟩ := I
  have hlen : p + (r :: l).length = p + 1 + l.length := by simp; omega
  have er : σ 22 (60 * d + p) = nI r := f1 0 r rfl
  have hne : ¬ nI p = nI (p + (r :: l).length) := nI_ne (by omega) (by omega) (by omega)
  rcases goL_cons hF with ⟨c1, c2⟩ | ⟨c1, c2, c3⟩ | ⟨c1, c2, c3⟩
  · have a29 : ∀ x, us σ 24 d x 29 0 = nI 300 := fun x => by rw [us_k (by decide), v3, c1]
    subst c2
    refine s_aload_n dM_runs_35 rfl rfl ?_
    refine s_mgi dM_runs_36 gf_M_184 rfl ?_
    refine s_top i5 ?_
    refine s_if_le dM_runs_39 (fun q => absurd q (nI_ge (a := 0) (by omega) (by omega))) (fun _ => ?_)
    refine s_aload_n dM_runs_42 rfl rfl ?_
    refine s_mgi dM_runs_43 gf_M_184 rfl ?_
    refine s_top i5 ?_
    refine s_iconst (v := nI 1) dM_runs_46 (by decide) ?_
    first | refine s_isubN dM_runs_47 (by omega) ?_ | refine s_isub dM_runs_47 ?_
    refine s_top (by rw [Nat.add_sub_cancel]) ?_
    refine s_istore dM_runs_48 rfl ?_
    refine s_iload_n dM_runs_50 rfl rfl ?_
    refine s_if_ne dM_runs_51 (fun q => absurd rfl q) (fun _ => ?_)
    refine s_aload_n dM_runs_54 rfl rfl ?_
    refine s_mga dM_runs_55 gf_M_61 rfl ?_
    refine s_iload dM_runs_58 rfl ?_
    refine s_mald dM_runs_60 rfl rfl (show _ < 6 by omega) rfl ?_
    refine s_top f3 ?_
    refine s_aload_n dM_runs_61 rfl rfl ?_
    refine s_mga dM_runs_62 gf_M_58 rfl ?_
    refine s_iload dM_runs_65 rfl ?_
    refine s_mald dM_runs_67 rfl rfl (show _ < 6 by omega) rfl ?_
    refine s_top f2 ?_
    refine s_icmp_ne dM_runs_68 (fun _ => ?_) (fun q => absurd q hne)
    refine s_aload_n dM_runs_108 rfl rfl ?_
    refine s_mga dM_runs_109 gf_M_55 rfl ?_
    refine s_bipush (v := nI 60) dM_runs_112 (by decide) ?_
    refine s_iload dM_runs_114 rfl ?_
    first | refine s_imulN dM_runs_116 ?_ | refine s_imul dM_runs_116 ?_
    refine s_aload_n dM_runs_117 rfl rfl ?_
    refine s_mga dM_runs_118 gf_M_61 rfl ?_
    refine s_iload dM_runs_121 rfl ?_
    refine s_mald dM_runs_123 rfl rfl (show _ < 6 by omega) rfl ?_
    refine s_top f3 ?_
    first | refine s_iaddN dM_runs_124 ?_ | refine s_iadd dM_runs_124 ?_
    refine s_mald dM_runs_125 rfl rfl (show _ < 360 by omega) rfl ?_
    refine s_top er ?_
    refine s_istore dM_runs_126 rfl ?_
    refine s_aload_n dM_runs_128 rfl rfl ?_
    refine s_mga dM_runs_129 gf_M_61 rfl ?_
    refine s_iload dM_runs_132 rfl ?_
    refine s_dup2 dM_runs_134 rfl rfl ?_
    refine s_mald dM_runs_135 rfl rfl (show _ < 6 by omega) rfl ?_
    refine s_top f3 ?_
    refine s_iconst (v := nI 1) dM_runs_136 (by decide) ?_
    first | refine s_iaddN dM_runs_137 ?_ | refine s_iadd dM_runs_137 ?_
    refine s_mast dM_runs_138 rfl rfl (show _ < 6 by omega) rfl ?_
    refine s_aload_n dM_runs_139 rfl rfl ?_
    refine s_mgi dM_runs_140 gf_M_191 rfl ?_
    refine s_top (a29 _) ?_
    refine s_sipush (v := nI 300) dM_runs_143 (by decide) ?_
    refine s_icmp_ne dM_runs_146 (fun q => absurd rfl q) (fun _ => ?_)
    refine s_aload_n dM_runs_149 rfl rfl ?_
    refine s_iconst (v := nI 3) dM_runs_150 (by decide) ?_
    refine s_iload dM_runs_151 rfl ?_
    refine s_v2 dM_runs_153 cv_M_201 hM_o (c_M_fails) rfl rfl rfl rfl ?_
    refine s_iret dM_runs_156 rfl (by first | exact Nat.le_refl _ | decide | omega) (by first | exact Nat.le_refl _ | decide | omega) ?_
    refine kerr _ (((i1.us rfl).us rfl).us rfl) ⟨fun i => ?_, fun i => ?_, ?_, ?_, us_s⟩ (by show ¬ nI 3 = 0; decide) i4 ?_
    · rw [us_k (by decide), us_k (by decide), us_k (by decide)]; exact v1 i
    · rw [us_k (by decide), us_k (by decide), us_k (by decide)]; exact v2 i
    · rw [us_k (by decide), us_k (by decide), us_k (by decide)]; exact v3
    · rw [us_k (by decide), us_s]; rfl
    · rw [us_k (by decide), us_k (by decide), us_k (by decide)]; exact i9
  · have I1 := I0.trc c1 false
    have a29 : ∀ x, us σ 24 d x 29 0 = nI (gn g) := fun x => by rw [us_k (by decide)]; exact v3
    have a21 : ∀ x, us σ 24 d x 21 0 = nI (d + 1) := fun x => by rw [us_k (by decide)]; exact i5
    have sa : sr σ0 (us σ 24 d (nI (p + 1))) := i1.us rfl
    have ca := c_M_applies (h := h) (d := d) (vr := vr) (ap := ap) (v := gv g) (W0.1.sr sa) (S0.sr sa) (C0.sr sa) (fun i => by rw [us_k (by decide)]; exact v1 i) ⟨fun x q1 => by rw [us_k (by decide)]; exact f5.1 x q1, fun x q1 => by rw [us_k (by decide)]; exact f5.2 x q1⟩ hd hs hr
    rw [sa 13 r rfl, apP_sr sa, c2] at ca
    refine s_aload_n dM_runs_35 rfl rfl ?_
    refine s_mgi dM_runs_36 gf_M_184 rfl ?_
    refine s_top i5 ?_
    refine s_if_le dM_runs_39 (fun q => absurd q (nI_ge (a := 0) (by omega) (by omega))) (fun _ => ?_)
    refine s_aload_n dM_runs_42 rfl rfl ?_
    refine s_mgi dM_runs_43 gf_M_184 rfl ?_
    refine s_top i5 ?_
    refine s_iconst (v := nI 1) dM_runs_46 (by decide) ?_
    first | refine s_isubN dM_runs_47 (by omega) ?_ | refine s_isub dM_runs_47 ?_
    refine s_top (by rw [Nat.add_sub_cancel]) ?_
    refine s_istore dM_runs_48 rfl ?_
    refine s_iload_n dM_runs_50 rfl rfl ?_
    refine s_if_ne dM_runs_51 (fun q => absurd rfl q) (fun _ => ?_)
    refine s_aload_n dM_runs_54 rfl rfl ?_
    refine s_mga dM_runs_55 gf_M_61 rfl ?_
    refine s_iload dM_runs_58 rfl ?_
    refine s_mald dM_runs_60 rfl rfl (show _ < 6 by omega) rfl ?_
    refine s_top f3 ?_
    refine s_aload_n dM_runs_61 rfl rfl ?_
    refine s_mga dM_runs_62 gf_M_58 rfl ?_
    refine s_iload dM_runs_65 rfl ?_
    refine s_mald dM_runs_67 rfl rfl (show _ < 6 by omega) rfl ?_
    refine s_top f2 ?_
    refine s_icmp_ne dM_runs_68 (fun _ => ?_) (fun q => absurd q hne)
    refine s_aload_n dM_runs_108 rfl rfl ?_
    refine s_mga dM_runs_109 gf_M_55 rfl ?_
    refine s_bipush (v := nI 60) dM_runs_112 (by decide) ?_
    refine s_iload dM_runs_114 rfl ?_
    first | refine s_imulN dM_runs_116 ?_ | refine s_imul dM_runs_116 ?_
    refine s_aload_n dM_runs_117 rfl rfl ?_
    refine s_mga dM_runs_118 gf_M_61 rfl ?_
    refine s_iload dM_runs_121 rfl ?_
    refine s_mald dM_runs_123 rfl rfl (show _ < 6 by omega) rfl ?_
    refine s_top f3 ?_
    first | refine s_iaddN dM_runs_124 ?_ | refine s_iadd dM_runs_124 ?_
    refine s_mald dM_runs_125 rfl rfl (show _ < 360 by omega) rfl ?_
    refine s_top er ?_
    refine s_istore dM_runs_126 rfl ?_
    refine s_aload_n dM_runs_128 rfl rfl ?_
    refine s_mga dM_runs_129 gf_M_61 rfl ?_
    refine s_iload dM_runs_132 rfl ?_
    refine s_dup2 dM_runs_134 rfl rfl ?_
    refine s_mald dM_runs_135 rfl rfl (show _ < 6 by omega) rfl ?_
    refine s_top f3 ?_
    refine s_iconst (v := nI 1) dM_runs_136 (by decide) ?_
    first | refine s_iaddN dM_runs_137 ?_ | refine s_iadd dM_runs_137 ?_
    refine s_mast dM_runs_138 rfl rfl (show _ < 6 by omega) rfl ?_
    refine s_aload_n dM_runs_139 rfl rfl ?_
    refine s_mgi dM_runs_140 gf_M_191 rfl ?_
    refine s_top (a29 _) ?_
    refine s_sipush (v := nI 300) dM_runs_143 (by decide) ?_
    refine s_icmp_ne dM_runs_146 (fun _ => ?_) (fun q => absurd q (nI_ne c1 (by omega) (by omega)))
    refine s_aload_n dM_runs_157 rfl rfl ?_
    refine s_iload dM_runs_158 rfl ?_
    refine s_iload_n dM_runs_160 rfl rfl ?_
    refine s_iload dM_runs_161 rfl ?_
    refine s_v3 dM_runs_163 cv_M_204 hM_o (ca) rfl rfl rfl rfl ?_
    refine s_istore dM_runs_166 rfl ?_
    refine s_aload_n dM_runs_168 rfl rfl ?_
    refine s_mga dM_runs_169 gf_M_74 rfl ?_
    refine s_iconst (v := nI 3) dM_runs_172 (by decide) ?_
    refine s_aload_n dM_runs_173 rfl rfl ?_
    refine s_mgi dM_runs_174 gf_M_191 rfl ?_
    refine s_top (a29 _) ?_
    first | refine s_imulN dM_runs_177 ?_ | refine s_imul dM_runs_177 ?_
    refine s_iload dM_runs_178 rfl ?_
    refine s_mast dM_runs_180 rfl rfl (show _ < 900 by omega) rfl ?_
    refine s_aload_n dM_runs_181 rfl rfl ?_
    refine s_mga dM_runs_182 gf_M_74 rfl ?_
    refine s_iconst (v := nI 3) dM_runs_185 (by decide) ?_
    refine s_aload_n dM_runs_186 rfl rfl ?_
    refine s_mgi dM_runs_187 gf_M_191 rfl ?_
    refine s_top ((us_k (by decide)).trans (a29 _)) ?_
    first | refine s_imulN dM_runs_190 ?_ | refine s_imul dM_runs_190 ?_
    refine s_iconst (v := nI 1) dM_runs_191 (by decide) ?_
    first | refine s_iaddN dM_runs_192 ?_ | refine s_iadd dM_runs_192 ?_
    refine s_iload dM_runs_193 rfl ?_
    refine s_if_eq dM_runs_195 (fun _ => ?_) (fun q => absurd rfl q)
    refine s_iconst (v := 0) dM_runs_202 (by decide) ?_
    refine s_mast dM_runs_203 rfl rfl (show _ < 900 by omega) rfl ?_
    refine s_aload_n dM_runs_204 rfl rfl ?_
    refine s_mga dM_runs_205 gf_M_74 rfl ?_
    refine s_iconst (v := nI 3) dM_runs_208 (by decide) ?_
    refine s_aload_n dM_runs_209 rfl rfl ?_
    refine s_mgi dM_runs_210 gf_M_191 rfl ?_
    refine s_top ((us_k (by decide)).trans ((us_k (by decide)).trans (a29 _))) ?_
    first | refine s_imulN dM_runs_213 ?_ | refine s_imul dM_runs_213 ?_
    refine s_iconst (v := nI 2) dM_runs_214 (by decide) ?_
    first | refine s_iaddN dM_runs_215 ?_ | refine s_iadd dM_runs_215 ?_
    refine s_aload_n dM_runs_216 rfl rfl ?_
    refine s_mgi dM_runs_217 gf_M_184 rfl ?_
    refine s_top ((us_k (by decide)).trans ((us_k (by decide)).trans (a21 _))) ?_
    refine s_mast dM_runs_220 rfl rfl (show _ < 900 by omega) rfl ?_
    refine s_aload_n dM_runs_221 rfl rfl ?_
    refine s_dup dM_runs_222 rfl ?_
    refine s_mgi dM_runs_223 gf_M_191 rfl ?_
    refine s_top ((us_k (by decide)).trans ((us_k (by decide)).trans ((us_k (by decide)).trans (a29 _)))) ?_
    refine s_iconst (v := nI 1) dM_runs_226 (by decide) ?_
    first | refine s_iaddN dM_runs_227 ?_ | refine s_iadd dM_runs_227 ?_
    refine s_mpi dM_runs_228 gf_M_191 rfl rfl (by first | exact ⟨_, rfl⟩ | exact Or.inl rfl | exact Or.inr rfl) ?_
    refine s_iload dM_runs_231 rfl ?_
    refine s_if_eq dM_runs_233 (fun _ => ?_) (fun q => absurd rfl q)
    refine s_goto dM_runs_269 ?_
    exact rec0 (p + 1) _ _ _ _ _ _ _ I1 c3
  · have I1 := (I0.trc c1 true).app (r := r)
    have a29 : ∀ x, us σ 24 d x 29 0 = nI (gn g) := fun x => by rw [us_k (by decide)]; exact v3
    have a21 : ∀ x, us σ 24 d x 21 0 = nI (d + 1) := fun x => by rw [us_k (by decide)]; exact i5
    have sa : sr σ0 (us σ 24 d (nI (p + 1))) := i1.us rfl
    have ca := c_M_applies (h := h) (d := d) (vr := vr) (ap := ap) (v := gv g) (W0.1.sr sa) (S0.sr sa) (C0.sr sa) (fun i => by rw [us_k (by decide)]; exact v1 i) ⟨fun x q1 => by rw [us_k (by decide)]; exact f5.1 x q1, fun x q1 => by rw [us_k (by decide)]; exact f5.2 x q1⟩ hd hs hr
    rw [sa 13 r rfl, apP_sr sa, c2] at ca
    refine s_aload_n dM_runs_35 rfl rfl ?_
    refine s_mgi dM_runs_36 gf_M_184 rfl ?_
    refine s_top i5 ?_
    refine s_if_le dM_runs_39 (fun q => absurd q (nI_ge (a := 0) (by omega) (by omega))) (fun _ => ?_)
    refine s_aload_n dM_runs_42 rfl rfl ?_
    refine s_mgi dM_runs_43 gf_M_184 rfl ?_
    refine s_top i5 ?_
    refine s_iconst (v := nI 1) dM_runs_46 (by decide) ?_
    first | refine s_isubN dM_runs_47 (by omega) ?_ | refine s_isub dM_runs_47 ?_
    refine s_top (by rw [Nat.add_sub_cancel]) ?_
    refine s_istore dM_runs_48 rfl ?_
    refine s_iload_n dM_runs_50 rfl rfl ?_
    refine s_if_ne dM_runs_51 (fun q => absurd rfl q) (fun _ => ?_)
    refine s_aload_n dM_runs_54 rfl rfl ?_
    refine s_mga dM_runs_55 gf_M_61 rfl ?_
    refine s_iload dM_runs_58 rfl ?_
    refine s_mald dM_runs_60 rfl rfl (show _ < 6 by omega) rfl ?_
    refine s_top f3 ?_
    refine s_aload_n dM_runs_61 rfl rfl ?_
    refine s_mga dM_runs_62 gf_M_58 rfl ?_
    refine s_iload dM_runs_65 rfl ?_
    refine s_mald dM_runs_67 rfl rfl (show _ < 6 by omega) rfl ?_
    refine s_top f2 ?_
    refine s_icmp_ne dM_runs_68 (fun _ => ?_) (fun q => absurd q hne)
    refine s_aload_n dM_runs_108 rfl rfl ?_
    refine s_mga dM_runs_109 gf_M_55 rfl ?_
    refine s_bipush (v := nI 60) dM_runs_112 (by decide) ?_
    refine s_iload dM_runs_114 rfl ?_
    first | refine s_imulN dM_runs_116 ?_ | refine s_imul dM_runs_116 ?_
    refine s_aload_n dM_runs_117 rfl rfl ?_
    refine s_mga dM_runs_118 gf_M_61 rfl ?_
    refine s_iload dM_runs_121 rfl ?_
    refine s_mald dM_runs_123 rfl rfl (show _ < 6 by omega) rfl ?_
    refine s_top f3 ?_
    first | refine s_iaddN dM_runs_124 ?_ | refine s_iadd dM_runs_124 ?_
    refine s_mald dM_runs_125 rfl rfl (show _ < 360 by omega) rfl ?_
    refine s_top er ?_
    refine s_istore dM_runs_126 rfl ?_
    refine s_aload_n dM_runs_128 rfl rfl ?_
    refine s_mga dM_runs_129 gf_M_61 rfl ?_
    refine s_iload dM_runs_132 rfl ?_
    refine s_dup2 dM_runs_134 rfl rfl ?_
    refine s_mald dM_runs_135 rfl rfl (show _ < 6 by omega) rfl ?_
    refine s_top f3 ?_
    refine s_iconst (v := nI 1) dM_runs_136 (by decide) ?_
    first | refine s_iaddN dM_runs_137 ?_ | refine s_iadd dM_runs_137 ?_
    refine s_mast dM_runs_138 rfl rfl (show _ < 6 by omega) rfl ?_
    refine s_aload_n dM_runs_139 rfl rfl ?_
    refine s_mgi dM_runs_140 gf_M_191 rfl ?_
    refine s_top (a29 _) ?_
    refine s_sipush (v := nI 300) dM_runs_143 (by decide) ?_
    refine s_icmp_ne dM_runs_146 (fun _ => ?_) (fun q => absurd q (nI_ne c1 (by omega) (by omega)))
    refine s_aload_n dM_runs_157 rfl rfl ?_
    refine s_iload dM_runs_158 rfl ?_
    refine s_iload_n dM_runs_160 rfl rfl ?_
    refine s_iload dM_runs_161 rfl ?_
    refine s_v3 dM_runs_163 cv_M_204 hM_o (ca) rfl rfl rfl rfl ?_
    refine s_istore dM_runs_166 rfl ?_
    refine s_aload_n dM_runs_168 rfl rfl ?_
    refine s_mga dM_runs_169 gf_M_74 rfl ?_
    refine s_iconst (v := nI 3) dM_runs_172 (by decide) ?_
    refine s_aload_n dM_runs_173 rfl rfl ?_
    refine s_mgi dM_runs_174 gf_M_191 rfl ?_
    refine s_top (a29 _) ?_
    first | refine s_imulN dM_runs_177 ?_ | refine s_imul dM_runs_177 ?_
    refine s_iload dM_runs_178 rfl ?_
    refine s_mast dM_runs_180 rfl rfl (show _ < 900 by omega) rfl ?_
    refine s_aload_n dM_runs_181 rfl rfl ?_
    refine s_mga dM_runs_182 gf_M_74 rfl ?_
    refine s_iconst (v := nI 3) dM_runs_185 (by decide) ?_
    refine s_aload_n dM_runs_186 rfl rfl ?_
    refine s_mgi dM_runs_187 gf_M_191 rfl ?_
    refine s_top ((us_k (by decide)).trans (a29 _)) ?_
    first | refine s_imulN dM_runs_190 ?_ | refine s_imul dM_runs_190 ?_
    refine s_iconst (v := nI 1) dM_runs_191 (by decide) ?_
    first | refine s_iaddN dM_runs_192 ?_ | refine s_iadd dM_runs_192 ?_
    refine s_iload dM_runs_193 rfl ?_
    refine s_if_eq dM_runs_195 (fun q => absurd q (by decide)) (fun _ => ?_)
    refine s_iconst (v := 1) dM_runs_198 (by decide) ?_
    refine s_goto dM_runs_199 ?_
    refine s_mast dM_runs_203 rfl rfl (show _ < 900 by omega) rfl ?_
    refine s_aload_n dM_runs_204 rfl rfl ?_
    refine s_mga dM_runs_205 gf_M_74 rfl ?_
    refine s_iconst (v := nI 3) dM_runs_208 (by decide) ?_
    refine s_aload_n dM_runs_209 rfl rfl ?_
    refine s_mgi dM_runs_210 gf_M_191 rfl ?_
    refine s_top ((us_k (by decide)).trans ((us_k (by decide)).trans (a29 _))) ?_
    first | refine s_imulN dM_runs_213 ?_ | refine s_imul dM_runs_213 ?_
    refine s_iconst (v := nI 2) dM_runs_214 (by decide) ?_
    first | refine s_iaddN dM_runs_215 ?_ | refine s_iadd dM_runs_215 ?_
    refine s_aload_n dM_runs_216 rfl rfl ?_
    refine s_mgi dM_runs_217 gf_M_184 rfl ?_
    refine s_top ((us_k (by decide)).trans ((us_k (by decide)).trans (a21 _))) ?_
    refine s_mast dM_runs_220 rfl rfl (show _ < 900 by omega) rfl ?_
    refine s_aload_n dM_runs_221 rfl rfl ?_
    refine s_dup dM_runs_222 rfl ?_
    refine s_mgi dM_runs_223 gf_M_191 rfl ?_
    refine s_top ((us_k (by decide)).trans ((us_k (by decide)).trans ((us_k (by decide)).trans (a29 _)))) ?_
    refine s_iconst (v := nI 1) dM_runs_226 (by decide) ?_
    first | refine s_iaddN dM_runs_227 ?_ | refine s_iadd dM_runs_227 ?_
    refine s_mpi dM_runs_228 gf_M_191 rfl rfl (by first | exact ⟨_, rfl⟩ | exact Or.inl rfl | exact Or.inr rfl) ?_
    refine s_iload dM_runs_231 rfl ?_
    refine s_if_eq dM_runs_233 (fun q => absurd q (by decide)) (fun _ => ?_)
    refine s_aload_n dM_runs_236 rfl rfl ?_
    refine s_mga dM_runs_237 gf_M_67 rfl ?_
    refine s_bipush (v := nI 60) dM_runs_240 (by decide) ?_
    refine s_iload dM_runs_242 rfl ?_
    first | refine s_imulN dM_runs_244 ?_ | refine s_imul dM_runs_244 ?_
    refine s_iload dM_runs_245 rfl ?_
    first | refine s_iaddN dM_runs_247 ?_ | refine s_iadd dM_runs_247 ?_
    refine s_iconst (v := 1) dM_runs_248 (by decide) ?_
    refine s_mzst dM_runs_249 rfl rfl (by first | exact Or.inl rfl | exact Or.inr rfl | assumption) (show _ < 360 by omega) rfl ?_
    refine s_aload_n dM_runs_250 rfl rfl ?_
    refine s_iload dM_runs_251 rfl ?_
    refine s_iload_n dM_runs_253 rfl rfl ?_
    refine s_iload dM_runs_254 rfl ?_
    refine (?_ : S mM_runs 6 0 0 Q 256 _ _ (hM (us (us (us (us (us (us σ 24 d (nI (p + 1))) 28 (3 * gn g) (nI r)) 28 (3 * gn g + 1) (zi true)) 28 (3 * gn g + 2) (nI (d + 1))) 29 0 (nI (gn g + 1))) 26 (60 * d + r) 1) h) 0 0)
    generalize us (us (us (us (us (us σ 24 d (nI (p + 1))) 28 (3 * gn g) (nI r)) 28 (3 * gn g + 1) (zi true)) 28 (3 * gn g + 2) (nI (d + 1))) 29 0 (nI (gn g + 1))) 26 (60 * d + r) 1 = τ at I1 ⊢
    have egv : gv (gtr g r true (d + 1)) = gv g := rfl
    generalize hg1 : gtr g r true (d + 1) = g1 at I1 c3 egv
    obtain ⟨c, hc8, e0, d1, d2, d3, d4⟩ := D0 r hr
    have edC : dC σ0 r = c := by unfold dC; rw [e0, nt_nI (by omega)]
    rw [edC] at c3
    have I2 := I1
    obtain ⟨j1, ⟨w1, w2, w3, w4, w5⟩, j3, j4, j5, ⟨k1, k2, k3, k4, k5⟩, j7, j8, j9⟩ := I1
    have t0 : τ 14 (3 * r) = nI c := (j1 14 _ rfl).trans e0
    have w40 : τ 30 0 = 0 := w4.trans j3
    rcases (show c = 0 ∨ c = 1 ∨ c = 2 ∨ c = 3 ∨ c = 4 ∨ (c = 5 ∨ c = 6) ∨ c = 7 ∨ c = 8 by omega) with rfl | rfl | rfl | rfl | rfl | hc56 | rfl | rfl
    · change goL sub σ0 s (d + 1) l g1 vr (ub ap r) = F at c3
      refine s_v3 dM_runs_256 cv_M_207 hM_o (c_M_wk0 (by omega) (by omega) hd t0) rfl rfl rfl rfl ?_
      refine s_istore_n dM_runs_259 rfl rfl ?_
      refine s_aload_n dM_runs_260 rfl rfl ?_
      refine s_mgi dM_runs_261 gf_M_194 rfl ?_
      refine s_if_eq dM_runs_264 (fun _ => ?_) (fun q => absurd w40 q)
      refine s_goto dM_runs_269 ?_
      exact rec0 _ _ _ _ _ _ _ _ I2 c3
    · change (g1, nI (dX σ0 r)) = F at c3
      obtain ⟨x, hx1, hx2, ex⟩ := d1 rfl
      have tx : τ 14 (3 * r + 1) = nI x := (j1 14 _ rfl).trans ex
      have edX : nt (σ0 14 (3 * r + 1)) = x := by rw [ex, nt_nI (by omega)]
      simp only [dX, edX] at c3
      subst c3
      refine s_v3 dM_runs_256 cv_M_207 hM_o (c_M_wk1 (by omega) (by omega) hd t0) rfl rfl rfl rfl ?_
      refine s_top tx ?_
      refine s_istore_n dM_runs_259 rfl rfl ?_
      refine s_aload_n dM_runs_260 rfl rfl ?_
      refine s_mgi dM_runs_261 gf_M_194 rfl ?_
      refine s_if_eq dM_runs_264 (fun _ => ?_) (fun q => absurd w40 q)
      refine s_goto dM_runs_269 ?_
      exact l_M_out (F := (g1, nI x)) hd kok j1 ⟨w1, w2, w3, w4, w5⟩ j3 j4 j7 j5 j8 j9 (nI_ne (b := 0) (by omega) (by omega) (by omega))
    · change goL sub σ0 s (d + 1) l g1 (uf vr (dX σ0 r) (vr (dX σ0 r) + dY σ0 r)) (ub ap r) = F at c3
      obtain ⟨x, hx1, ex⟩ := d2 (by omega)
      have tx : τ 14 (3 * r + 1) = nI x := (j1 14 _ rfl).trans ex
      have edX : nt (σ0 14 (3 * r + 1)) = x := by rw [ex, nt_nI (by omega)]
      simp only [dX, dY, edX] at c3
      have cw := c_M_wk2 (h := h) (s := s) (d := d) (by omega) (by omega) hd t0 tx hx1
      rw [k5.1 x hx1, j1 14 _ rfl] at cw
      refine s_v3 dM_runs_256 cv_M_207 hM_o (cw) rfl rfl rfl rfl ?_
      refine s_istore_n dM_runs_259 rfl rfl ?_
      refine s_aload_n dM_runs_260 rfl rfl ?_
      refine s_mgi dM_runs_261 gf_M_194 rfl ?_
      refine s_if_eq dM_runs_264 (fun _ => ?_) (fun q => absurd ((us_k (by decide)).trans w40) q)
      refine s_goto dM_runs_269 ?_
      exact rec0 _ _ _ _ _ _ _ _ I2.var c3
    · change goL sub σ0 s (d + 1) l (gsv g1 (4 * s + dX σ0 r) (dY σ0 r)) vr (ub ap r) = F at c3
      obtain ⟨x, hx1, ex⟩ := d2 (by omega)
      have tx : τ 14 (3 * r + 1) = nI x := (j1 14 _ rfl).trans ex
      have edX : nt (σ0 14 (3 * r + 1)) = x := by rw [ex, nt_nI (by omega)]
      simp only [dX, dY, edX] at c3
      have cw := c_M_wk3 (h := h) (s := s) (d := d) (by omega) (by omega) hd t0 tx hx1
      rw [j1 14 _ rfl] at cw
      refine s_v3 dM_runs_256 cv_M_207 hM_o (cw) rfl rfl rfl rfl ?_
      refine s_istore_n dM_runs_259 rfl rfl ?_
      refine s_aload_n dM_runs_260 rfl rfl ?_
      refine s_mgi dM_runs_261 gf_M_194 rfl ?_
      refine s_if_eq dM_runs_264 (fun _ => ?_) (fun q => absurd ((us_k (by decide)).trans w40) q)
      refine s_goto dM_runs_269 ?_
      exact rec0 _ _ _ _ _ _ _ _ I2.val c3
    · change (if vr (nt (dY σ0 r)) = 0 then (ger g1 1 r, 0) else goL sub σ0 s (d + 1) l (gsv g1 (4 * s + dX σ0 r) (gv g (4 * s + dX σ0 r) / vr (nt (dY σ0 r)))) vr (ub ap r)) = F at c3
      obtain ⟨x, hx1, ex⟩ := d2 (by omega)
      obtain ⟨y, hy1, ey⟩ := d3 (by omega)
      have tx : τ 14 (3 * r + 1) = nI x := (j1 14 _ rfl).trans ex
      have ty : τ 14 (3 * r + 2) = nI y := (j1 14 _ rfl).trans ey
      have edX : nt (σ0 14 (3 * r + 1)) = x := by rw [ex, nt_nI (by omega)]
      have edY : nt (σ0 14 (3 * r + 2)) = y := by rw [ey, nt_nI (by omega)]
      simp only [dX, dY, edX, edY] at c3
      by_cases c4 : vr y = 0
      · rw [if_pos c4] at c3
        subst c3
        refine s_v3 dM_runs_256 cv_M_207 hM_o (c_M_wk4a (by omega) (by omega) hd t0 tx hx1 ty hy1 ((k5.1 y hy1).trans c4)) rfl rfl rfl rfl ?_
        refine s_istore_n dM_runs_259 rfl rfl ?_
        refine s_aload_n dM_runs_260 rfl rfl ?_
        refine s_mgi dM_runs_261 gf_M_194 rfl ?_
        refine s_if_eq dM_runs_264 (fun q => absurd q (by rw [us_k (by decide), us_s]; decide)) (fun _ => ?_)
        refine s_iconst (v := 0) dM_runs_267 (by decide) ?_
        refine s_iret dM_runs_268 rfl (by first | exact Nat.le_refl _ | decide | omega) (by first | exact Nat.le_refl _ | decide | omega) ?_
        refine kerr _ ((j1.us rfl).us rfl) ⟨fun i => ?_, fun i => ?_, ?_, ?_, us_s⟩ (by show ¬ (1 : Int32) = 0; decide) j4 ?_
        · rw [us_k (by decide), us_k (by decide)]; exact w1 i
        · rw [us_k (by decide), us_k (by decide)]; exact w2 i
        · rw [us_k (by decide), us_k (by decide)]; exact w3
        · rw [us_k (by decide), us_s]; rfl
        · rw [us_k (by decide), us_k (by decide)]; exact j9
      · rw [if_neg c4] at c3
        have cw := c_M_wk4b (h := h) (s := s) (d := d) (by omega) (by omega) hd t0 tx hx1 ty hy1 (by rw [k5.1 y hy1]; exact c4)
        rw [k5.1 y hy1, w1, egv] at cw
        refine s_v3 dM_runs_256 cv_M_207 hM_o (cw) rfl rfl rfl rfl ?_
        refine s_istore_n dM_runs_259 rfl rfl ?_
        refine s_aload_n dM_runs_260 rfl rfl ?_
        refine s_mgi dM_runs_261 gf_M_194 rfl ?_
        refine s_if_eq dM_runs_264 (fun _ => ?_) (fun q => absurd ((us_k (by decide)).trans w40) q)
        refine s_goto dM_runs_269 ?_
        exact rec0 _ _ _ _ _ _ _ _ I2.val c3
    · obtain ⟨x, hx1, ex⟩ := d4 hc56
      have tx : τ 14 (3 * r + 1) = nI x := (j1 14 _ rfl).trans ex
      have edX : nt (σ0 14 (3 * r + 1)) = x := by rw [ex, nt_nI (by omega)]
      refine hsub _ τ g1 _ _ x c I2 hc56 t0 hx1 tx ?_ ?_
      · intro z1
        rcases hc56 with rfl | rfl
        · change (if ge (sub r (dX σ0 r) g1).1 ≠ 0 then ((sub r (dX σ0 r) g1).1, 0) else goL sub σ0 s (d + 1) l (sub r (dX σ0 r) g1).1 vr (ub ap r)) = F at c3
          simp only [dX, edX] at c3
          rw [if_pos z1] at c3
          exact c3.symm
        · change (if ge (sub r (dX σ0 r) g1).1 ≠ 0 then ((sub r (dX σ0 r) g1).1, 0) else if (sub r (dX σ0 r) g1).2 ≠ 0 then sub r (dX σ0 r) g1 else goL sub σ0 s (d + 1) l (sub r (dX σ0 r) g1).1 vr (ub ap r)) = F at c3
          simp only [dX, edX] at c3
          rw [if_pos z1] at c3
          exact c3.symm
      · intro z1
        rcases hc56 with rfl | rfl
        · change (if ge (sub r (dX σ0 r) g1).1 ≠ 0 then ((sub r (dX σ0 r) g1).1, 0) else goL sub σ0 s (d + 1) l (sub r (dX σ0 r) g1).1 vr (ub ap r)) = F at c3
          simp only [dX, edX] at c3
          rw [if_neg (fun z2 => z2 z1)] at c3
          exact ⟨fun z2 => by omega, fun _ => c3⟩
        · change (if ge (sub r (dX σ0 r) g1).1 ≠ 0 then ((sub r (dX σ0 r) g1).1, 0) else if (sub r (dX σ0 r) g1).2 ≠ 0 then sub r (dX σ0 r) g1 else goL sub σ0 s (d + 1) l (sub r (dX σ0 r) g1).1 vr (ub ap r)) = F at c3
          simp only [dX, edX] at c3
          rw [if_neg (fun z2 => z2 z1)] at c3
          refine ⟨fun z2 => ?_, fun z2 => ?_⟩
          · rw [if_pos z2.2] at c3; exact c3.symm
          · rw [if_neg (fun z3 => z2 ⟨rfl, z3⟩)] at c3; exact c3
    · change (g1, 0) = F at c3
      subst c3
      refine s_v3 dM_runs_256 cv_M_207 hM_o (c_M_wk7 (by omega) (by omega) hd t0) rfl rfl rfl rfl ?_
      refine s_istore_n dM_runs_259 rfl rfl ?_
      refine s_aload_n dM_runs_260 rfl rfl ?_
      refine s_mgi dM_runs_261 gf_M_194 rfl ?_
      refine s_if_eq dM_runs_264 (fun _ => ?_) (fun q => absurd ((us_k (by decide)).trans w40) q)
      refine s_goto dM_runs_269 ?_
      exact l_M_nil hd kok I2.stop
    · change goL sub σ0 s (d + 1) l g1 (uf vr (dX σ0 r) (gv g (4 * s + nt (dY σ0 r)))) (ub ap r) = F at c3
      obtain ⟨x, hx1, ex⟩ := d2 (by omega)
      obtain ⟨y, hy1, ey⟩ := d3 (by omega)
      have tx : τ 14 (3 * r + 1) = nI x := (j1 14 _ rfl).trans ex
      have ty : τ 14 (3 * r + 2) = nI y := (j1 14 _ rfl).trans ey
      have edX : nt (σ0 14 (3 * r + 1)) = x := by rw [ex, nt_nI (by omega)]
      have edY : nt (σ0 14 (3 * r + 2)) = y := by rw [ey, nt_nI (by omega)]
      simp only [dX, dY, edX, edY] at c3
      have cw := c_M_wk8 (h := h) (s := s) (d := d) (by omega) (by omega) hd t0 tx hx1 ty hy1
      rw [w1, egv] at cw
      refine s_v3 dM_runs_256 cv_M_207 hM_o (cw) rfl rfl rfl rfl ?_
      refine s_istore_n dM_runs_259 rfl rfl ?_
      refine s_aload_n dM_runs_260 rfl rfl ?_
      refine s_mgi dM_runs_261 gf_M_194 rfl ?_
      refine s_if_eq dM_runs_264 (fun _ => ?_) (fun q => absurd ((us_k (by decide)).trans w40) q)
      refine s_goto dM_runs_269 ?_
      exact rec0 _ _ _ _ _ _ _ _ I2.var c3
theorem l_M_runs (X : RN σ0 rw0 R K N NS B) (hs : s < N) : ∀ (n d : Nat) (σ1 : Sg) (F : Gs × Int32), d + n = 5 → kErr σ0 h Q σ1 F → kOk σ0 h zb s Q d σ1 F →
    ∀ (l : List Nat) (p : Nat) (σ : Sg) (g : Gs) (vr : Nat → Int32) (ap : Nat → Bool) (o4 o5 o6 : Option PV), IV σ0 σ1 σ d g l p vr ap → (∀ x ∈ l, x < R) → goL (runS σ0 rw0 s n) σ0 s (d + 1) l g vr ap = F →
      S mM_runs 6 0 0 Q 35 [some (vR (100, 0, 0)), some (vI zb), some (vI (nI s)), some (vI 0), o4, o5, o6] [] (hM σ h) 0 0 := by
  have X0 := X
  obtain ⟨W0, S0, C0, D0, hB, hrw⟩ := X
  have hR60 := W0.2.1.1
  have hN := S0.1
  intro n
  induction n with
  | zero =>
    intro d σ1 F hdn kerr kok l
    induction l with
    | nil =>
      intro p σ g vr ap o4 o5 o6 I hl1 hF
      subst hF
      exact l_M_nil (by omega) kok I
    | cons r l ih1 =>
      intro p σ g vr ap o4 o5 o6 I hl1 hF
      have hr1 := hl1 r List.mem_cons_self
      refine l_M_step X0 hs (by omega) hr1 kerr kok (fun p σ g vr ap o4 o5 o6 I1 hF1 => ih1 p σ g vr ap o4 o5 o6 I1 (fun x hx1 => hl1 x (List.mem_cons_of_mem _ hx1)) hF1) ?_ I hF
      intro p σ g vr ap x c I1 hc56 t0 hx1 tx z1 z2
      have z3 := z1 (by show ¬ nI 2 = 0; decide)
      subst z3
      obtain ⟨j1, ⟨w1, w2, w3, w4, w5⟩, j3, j4, j5, -, j7, j8, j9⟩ := I1
      have ed : d = 5 := by omega
      subst ed
      refine s_v3 dM_runs_256 cv_M_207 hM_o (c_M_wk5a (by omega) (by omega) (by omega) t0 hc56 j5) rfl rfl rfl rfl ?_
      refine s_istore_n dM_runs_259 rfl rfl ?_
      refine s_aload_n dM_runs_260 rfl rfl ?_
      refine s_mgi dM_runs_261 gf_M_194 rfl ?_
      refine s_if_eq dM_runs_264 (fun q => absurd q (by rw [us_k (by decide), us_s]; decide)) (fun _ => ?_)
      refine s_iconst (v := 0) dM_runs_267 (by decide) ?_
      refine s_iret dM_runs_268 rfl (by first | exact Nat.le_refl _ | decide | omega) (by first | exact Nat.le_refl _ | decide | omega) ?_
      refine kerr _ ((j1.us rfl).us rfl) ⟨fun i => ?_, fun i => ?_, ?_, ?_, us_s⟩ (by show ¬ nI 2 = 0; decide) j4 ?_
      · rw [us_k (by decide), us_k (by decide)]; exact w1 i
      · rw [us_k (by decide), us_k (by decide)]; exact w2 i
      · rw [us_k (by decide), us_k (by decide)]; exact w3
      · rw [us_k (by decide), us_s]; rfl
      · rw [us_k (by decide), us_k (by decide)]; exact j9
  | succ n ihn =>
    intro d σ1 F hdn kerr kok l
    induction l with
    | nil =>
      intro p σ g vr ap o4 o5 o6 I hl1 hF
      subst hF
      exact l_M_nil (by omega) kok I
    | cons r l ih1 =>
      intro p σ g vr ap o4 o5 o6 I hl1 hF
      have hr1 := hl1 r List.mem_cons_self
      have hl2 : ∀ x ∈ l, x < R := fun x hx1 => hl1 x (List.mem_cons_of_mem _ hx1)
      refine l_M_step X0 hs (by omega) hr1 kerr kok (fun p σ g vr ap o4 o5 o6 I1 hF1 => ih1 p σ g vr ap o4 o5 o6 I1 hl2 hF1) ?_ I hF
      intro p σ g vr ap x c I1 hc56 t0 hx1 tx z1 z2
      have I2 := I1
      obtain ⟨j1, j2, j3, j4, j5, -, j7, j8, j9⟩ := I1
      obtain ⟨O, ho1, ho2⟩ := hrw x hx1
      have hm1 := X0.mem hx1
      have cw := c_M_wk5b (h := h) (s := s) (d := d) (by omega) (by omega) (by omega) (W0.sr j1) t0 hc56 tx (by omega) (ordL_sr j1 ho1) (d' := d + 1) (by omega) j5
      rw [rowS_sr j1, ← ho2] at cw
      refine s_callV (As := [_, _, _]) dM_runs_256 cv_M_207 hM_o (cw) rfl rfl rfl rfl (fun v h' q => ?_)
      obtain ⟨rfl, σ2, rfl, U⟩ := q
      have I3 := U.iv j1 j2 j3 j4 (by omega)
      have U1 := U.2.1
      have U7 := U.2.2.2.2.2.2.1
      have e32 : σ2 32 0 = σ 32 0 := U.1 32 0 (by decide)
      refine s_istore_n dM_runs_259 rfl rfl ?_
      refine s_aload_n dM_runs_260 rfl rfl ?_
      refine s_mgi dM_runs_261 gf_M_194 rfl ?_
      refine s_if_eq dM_runs_264 (fun _ => ?_) (fun q => absurd (I3.2.1.2.2.2.1.trans I3.2.2.1) q)
      refine s_goto dM_runs_269 ?_
      have hrun : runS σ0 rw0 s (n + 1) r x g = goL (runS σ0 rw0 s n) σ0 s (d + 1 + 1) (rw0 x) g (fun y => σ0 7 (4 * x + y)) (fun _ => false) := by
        show goL (runS σ0 rw0 s n) σ0 s (6 - n) (rw0 x) g (fun y => σ0 7 (4 * x + y)) (fun _ => false) = _
        rw [show 6 - n = d + 1 + 1 by omega]
      rw [hrun] at z1 z2
      generalize hF2 : goL (runS σ0 rw0 s n) σ0 s (d + 1 + 1) (rw0 x) g (fun y => σ0 7 (4 * x + y)) (fun _ => false) = F2 at z1 z2
      refine ihn (d + 1) σ2 F2 (by omega) ?_ ?_ (rw0 x) 0 σ2 g _ _ _ _ _ I3 hm1.1 hF2
      · intro σ' a1 a2 a3 a4 a5
        have z3 := z1 a3
        subst z3
        exact kerr σ' a1 a2 a3 a4 (by rw [a5, e32]; exact j9)
      · intro σ' o5 o6 a1 a2 a3 a4 a5 a6 a7 a8
        have I4 := I2.back (g' := F2.1) a1 a2 a3 a4 (U1.tr a5) (by rw [a8, e32])
        obtain ⟨z3, z4⟩ := z2 a3
        by_cases c6 : c = 6
        · subst c6
          have e27 : σ' 27 (d + 1) = 1 := a7.trans U7
          refine s_aload_n dM_runs_71 rfl rfl ?_
          refine s_mgi dM_runs_72 gf_M_184 rfl ?_
          refine s_top a6 ?_
          refine s_iconst (v := 1) dM_runs_75 (by decide) ?_
          refine s_icmp_le dM_runs_76 (fun q => absurd q (nI_ge (a := 1) (b := d + 1 + 1) (by omega) (by omega))) (fun _ => ?_)
          refine s_aload_n dM_runs_79 rfl rfl ?_
          refine s_mga dM_runs_80 gf_M_71 rfl ?_
          refine s_iload dM_runs_83 rfl ?_
          refine s_mzld dM_runs_85 rfl rfl (show _ < 6 by omega) rfl ?_
          refine s_if_ne dM_runs_86 (fun _ => ?_) (fun q => absurd q (by rw [e27]; decide))
          refine s_iload_n dM_runs_93 rfl rfl ?_
          refine s_istore_n dM_runs_94 rfl rfl ?_
          refine s_aload_n dM_runs_95 rfl rfl ?_
          refine s_dup dM_runs_96 rfl ?_
          refine s_mgi dM_runs_97 gf_M_184 rfl ?_
          refine s_top a6 ?_
          refine s_iconst (v := nI 1) dM_runs_100 (by decide) ?_
          first | refine s_isubN dM_runs_101 (by omega) ?_ | refine s_isub dM_runs_101 ?_
          refine s_top (by rw [Nat.add_sub_cancel]) ?_
          refine s_mpi dM_runs_102 gf_M_184 rfl rfl (by first | exact ⟨_, rfl⟩ | exact Or.inl rfl | exact Or.inr rfl) ?_
          refine s_goto dM_runs_105 ?_
          by_cases c7 : F2.2 = 0
          · rw [c7]
            exact ih1 _ _ _ _ _ _ _ _ I4 hl2 (z4 (fun z5 => z5.2 c7))
          · have z5 := z3 ⟨rfl, c7⟩
            subst z5
            exact l_M_out (by omega) kok I4.1 I4.2.1 a3 a4 I4.2.2.2.2.2.2.1 I4.2.2.2.2.1 I4.2.2.2.2.2.2.2.1 I4.2.2.2.2.2.2.2.2 c7
        · have e27 : σ' 27 (d + 1) = 0 := by rw [a7, U7, zi_dec.2 c6]
          refine s_aload_n dM_runs_71 rfl rfl ?_
          refine s_mgi dM_runs_72 gf_M_184 rfl ?_
          refine s_top a6 ?_
          refine s_iconst (v := 1) dM_runs_75 (by decide) ?_
          refine s_icmp_le dM_runs_76 (fun q => absurd q (nI_ge (a := 1) (b := d + 1 + 1) (by omega) (by omega))) (fun _ => ?_)
          refine s_aload_n dM_runs_79 rfl rfl ?_
          refine s_mga dM_runs_80 gf_M_71 rfl ?_
          refine s_iload dM_runs_83 rfl ?_
          refine s_mzld dM_runs_85 rfl rfl (show _ < 6 by omega) rfl ?_
          refine s_if_ne dM_runs_86 (fun q => absurd e27 q) (fun _ => ?_)
          refine s_iconst (v := 0) dM_runs_89 (by decide) ?_
          refine s_goto dM_runs_90 ?_
          refine s_istore_n dM_runs_94 rfl rfl ?_
          refine s_aload_n dM_runs_95 rfl rfl ?_
          refine s_dup dM_runs_96 rfl ?_
          refine s_mgi dM_runs_97 gf_M_184 rfl ?_
          refine s_top a6 ?_
          refine s_iconst (v := nI 1) dM_runs_100 (by decide) ?_
          first | refine s_isubN dM_runs_101 (by omega) ?_ | refine s_isub dM_runs_101 ?_
          refine s_top (by rw [Nat.add_sub_cancel]) ?_
          refine s_mpi dM_runs_102 gf_M_184 rfl rfl (by first | exact ⟨_, rfl⟩ | exact Or.inl rfl | exact Or.inr rfl) ?_
          refine s_goto dM_runs_105 ?_
          exact ih1 _ _ _ _ _ _ _ _ I4 hl2 (z4 (fun z5 => c6 z5.1))
end LP
