/-! runs: what changes, what stays -/
/-- values, trace, its length, error, its rule -/
abbrev Gs : Type := (Nat → Int32) × (Nat → Int32) × Nat × Int32 × Int32
abbrev gv (g : Gs) : Nat → Int32 := g.1
abbrev gt (g : Gs) : Nat → Int32 := g.2.1
abbrev gn (g : Gs) : Nat := g.2.2.1
abbrev ge (g : Gs) : Int32 := g.2.2.2.1
abbrev gs (g : Gs) : Int32 := g.2.2.2.2
def uf (f : Nat → Int32) (i : Nat) (x : Int32) : Nat → Int32 := fun j => if j = i then x else f j
def ub (f : Nat → Bool) (i : Nat) : Nat → Bool := fun j => if j = i then true else f j
def gR (σ : Sg) (g : Gs) : Prop := (∀ i, σ 4 i = gv g i) ∧ (∀ i, σ 28 i = gt g i) ∧ σ 29 0 = nI (gn g) ∧ σ 30 0 = ge g ∧ σ 31 0 = gs g
/-- fields that runs write -/
def rk (k : Nat) : Bool := decide (k = 4) || (decide (19 ≤ k) && decide (k ≤ 32))
def sr (σ0 σ : Sg) : Prop := ∀ k j, rk k = false → σ k j = σ0 k j
theorem sr.rf {σ : Sg} : sr σ σ := fun _ _ _ => rfl
theorem sr.tr {a b c : Sg} (h1 : sr a b) (h2 : sr b c) : sr a c := fun k j q1 => (h2 k j q1).trans (h1 k j q1)
theorem sr.us {σ0 σ : Sg} {k j : Nat} {x : Int32} (h1 : sr σ0 σ) (hk1 : rk k = true) : sr σ0 (us σ k j x) := fun k' j' q1 => by
  have c1 : k' ≠ k := fun z1 => by rw [z1, hk1] at q1; cases q1
  rw [us_k c1]
  exact h1 k' j' q1
theorem sm.sr {σ σ' : Sg} (h1 : sm σ σ') : sr σ σ' := fun k j q1 => h1 k j (fun z1 => by subst z1; cases q1) (fun z1 => by subst z1; cases q1)
/-- a condition: code, x, y -/
abbrev cCd (σ : Sg) (r k : Nat) : Nat := nt (σ 12 (12 * r + 3 * k))
abbrev cXx (σ : Sg) (r k : Nat) : Nat := nt (σ 12 (12 * r + 3 * k + 1))
abbrev cYy (σ : Sg) (r k : Nat) : Int32 := σ 12 (12 * r + 3 * k + 2)
def bs (c : Nat) : Nat := if 10 ≤ c then c - 10 else c
def soP (σ : Sg) (c x : Nat) (y : Int32) (s : Nat) (v vr : Nat → Int32) (ap : Nat → Bool) : Bool := match c with
  | 0 => und σ 20 (nt (σ 3 s)) x
  | 1 => decide (v (4 * s + x) = y)
  | 2 => decide (y < v (4 * s + x))
  | 3 => decide (vr x = y)
  | 4 => decide (y < vr x)
  | 5 => decide (σ 42 x = 1)
  | _ => ap x
def cnP (σ : Sg) (r k s : Nat) (v vr : Nat → Int32) (ap : Nat → Bool) : Bool := soP σ (bs (cCd σ r k)) (cXx σ r k) (cYy σ r k) s v vr ap != decide (10 ≤ cCd σ r k)
def apP (σ : Sg) (r s : Nat) (v vr : Nat → Int32) (ap : Nat → Bool) : Nat → Bool
  | 0 => true
  | k + 1 => apP σ r s v vr ap k && cnP σ r k s v vr ap
/-- conditions, deeds, subjects, scenes are well told -/
def xOk (c x K NS R : Nat) : Prop := match c with
  | 0 => x < K
  | 5 => x < NS
  | 6 => x < R
  | _ => x < 4
def CP (σ : Sg) (R K NS : Nat) : Prop := NS ≤ 8 ∧ R ≤ 60 ∧ (∀ x, x < NS → σ 42 x = 0 ∨ σ 42 x = 1) ∧ ∀ r, r < R → ∃ m, m ≤ 4 ∧ σ 13 r = nI m ∧ ∀ k, k < m → ∃ c x, c ≤ 16 ∧ bs c ≤ 6 ∧ (7 ≤ c → 10 ≤ c) ∧ σ 12 (12 * r + 3 * k) = nI c ∧ σ 12 (12 * r + 3 * k + 1) = nI x ∧ xOk (bs c) x K NS R
/-- a frame's numbers and marks -/
def fV (σ : Sg) (d : Nat) (vr : Nat → Int32) (ap : Nat → Bool) : Prop := (∀ x, x < 4 → σ 25 (4 * d + x) = vr x) ∧ ∀ r, r < 60 → σ 26 (60 * d + r) = zi (ap r)
theorem zi_dec {p : Prop} [Decidable p] : (p → zi (decide p) = 1) ∧ (¬ p → zi (decide p) = 0) := ⟨fun h1 => by simp [zi, h1], fun h1 => by simp [zi, h1]⟩
theorem c_M_isSo {σ : Sg} {h : Hp} {R K N NS c x s d : Nat} {y : Int32} {v vr : Nat → Int32} {ap : Nat → Bool} (T : KP σ K) (S1 : SK σ N K) (hNS : NS ≤ 8) (hR : R ≤ 60) (hh : ∀ x, x < NS → σ 42 x = 0 ∨ σ 42 x = 1) (hv : ∀ i, σ 4 i = v i) (F : fV σ d vr ap) (hd : d < 6) (hs : s < N) (hc : c ≤ 6) (hx : xOk c x K NS R) : ConF mM_isSo 1 [vR (100, 0, 0), vI (nI c), vI (nI x), vI y, vI (nI s), vI (nI d)] (hM σ h) (some (vI (zi (soP σ c x y s v vr ap)))) (hM σ h) := by
  obtain ⟨hN, S2⟩ := S1
  obtain ⟨k1, hk1, ek1⟩ := S2 s hs
  have hK := T.2.1
  refine c_enter (by decide +kernel) rfl rfl ?_
  match c, hc with
  | 0, _ =>
    have e1 : soP σ 0 x y s v vr ap = und σ 20 k1 x := by show und σ 20 (nt (σ 3 s)) x = _; rw [ek1, nt_nI (by omega)]
    rw [e1]
    have hb1 := zi_b (und σ 20 k1 x)
    refine s_iload_n dM_isSo_0 rfl rfl ?_
    refine s_tabIn (off := 39) (tgt := 40) dM_isSo_1 (by decide +kernel) (by decide +kernel) (by decide +kernel) (by decide) ?_
    refine s_aload_n dM_isSo_40 rfl rfl ?_
    refine s_aload_n dM_isSo_41 rfl rfl ?_
    refine s_mga dM_isSo_42 gf_M_13 rfl ?_
    refine s_iload dM_isSo_45 rfl ?_
    refine s_mald dM_isSo_47 rfl rfl (show _ < 20 by omega) rfl ?_
    refine s_top ek1 ?_
    refine s_iload_n dM_isSo_48 rfl rfl ?_
    refine s_v2 dM_isSo_49 cv_M_121 hM_o (c_M_isUnder T hk1 hx) rfl rfl rfl rfl ?_
    refine s_zret dM_isSo_52 rfl (by first | exact Or.inl rfl | exact Or.inr rfl | assumption) (by first | exact Nat.le_refl _ | decide | omega) (by first | exact Nat.le_refl _ | decide | omega) ?_
    exact ⟨rfl, rfl⟩
  | 1, _ =>
    have hx1 : x < 4 := hx
    by_cases c1 : v (4 * s + x) = y
    · refine s_iload_n dM_isSo_0 rfl rfl ?_
      refine s_tabIn (off := 52) (tgt := 53) dM_isSo_1 (by decide +kernel) (by decide +kernel) (by decide +kernel) (by decide) ?_
      refine s_aload_n dM_isSo_53 rfl rfl ?_
      refine s_mga dM_isSo_54 gf_M_16 rfl ?_
      refine s_iconst (v := nI 4) dM_isSo_57 (by decide) ?_
      refine s_iload dM_isSo_58 rfl ?_
      first | refine s_imulN dM_isSo_60 ?_ | refine s_imul dM_isSo_60 ?_
      refine s_iload_n dM_isSo_61 rfl rfl ?_
      first | refine s_iaddN dM_isSo_62 ?_ | refine s_iadd dM_isSo_62 ?_
      refine s_mald dM_isSo_63 rfl rfl (show _ < 80 by omega) rfl ?_
      refine s_top (hv _) ?_
      refine s_iload_n dM_isSo_64 rfl rfl ?_
      refine s_icmp_ne dM_isSo_65 (fun q => absurd c1 q) (fun _ => ?_)
      refine s_iconst (v := 1) dM_isSo_68 (by decide) ?_
      refine s_goto dM_isSo_69 ?_
      refine s_zret dM_isSo_73 rfl (by first | exact Or.inl rfl | exact Or.inr rfl | assumption) (by first | exact Nat.le_refl _ | decide | omega) (by first | exact Nat.le_refl _ | decide | omega) ?_
      exact ⟨by rw [show soP σ 1 x y s v vr ap = decide (v (4 * s + x) = y) from rfl, zi_dec.1 c1], rfl⟩
    · refine s_iload_n dM_isSo_0 rfl rfl ?_
      refine s_tabIn (off := 52) (tgt := 53) dM_isSo_1 (by decide +kernel) (by decide +kernel) (by decide +kernel) (by decide) ?_
      refine s_aload_n dM_isSo_53 rfl rfl ?_
      refine s_mga dM_isSo_54 gf_M_16 rfl ?_
      refine s_iconst (v := nI 4) dM_isSo_57 (by decide) ?_
      refine s_iload dM_isSo_58 rfl ?_
      first | refine s_imulN dM_isSo_60 ?_ | refine s_imul dM_isSo_60 ?_
      refine s_iload_n dM_isSo_61 rfl rfl ?_
      first | refine s_iaddN dM_isSo_62 ?_ | refine s_iadd dM_isSo_62 ?_
      refine s_mald dM_isSo_63 rfl rfl (show _ < 80 by omega) rfl ?_
      refine s_top (hv _) ?_
      refine s_iload_n dM_isSo_64 rfl rfl ?_
      refine s_icmp_ne dM_isSo_65 (fun _ => ?_) (fun q => absurd q c1)
      refine s_iconst (v := 0) dM_isSo_72 (by decide) ?_
      refine s_zret dM_isSo_73 rfl (by first | exact Or.inl rfl | exact Or.inr rfl | assumption) (by first | exact Nat.le_refl _ | decide | omega) (by first | exact Nat.le_refl _ | decide | omega) ?_
      exact ⟨by rw [show soP σ 1 x y s v vr ap = decide (v (4 * s + x) = y) from rfl, zi_dec.2 c1], rfl⟩
  | 2, _ =>
    have hx1 : x < 4 := hx
    by_cases c1 : y < v (4 * s + x)
    · refine s_iload_n dM_isSo_0 rfl rfl ?_
      refine s_tabIn (off := 73) (tgt := 74) dM_isSo_1 (by decide +kernel) (by decide +kernel) (by decide +kernel) (by decide) ?_
      refine s_aload_n dM_isSo_74 rfl rfl ?_
      refine s_mga dM_isSo_75 gf_M_16 rfl ?_
      refine s_iconst (v := nI 4) dM_isSo_78 (by decide) ?_
      refine s_iload dM_isSo_79 rfl ?_
      first | refine s_imulN dM_isSo_81 ?_ | refine s_imul dM_isSo_81 ?_
      refine s_iload_n dM_isSo_82 rfl rfl ?_
      first | refine s_iaddN dM_isSo_83 ?_ | refine s_iadd dM_isSo_83 ?_
      refine s_mald dM_isSo_84 rfl rfl (show _ < 80 by omega) rfl ?_
      refine s_top (hv _) ?_
      refine s_iload_n dM_isSo_85 rfl rfl ?_
      refine s_icmp_le dM_isSo_86 (fun q => absurd q (Int32.not_le.mpr c1)) (fun _ => ?_)
      refine s_iconst (v := 1) dM_isSo_89 (by decide) ?_
      refine s_goto dM_isSo_90 ?_
      refine s_zret dM_isSo_94 rfl (by first | exact Or.inl rfl | exact Or.inr rfl | assumption) (by first | exact Nat.le_refl _ | decide | omega) (by first | exact Nat.le_refl _ | decide | omega) ?_
      exact ⟨by rw [show soP σ 2 x y s v vr ap = decide (y < v (4 * s + x)) from rfl, zi_dec.1 c1], rfl⟩
    · refine s_iload_n dM_isSo_0 rfl rfl ?_
      refine s_tabIn (off := 73) (tgt := 74) dM_isSo_1 (by decide +kernel) (by decide +kernel) (by decide +kernel) (by decide) ?_
      refine s_aload_n dM_isSo_74 rfl rfl ?_
      refine s_mga dM_isSo_75 gf_M_16 rfl ?_
      refine s_iconst (v := nI 4) dM_isSo_78 (by decide) ?_
      refine s_iload dM_isSo_79 rfl ?_
      first | refine s_imulN dM_isSo_81 ?_ | refine s_imul dM_isSo_81 ?_
      refine s_iload_n dM_isSo_82 rfl rfl ?_
      first | refine s_iaddN dM_isSo_83 ?_ | refine s_iadd dM_isSo_83 ?_
      refine s_mald dM_isSo_84 rfl rfl (show _ < 80 by omega) rfl ?_
      refine s_top (hv _) ?_
      refine s_iload_n dM_isSo_85 rfl rfl ?_
      refine s_icmp_le dM_isSo_86 (fun _ => ?_) (fun q => absurd (Int32.not_lt.mp c1) q)
      refine s_iconst (v := 0) dM_isSo_93 (by decide) ?_
      refine s_zret dM_isSo_94 rfl (by first | exact Or.inl rfl | exact Or.inr rfl | assumption) (by first | exact Nat.le_refl _ | decide | omega) (by first | exact Nat.le_refl _ | decide | omega) ?_
      exact ⟨by rw [show soP σ 2 x y s v vr ap = decide (y < v (4 * s + x)) from rfl, zi_dec.2 c1], rfl⟩
  | 3, _ =>
    have hx1 : x < 4 := hx
    by_cases c1 : vr x = y
    · refine s_iload_n dM_isSo_0 rfl rfl ?_
      refine s_tabIn (off := 94) (tgt := 95) dM_isSo_1 (by decide +kernel) (by decide +kernel) (by decide +kernel) (by decide) ?_
      refine s_aload_n dM_isSo_95 rfl rfl ?_
      refine s_mga dM_isSo_96 gf_M_64 rfl ?_
      refine s_iconst (v := nI 4) dM_isSo_99 (by decide) ?_
      refine s_iload dM_isSo_100 rfl ?_
      first | refine s_imulN dM_isSo_102 ?_ | refine s_imul dM_isSo_102 ?_
      refine s_iload_n dM_isSo_103 rfl rfl ?_
      first | refine s_iaddN dM_isSo_104 ?_ | refine s_iadd dM_isSo_104 ?_
      refine s_mald dM_isSo_105 rfl rfl (show _ < 24 by omega) rfl ?_
      refine s_top (F.1 x hx1) ?_
      refine s_iload_n dM_isSo_106 rfl rfl ?_
      refine s_icmp_ne dM_isSo_107 (fun q => absurd c1 q) (fun _ => ?_)
      refine s_iconst (v := 1) dM_isSo_110 (by decide) ?_
      refine s_goto dM_isSo_111 ?_
      refine s_zret dM_isSo_115 rfl (by first | exact Or.inl rfl | exact Or.inr rfl | assumption) (by first | exact Nat.le_refl _ | decide | omega) (by first | exact Nat.le_refl _ | decide | omega) ?_
      exact ⟨by rw [show soP σ 3 x y s v vr ap = decide (vr x = y) from rfl, zi_dec.1 c1], rfl⟩
    · refine s_iload_n dM_isSo_0 rfl rfl ?_
      refine s_tabIn (off := 94) (tgt := 95) dM_isSo_1 (by decide +kernel) (by decide +kernel) (by decide +kernel) (by decide) ?_
      refine s_aload_n dM_isSo_95 rfl rfl ?_
      refine s_mga dM_isSo_96 gf_M_64 rfl ?_
      refine s_iconst (v := nI 4) dM_isSo_99 (by decide) ?_
      refine s_iload dM_isSo_100 rfl ?_
      first | refine s_imulN dM_isSo_102 ?_ | refine s_imul dM_isSo_102 ?_
      refine s_iload_n dM_isSo_103 rfl rfl ?_
      first | refine s_iaddN dM_isSo_104 ?_ | refine s_iadd dM_isSo_104 ?_
      refine s_mald dM_isSo_105 rfl rfl (show _ < 24 by omega) rfl ?_
      refine s_top (F.1 x hx1) ?_
      refine s_iload_n dM_isSo_106 rfl rfl ?_
      refine s_icmp_ne dM_isSo_107 (fun _ => ?_) (fun q => absurd q c1)
      refine s_iconst (v := 0) dM_isSo_114 (by decide) ?_
      refine s_zret dM_isSo_115 rfl (by first | exact Or.inl rfl | exact Or.inr rfl | assumption) (by first | exact Nat.le_refl _ | decide | omega) (by first | exact Nat.le_refl _ | decide | omega) ?_
      exact ⟨by rw [show soP σ 3 x y s v vr ap = decide (vr x = y) from rfl, zi_dec.2 c1], rfl⟩
  | 4, _ =>
    have hx1 : x < 4 := hx
    by_cases c1 : y < vr x
    · refine s_iload_n dM_isSo_0 rfl rfl ?_
      refine s_tabIn (off := 115) (tgt := 116) dM_isSo_1 (by decide +kernel) (by decide +kernel) (by decide +kernel) (by decide) ?_
      refine s_aload_n dM_isSo_116 rfl rfl ?_
      refine s_mga dM_isSo_117 gf_M_64 rfl ?_
      refine s_iconst (v := nI 4) dM_isSo_120 (by decide) ?_
      refine s_iload dM_isSo_121 rfl ?_
      first | refine s_imulN dM_isSo_123 ?_ | refine s_imul dM_isSo_123 ?_
      refine s_iload_n dM_isSo_124 rfl rfl ?_
      first | refine s_iaddN dM_isSo_125 ?_ | refine s_iadd dM_isSo_125 ?_
      refine s_mald dM_isSo_126 rfl rfl (show _ < 24 by omega) rfl ?_
      refine s_top (F.1 x hx1) ?_
      refine s_iload_n dM_isSo_127 rfl rfl ?_
      refine s_icmp_le dM_isSo_128 (fun q => absurd q (Int32.not_le.mpr c1)) (fun _ => ?_)
      refine s_iconst (v := 1) dM_isSo_131 (by decide) ?_
      refine s_goto dM_isSo_132 ?_
      refine s_zret dM_isSo_136 rfl (by first | exact Or.inl rfl | exact Or.inr rfl | assumption) (by first | exact Nat.le_refl _ | decide | omega) (by first | exact Nat.le_refl _ | decide | omega) ?_
      exact ⟨by rw [show soP σ 4 x y s v vr ap = decide (y < vr x) from rfl, zi_dec.1 c1], rfl⟩
    · refine s_iload_n dM_isSo_0 rfl rfl ?_
      refine s_tabIn (off := 115) (tgt := 116) dM_isSo_1 (by decide +kernel) (by decide +kernel) (by decide +kernel) (by decide) ?_
      refine s_aload_n dM_isSo_116 rfl rfl ?_
      refine s_mga dM_isSo_117 gf_M_64 rfl ?_
      refine s_iconst (v := nI 4) dM_isSo_120 (by decide) ?_
      refine s_iload dM_isSo_121 rfl ?_
      first | refine s_imulN dM_isSo_123 ?_ | refine s_imul dM_isSo_123 ?_
      refine s_iload_n dM_isSo_124 rfl rfl ?_
      first | refine s_iaddN dM_isSo_125 ?_ | refine s_iadd dM_isSo_125 ?_
      refine s_mald dM_isSo_126 rfl rfl (show _ < 24 by omega) rfl ?_
      refine s_top (F.1 x hx1) ?_
      refine s_iload_n dM_isSo_127 rfl rfl ?_
      refine s_icmp_le dM_isSo_128 (fun _ => ?_) (fun q => absurd (Int32.not_lt.mp c1) q)
      refine s_iconst (v := 0) dM_isSo_135 (by decide) ?_
      refine s_zret dM_isSo_136 rfl (by first | exact Or.inl rfl | exact Or.inr rfl | assumption) (by first | exact Nat.le_refl _ | decide | omega) (by first | exact Nat.le_refl _ | decide | omega) ?_
      exact ⟨by rw [show soP σ 4 x y s v vr ap = decide (y < vr x) from rfl, zi_dec.2 c1], rfl⟩
  | 5, _ =>
    have hx1 : x < NS := hx
    have hb1 := hh x hx1
    refine s_iload_n dM_isSo_0 rfl rfl ?_
    refine s_tabIn (off := 136) (tgt := 137) dM_isSo_1 (by decide +kernel) (by decide +kernel) (by decide +kernel) (by decide) ?_
    refine s_aload_n dM_isSo_137 rfl rfl ?_
    refine s_mga dM_isSo_138 gf_M_92 rfl ?_
    refine s_iload_n dM_isSo_141 rfl rfl ?_
    refine s_mzld dM_isSo_142 rfl rfl (show _ < 8 by omega) rfl ?_
    refine s_zret dM_isSo_143 rfl (by first | exact Or.inl rfl | exact Or.inr rfl | assumption) (by first | exact Nat.le_refl _ | decide | omega) (by first | exact Nat.le_refl _ | decide | omega) ?_
    refine ⟨?_, rfl⟩
    rw [show soP σ 5 x y s v vr ap = decide (σ 42 x = 1) from rfl]
    rcases hb1 with q1 | q1
    · rw [zi_dec.2 (by rw [q1]; decide), q1]
    · rw [zi_dec.1 q1, q1]
  | 6, _ =>
    have hx1 : x < R := hx
    have hb1 := zi_b (ap x)
    refine s_iload_n dM_isSo_0 rfl rfl ?_
    refine s_tabOut (tgt := 144) dM_isSo_1 (by right; decide +kernel) (by decide) ?_
    refine s_aload_n dM_isSo_144 rfl rfl ?_
    refine s_mga dM_isSo_145 gf_M_67 rfl ?_
    refine s_bipush (v := nI 60) dM_isSo_148 (by decide) ?_
    refine s_iload dM_isSo_150 rfl ?_
    first | refine s_imulN dM_isSo_152 ?_ | refine s_imul dM_isSo_152 ?_
    refine s_iload_n dM_isSo_153 rfl rfl ?_
    first | refine s_iaddN dM_isSo_154 ?_ | refine s_iadd dM_isSo_154 ?_
    refine s_mzld dM_isSo_155 rfl rfl (show _ < 360 by omega) rfl ?_
    refine s_top (F.2 x (by omega)) ?_
    refine s_zret dM_isSo_156 rfl (by first | exact Or.inl rfl | exact Or.inr rfl | assumption) (by first | exact Nat.le_refl _ | decide | omega) (by first | exact Nat.le_refl _ | decide | omega) ?_
    exact ⟨rfl, rfl⟩
theorem l_M_applies {σ : Sg} {h : Hp} {R K N NS r s d m : Nat} {v vr : Nat → Int32} {ap : Nat → Bool} {Q : Option PV → Hp → Prop} (T : KP σ K) (S1 : SK σ N K) (C1 : CP σ R K NS) (hv : ∀ i, σ 4 i = v i) (F : fV σ d vr ap) (hd : d < 6) (hs : s < N) (hr : r < R) (em : σ 13 r = nI m) (hm : m ≤ 4) (hc : ∀ k, k < m → ∃ c x, c ≤ 16 ∧ bs c ≤ 6 ∧ (7 ≤ c → 10 ≤ c) ∧ σ 12 (12 * r + 3 * k) = nI c ∧ σ 12 (12 * r + 3 * k + 1) = nI x ∧ xOk (bs c) x K NS R) (hq : Q (some (vI (zi (apP σ r s v vr ap m)))) (hM σ h)) :
    ∀ (n k : Nat) (o5 o6 : Option PV), k + n = m → apP σ r s v vr ap k = true → S mM_applies 2 0 0 Q 3 [some (vR (100, 0, 0)), some (vI (nI r)), some (vI (nI s)), some (vI (nI d)), some (vI (nI k)), o5, o6] [] (hM σ h) 0 0 := by
  obtain ⟨hNS, hR, hh, -⟩ := C1
  have hN := S1.1
  intro n
  induction n with
  | zero =>
    intro k o5 o6 hk1 ht1
    have ek : k = m := by omega
    subst ek
    refine s_iload dM_applies_3 rfl ?_
    refine s_aload_n dM_applies_5 rfl rfl ?_
    refine s_mga dM_applies_6 gf_M_37 rfl ?_
    refine s_iload_n dM_applies_9 rfl rfl ?_
    refine s_mald dM_applies_10 rfl rfl (show _ < 60 by omega) rfl ?_
    refine s_top em ?_
    refine s_icmp_ge dM_applies_11 (fun _ => ?_) (fun q => absurd (nI_le (Nat.le_refl _) (by omega)) q)
    refine s_iconst (v := 1) dM_applies_106 (by decide) ?_
    refine s_zret dM_applies_107 rfl (by first | exact Or.inl rfl | exact Or.inr rfl | assumption) (by first | exact Nat.le_refl _ | decide | omega) (by first | exact Nat.le_refl _ | decide | omega) ?_
    rw [ht1] at hq
    exact hq
  | succ n ih1 =>
    intro k o5 o6 hk1 ht1
    have hkm : k < m := by omega
    obtain ⟨c, x, hc16, hb6, h710, ec, ex, hx⟩ := hc k hkm
    have hx60 : x < 2 ^ 20 := by
      have hK := T.2.1
      unfold xOk at hx
      split at hx <;> omega
    have e1 : cnP σ r k s v vr ap = (soP σ (bs c) x (cYy σ r k) s v vr ap != decide (10 ≤ c)) := by
      unfold cnP cCd cXx
      rw [ec, ex, nt_nI (by omega), nt_nI (by omega)]
    have fals : ∀ k', k < k' → k' ≤ m → cnP σ r k s v vr ap = false → apP σ r s v vr ap k' = false := by
      intro k' h1 h2 h3
      induction k' with
      | zero => omega
      | succ k' ih2 =>
        by_cases c1 : k' = k
        · subst c1
          simp [apP, h3]
        · simp [apP, ih2 (by omega) (by omega)]
    -- behind isSo
    have J : ∀ z6 : Int32, z6 = zi (decide (10 ≤ c)) → S mM_applies 2 0 0 Q 93 [some (vR (100, 0, 0)), some (vI (nI r)), some (vI (nI s)), some (vI (nI d)), some (vI (nI k)), some (vI (nI (12 * r + 3 * k))), some (vI z6)] [vI (zi (soP σ (bs c) x (cYy σ r k) s v vr ap))] (hM σ h) 0 0 := by
      intro z6 e6
      subst e6
      cases hcn : cnP σ r k s v vr ap with
      | true =>
        have hne : ¬ zi (soP σ (bs c) x (cYy σ r k) s v vr ap) = zi (decide (10 ≤ c)) := by
          rw [e1] at hcn
          generalize soP σ (bs c) x (cYy σ r k) s v vr ap = p1 at hcn
          generalize decide (10 ≤ c) = p2 at hcn
          cases p1 <;> cases p2 <;> simp_all [zi]
        refine s_iload dM_applies_93 rfl ?_
        refine s_icmp_ne dM_applies_95 (fun _ => ?_) (fun q => absurd q hne)
        first | refine s_iincN dM_applies_100 rfl rfl ?_ | refine s_iinc dM_applies_100 rfl rfl ?_
        refine s_goto dM_applies_103 ?_
        exact ih1 (k + 1) _ _ (by omega) (by simp [apP, ht1, hcn])
      | false =>
        have heq : zi (soP σ (bs c) x (cYy σ r k) s v vr ap) = zi (decide (10 ≤ c)) := by
          rw [e1] at hcn
          generalize soP σ (bs c) x (cYy σ r k) s v vr ap = p1 at hcn
          generalize decide (10 ≤ c) = p2 at hcn
          cases p1 <;> cases p2 <;> simp_all [zi]
        refine s_iload dM_applies_93 rfl ?_
        refine s_icmp_ne dM_applies_95 (fun q => absurd heq q) (fun _ => ?_)
        refine s_iconst (v := 0) dM_applies_98 (by decide) ?_
        refine s_zret dM_applies_99 rfl (by first | exact Or.inl rfl | exact Or.inr rfl | assumption) (by first | exact Nat.le_refl _ | decide | omega) (by first | exact Nat.le_refl _ | decide | omega) ?_
        rw [fals m hkm (Nat.le_refl _) hcn] at hq
        exact hq
    by_cases c10 : 10 ≤ c
    · have eb : bs c = c - 10 := if_pos c10
      rw [eb] at J hx
      refine s_iload dM_applies_3 rfl ?_
      refine s_aload_n dM_applies_5 rfl rfl ?_
      refine s_mga dM_applies_6 gf_M_37 rfl ?_
      refine s_iload_n dM_applies_9 rfl rfl ?_
      refine s_mald dM_applies_10 rfl rfl (show _ < 60 by omega) rfl ?_
      refine s_top em ?_
      refine s_icmp_ge dM_applies_11 (fun q => absurd q (nI_ge hkm (by omega))) (fun _ => ?_)
      refine s_bipush (v := nI 12) dM_applies_14 (by decide) ?_
      refine s_iload_n dM_applies_16 rfl rfl ?_
      first | refine s_imulN dM_applies_17 ?_ | refine s_imul dM_applies_17 ?_
      refine s_iconst (v := nI 3) dM_applies_18 (by decide) ?_
      refine s_iload dM_applies_19 rfl ?_
      first | refine s_imulN dM_applies_21 ?_ | refine s_imul dM_applies_21 ?_
      first | refine s_iaddN dM_applies_22 ?_ | refine s_iadd dM_applies_22 ?_
      refine s_istore dM_applies_23 rfl ?_
      refine s_aload_n dM_applies_25 rfl rfl ?_
      refine s_mga dM_applies_26 gf_M_34 rfl ?_
      refine s_iload dM_applies_29 rfl ?_
      refine s_mald dM_applies_31 rfl rfl (show _ < 720 by omega) rfl ?_
      refine s_top ec ?_
      refine s_bipush (v := nI 10) dM_applies_32 (by decide) ?_
      refine s_icmp_lt dM_applies_34 (fun q => absurd q (nI_nlt c10 (by omega))) (fun _ => ?_)
      refine s_iconst (v := 1) dM_applies_37 (by decide) ?_
      refine s_goto dM_applies_38 ?_
      refine s_istore dM_applies_42 rfl ?_
      refine s_aload_n dM_applies_44 rfl rfl ?_
      refine s_iload dM_applies_45 rfl ?_
      refine s_if_eq dM_applies_47 (fun q => absurd q (by decide)) (fun _ => ?_)
      refine s_aload_n dM_applies_50 rfl rfl ?_
      refine s_mga dM_applies_51 gf_M_34 rfl ?_
      refine s_iload dM_applies_54 rfl ?_
      refine s_mald dM_applies_56 rfl rfl (show _ < 720 by omega) rfl ?_
      refine s_top ec ?_
      refine s_bipush (v := nI 10) dM_applies_57 (by decide) ?_
      first | refine s_isubN dM_applies_59 (by omega) ?_ | refine s_isub dM_applies_59 ?_
      refine s_goto dM_applies_60 ?_
      refine s_aload_n dM_applies_70 rfl rfl ?_
      refine s_mga dM_applies_71 gf_M_34 rfl ?_
      refine s_iload dM_applies_74 rfl ?_
      refine s_iconst (v := nI 1) dM_applies_76 (by decide) ?_
      first | refine s_iaddN dM_applies_77 ?_ | refine s_iadd dM_applies_77 ?_
      refine s_mald dM_applies_78 rfl rfl (show _ < 720 by omega) rfl ?_
      refine s_top ex ?_
      refine s_aload_n dM_applies_79 rfl rfl ?_
      refine s_mga dM_applies_80 gf_M_34 rfl ?_
      refine s_iload dM_applies_83 rfl ?_
      refine s_iconst (v := nI 2) dM_applies_85 (by decide) ?_
      first | refine s_iaddN dM_applies_86 ?_ | refine s_iadd dM_applies_86 ?_
      refine s_mald dM_applies_87 rfl rfl (show _ < 720 by omega) rfl ?_
      refine s_iload_n dM_applies_88 rfl rfl ?_
      refine s_iload_n dM_applies_89 rfl rfl ?_
      refine s_v5 dM_applies_90 cv_M_214 hM_o (c_M_isSo (c := c - 10) T S1 hNS hR hh hv F hd hs (by omega) hx) rfl rfl rfl rfl ?_
      exact J 1 (by simp [zi, c10])
    · have eb : bs c = c := if_neg c10
      rw [eb] at J hx
      refine s_iload dM_applies_3 rfl ?_
      refine s_aload_n dM_applies_5 rfl rfl ?_
      refine s_mga dM_applies_6 gf_M_37 rfl ?_
      refine s_iload_n dM_applies_9 rfl rfl ?_
      refine s_mald dM_applies_10 rfl rfl (show _ < 60 by omega) rfl ?_
      refine s_top em ?_
      refine s_icmp_ge dM_applies_11 (fun q => absurd q (nI_ge hkm (by omega))) (fun _ => ?_)
      refine s_bipush (v := nI 12) dM_applies_14 (by decide) ?_
      refine s_iload_n dM_applies_16 rfl rfl ?_
      first | refine s_imulN dM_applies_17 ?_ | refine s_imul dM_applies_17 ?_
      refine s_iconst (v := nI 3) dM_applies_18 (by decide) ?_
      refine s_iload dM_applies_19 rfl ?_
      first | refine s_imulN dM_applies_21 ?_ | refine s_imul dM_applies_21 ?_
      first | refine s_iaddN dM_applies_22 ?_ | refine s_iadd dM_applies_22 ?_
      refine s_istore dM_applies_23 rfl ?_
      refine s_aload_n dM_applies_25 rfl rfl ?_
      refine s_mga dM_applies_26 gf_M_34 rfl ?_
      refine s_iload dM_applies_29 rfl ?_
      refine s_mald dM_applies_31 rfl rfl (show _ < 720 by omega) rfl ?_
      refine s_top ec ?_
      refine s_bipush (v := nI 10) dM_applies_32 (by decide) ?_
      refine s_icmp_lt dM_applies_34 (fun _ => ?_) (fun q => absurd (nI_lt (by omega) (by omega)) q)
      refine s_iconst (v := 0) dM_applies_41 (by decide) ?_
      refine s_istore dM_applies_42 rfl ?_
      refine s_aload_n dM_applies_44 rfl rfl ?_
      refine s_iload dM_applies_45 rfl ?_
      refine s_if_eq dM_applies_47 (fun _ => ?_) (fun q => absurd rfl q)
      refine s_aload_n dM_applies_63 rfl rfl ?_
      refine s_mga dM_applies_64 gf_M_34 rfl ?_
      refine s_iload dM_applies_67 rfl ?_
      refine s_mald dM_applies_69 rfl rfl (show _ < 720 by omega) rfl ?_
      refine s_top ec ?_
      refine s_aload_n dM_applies_70 rfl rfl ?_
      refine s_mga dM_applies_71 gf_M_34 rfl ?_
      refine s_iload dM_applies_74 rfl ?_
      refine s_iconst (v := nI 1) dM_applies_76 (by decide) ?_
      first | refine s_iaddN dM_applies_77 ?_ | refine s_iadd dM_applies_77 ?_
      refine s_mald dM_applies_78 rfl rfl (show _ < 720 by omega) rfl ?_
      refine s_top ex ?_
      refine s_aload_n dM_applies_79 rfl rfl ?_
      refine s_mga dM_applies_80 gf_M_34 rfl ?_
      refine s_iload dM_applies_83 rfl ?_
      refine s_iconst (v := nI 2) dM_applies_85 (by decide) ?_
      first | refine s_iaddN dM_applies_86 ?_ | refine s_iadd dM_applies_86 ?_
      refine s_mald dM_applies_87 rfl rfl (show _ < 720 by omega) rfl ?_
      refine s_iload_n dM_applies_88 rfl rfl ?_
      refine s_iload_n dM_applies_89 rfl rfl ?_
      refine s_v5 dM_applies_90 cv_M_214 hM_o (c_M_isSo (c := c) T S1 hNS hR hh hv F hd hs (by omega) hx) rfl rfl rfl rfl ?_
      exact J 0 (by simp [zi, c10])
theorem c_M_applies {σ : Sg} {h : Hp} {R K N NS r s d : Nat} {v vr : Nat → Int32} {ap : Nat → Bool} (T : KP σ K) (S1 : SK σ N K) (C1 : CP σ R K NS) (hv : ∀ i, σ 4 i = v i) (F : fV σ d vr ap) (hd : d < 6) (hs : s < N) (hr : r < R) : ConF mM_applies 2 [vR (100, 0, 0), vI (nI r), vI (nI s), vI (nI d)] (hM σ h) (some (vI (zi (apP σ r s v vr ap (nt (σ 13 r)))))) (hM σ h) := by
  obtain ⟨m, hm, em, hc⟩ := C1.2.2.2 r hr
  rw [em, nt_nI (by omega)]
  have hR := C1.2.1
  have hN := S1.1
  refine c_enter (by decide +kernel) rfl rfl ?_
  refine s_iconst (v := 0) dM_applies_0 (by decide) ?_
  refine s_istore dM_applies_1 rfl ?_
  exact l_M_applies T S1 C1 hv F hd hs hr em hm hc ⟨rfl, rfl⟩ m 0 none none (by omega) rfl
theorem c_M_fails {σ : Sg} {h : Hp} {a b : Int32} : ConF mM_fails 0 [vR (100, 0, 0), vI a, vI b] (hM σ h) (some (vI 0)) (hM (us (us σ 30 0 a) 31 0 b) h) := by
  refine c_enter (by decide +kernel) rfl rfl ?_
  refine s_aload_n dM_fails_0 rfl rfl ?_
  refine s_iload_n dM_fails_1 rfl rfl ?_
  refine s_mpi dM_fails_2 gf_M_194 rfl rfl (by first | exact ⟨_, rfl⟩ | exact Or.inl rfl | exact Or.inr rfl) ?_
  refine s_aload_n dM_fails_5 rfl rfl ?_
  refine s_iload_n dM_fails_6 rfl rfl ?_
  refine s_mpi dM_fails_7 gf_M_211 rfl rfl (by first | exact ⟨_, rfl⟩ | exact Or.inl rfl | exact Or.inr rfl) ?_
  refine s_iconst (v := 0) dM_fails_10 (by decide) ?_
  refine s_iret dM_fails_11 rfl (by first | exact Nat.le_refl _ | decide | omega) (by first | exact Nat.le_refl _ | decide | omega) ?_
  exact ⟨rfl, rfl⟩
