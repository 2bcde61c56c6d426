/-! what is done with lists -/
section PF
variable {M : MD} {lvl mc ms : Nat} {Q : Option PV → Hp → Prop} {pc pc' tgt : Nat} {lv : List (Option PV)} {st : List PV} {h : Hp} {k n : Nat}
theorem s_putF {idx ci kf : Nat} {nm : Nm} {len : Nat} {L : List PV} {v : PV} (d : Dc M pc (.putfield idx) 3 pc') (G : GF M.1.cls idx ci kf) (hc : h nm = some (ci, len, fl L)) (h2 : Nat.ble 2 nm.1 = true) (hk : Nat.blt kf L.length = true) (hf : (cT ci kf).2.2.2 = false ∨ (M.1.name = "<init>" ∧ (cT ci kf).1 = M.1.cls)) (hv : fitV (cY ci kf) v)
    (kk : S M lvl mc ms Q pc' lv st (up h nm (ci, len, fl (L.set kf v))) k n) : S M lvl mc ms Q pc lv (v :: vR nm :: st) h k n := by
  refine s_put d G hc h2 hf hv ?_
  rw [fl_upf (Nat.le_of_ble_eq_true hk)]
  exact kk
end PF
theorem c_AbC {h : Hp} {t : Nm} : ConF mAbC_init 1 [vR t] h none h := by
  refine c_enter (by decide +kernel) rfl rfl ?_
  refine s_aload_n dAbC_init_0 rfl rfl ?_
  refine s_objInit dAbC_init_1 ob_AbC_1 rfl rfl ?_
  refine s_vret dAbC_init_4 rfl (by first | exact Nat.le_refl _ | decide | omega) (by first | exact Nat.le_refl _ | decide | omega) ?_
  exact ⟨rfl, rfl⟩
theorem c_AbL {h : Hp} {t : Nm} (e1 : h t = some (13, 0, fl [vN, vI 0, vI 0])) (ht : Nat.ble 2 t.1 = true) : ConF mAbL_init 2 [vR t] h none (up h t (13, 0, fl [vN, vI 0, vI 0])) := by
  refine c_enter (by decide +kernel) rfl rfl ?_
  refine s_aload_n dAbL_init_0 rfl rfl ?_
  refine s_callI (As := []) dAbL_init_1 ci_AbL_1 (c_AbC) (by first | rfl | exact Nat.ble_eq_true_of_le (by omega)) (by first | rfl | exact Nat.ble_eq_true_of_le (by omega)) (by first | rfl | exact Nat.ble_eq_true_of_le (by omega)) rfl (fun v0 h2 q0 => ?_)
  obtain ⟨rfl, rfl⟩ := q0
  refine s_aload_n dAbL_init_4 rfl rfl ?_
  refine s_iconst (v := 0) dAbL_init_5 (by decide) ?_
  refine s_putF dAbL_init_6 gf_AbL_7 (by repeat (first | exact up_self | assumption | rw [up_ne (by first | assumption | (intro q0; cases q0; done) | (intro q0; simp at q0; omega))])) (by first | rfl | assumption) rfl (by first | exact Or.inl rfl | exact Or.inr ⟨rfl, rfl⟩) (by first | exact ⟨_, rfl⟩ | exact Or.inl rfl | exact Or.inr rfl | assumption) ?_
  refine s_vret dAbL_init_9 rfl (by first | exact Nat.le_refl _ | decide | omega) (by first | exact Nat.le_refl _ | decide | omega) ?_
  exact ⟨rfl, rfl⟩
theorem c_ALi {h : Hp} {t : Nm} (e1 : h t = some (13, 0, fl [vN, vI 0, vI 0])) (ht : Nat.ble 2 t.1 = true) : ConF mAL_init 3 [vR t] h none (up h t (13, 0, fl [vR (1, 0, 0), vI 0, vI 0])) := by
  refine c_enter (by decide +kernel) rfl rfl ?_
  refine s_aload_n dAL_init_0 rfl rfl ?_
  refine s_callI (As := []) dAL_init_1 ci_AL_1 (c_AbL e1 ht) (by first | rfl | exact Nat.ble_eq_true_of_le (by omega)) (by first | rfl | exact Nat.ble_eq_true_of_le (by omega)) (by first | rfl | exact Nat.ble_eq_true_of_le (by omega)) rfl (fun v0 h2 q0 => ?_)
  obtain ⟨rfl, rfl⟩ := q0
  refine s_aload_n dAL_init_4 rfl rfl ?_
  refine s_gets dAL_init_5 gs_AL_39 ?_
  refine s_putF dAL_init_8 gf_AL_9 (by repeat (first | exact up_self | assumption | rw [up_ne (by first | assumption | (intro q0; cases q0; done) | (intro q0; simp at q0; omega))])) (by first | rfl | assumption) rfl (by first | exact Or.inl rfl | exact Or.inr ⟨rfl, rfl⟩) (by first | exact ⟨_, rfl⟩ | exact Or.inl rfl | exact Or.inr rfl | assumption) ?_
  refine s_vret dAL_init_11 rfl (by first | exact Nat.le_refl _ | decide | omega) (by first | exact Nat.le_refl _ | decide | omega) ?_
  exact ⟨rfl, by rw [up_up]; rfl⟩
theorem LsT.nil {h : Hp} {t : Nm} (e1 : h t = some (13, 0, fl [vR (1, 0, 0), vI 0, vI 0])) (e2 : ∀ c, h (eld t c) = none) : LsT h t [] :=
  ⟨0, 0, fun _ => vN, e1, Or.inl rfl, Nat.le_refl _, fun c _ => e2 c, fun q => absurd q (by decide), fun i x q => by simp at q, fun _ _ => rfl⟩
theorem LC.mod {h : Hp} {t : Nm} {l : List Nm} {cap : Nat} {z z' : Int32} {f : Nat → PV} (I : LC h t l cap z f) : LC (up h t (13, 0, fl [vR (adr t cap), vI (nI l.length), vI z'])) t l cap z' f := by
  obtain ⟨e1, e2, e3, e4, e5, e6, e7⟩ := I
  exact ⟨up_self, e2, e3, fun c q1 => by rw [up_ne eld_nf]; exact e4 c q1, fun q1 => by rw [up_ne eld_nf]; exact e5 q1, e6, e7⟩
/-- an element among those of the list -/
theorem LC.put {h : Hp} {t x : Nm} {l l' : List Nm} {cap i : Nat} {z : Int32} {f : Nat → PV} (I : LC h t l cap z f) (hi : i < cap) (h1 : l'.length ≤ cap) (h2 : ∀ j y, l'[j]? = some y → (if j = i then vR x else f j) = vR y) (h3 : ∀ j, l'.length ≤ j → (if j = i then vR x else f j) = vN) :
    LC (up (up h (eld t cap) (22, cap, upf f i (vR x))) t (13, 0, fl [vR (adr t cap), vI (nI l'.length), vI z])) t l' cap z (upf f i (vR x)) := by
  obtain ⟨e1, e2, e3, e4, e5, e6, e7⟩ := I
  refine ⟨up_self, e2, h1, fun c q1 => by rw [up_ne eld_nf, up_ne (eld_in (by omega))]; exact e4 c q1, fun q1 => by rw [up_ne eld_nf, up_self], h2, h3⟩
theorem c_add1 {h : Hp} {t x : Nm} {l : List Nm} {cap : Nat} {z : Int32} {f : Nat → PV} (I : LC h t l cap z f) (hl : l.length < 73) (E : EL t h l) (hx : OBJ t h x) (ht : Nat.ble 2 t.1 = true) :
    Con mAL_add1 5 1 73 [vR t, vR x, vR (adr t cap), vI (nI l.length)] h (fun v h' => v = none ∧ LsT h' t (l ++ [x]) ∧ frL t h h') := by
  have K1 : ∀ (h1 : Hp) (cap1 : Nat) (f1 : Nat → PV) (k1 n1 : Nat), k1 ≤ 1 → n1 ≤ 73 → LC h1 t l cap1 z f1 → l.length < cap1 → frL t h h1 → S mAL_add1 5 1 73 (fun v h' => v = none ∧ LsT h' t (l ++ [x]) ∧ frL t h h') 11 [some (vR t), some (vR x), some (vR (eld t cap1)), some (vI (nI l.length))] [] h1 k1 n1 := by
    intro h1 cap1 f1 k1 n1 hk hn I1 hlt hfr
    obtain ⟨o1, o2, ci, g, o3, o4⟩ := hx.fr hfr
    obtain ⟨e1, e2, e3, e4, e5, e6, e7⟩ := id I1
    have hcap := e2.le
    have ea := e5 (by omega)
    have e1b : up h1 (eld t cap1) (22, cap1, upf f1 (nI l.length).toNatClampNeg (vR x)) t = some (13, 0, fl [vR (adr t cap1), vI (nI l.length), vI z]) := by rw [up_ne eld_ne]; exact e1
    refine s_aload_n dAL_add1_11 rfl rfl ?_
    refine s_iload_n dAL_add1_12 rfl rfl ?_
    refine s_aload_n dAL_add1_13 rfl rfl ?_
    refine s_aast dAL_add1_14 ea (eld_b ht) o4 o3.lt (Or.inl ⟨rfl, o3.co⟩) (vp_in_nI hlt (by omega)) ?_
    refine s_aload_n dAL_add1_15 rfl rfl ?_
    refine s_iload_n dAL_add1_16 rfl rfl ?_
    refine s_iconst (v := nI 1) dAL_add1_17 (by decide) ?_
    first | refine s_iaddN dAL_add1_18 ?_ | refine s_iadd dAL_add1_18 ?_
    refine s_putF dAL_add1_19 gf_AL_48 (by repeat (first | exact up_self | assumption | rw [up_ne (by first | assumption | (intro q0; cases q0; done) | (intro q0; simp at q0; omega))])) (by first | rfl | assumption) rfl (by first | exact Or.inl rfl | exact Or.inr ⟨rfl, rfl⟩) (by first | exact ⟨_, rfl⟩ | exact Or.inl rfl | exact Or.inr rfl | assumption) ?_
    refine s_vret dAL_add1_22 rfl (by first | exact Nat.le_refl _ | decide | omega) (by first | exact Nat.le_refl _ | decide | omega) ?_
    refine ⟨rfl, ⟨cap1, z, upf f1 l.length (vR x), ?_⟩, hfr.u2.u1⟩
    rw [nI_clamp (by omega)]
    have := I1.put (x := x) (l' := l ++ [x]) (i := l.length) hlt (by simp; omega) (fun j y q1 => ?_) (fun j q1 => ?_)
    · rw [List.length_append] at this
      exact this
    · by_cases c1 : j = l.length
      · subst c1
        rw [if_pos rfl]
        simp at q1
        rw [q1]
      · rw [if_neg c1]
        have : j < l.length := by
          have := (List.getElem?_eq_some_iff.mp q1).1
          simp at this
          omega
        rw [List.getElem?_append_left this] at q1
        exact e6 j y q1
    · simp at q1
      rw [if_neg (by omega)]
      exact e7 j (by omega)
  refine c_enter (by decide +kernel) rfl rfl ?_
  by_cases c0 : l.length = cap
  · have K2 : S mAL_add1 5 1 73 (fun v h' => v = none ∧ LsT h' t (l ++ [x]) ∧ frL t h h') 6 [some (vR t), some (vR x), some (vR (adr t cap)), some (vI (nI l.length))] [] h 0 0 := by
      have e1 := I.1
      refine s_aload_n dAL_add1_6 rfl rfl ?_
      refine s_callV (As := []) dAL_add1_7 cv_AL_129 (by repeat (first | exact up_self | assumption | rw [up_ne (by first | assumption | (intro q0; cases q0; done) | (intro q0; simp at q0; omega))])) (c_grow I c0 (by omega) E ht) (by first | rfl | exact Nat.ble_eq_true_of_le (by omega)) (by first | rfl | exact Nat.ble_eq_true_of_le (by omega)) (by first | rfl | exact Nat.ble_eq_true_of_le (by omega)) rfl (fun v0 h2 q0 => ?_)
      obtain ⟨cap', f', rfl, a1, a2, a3⟩ := q0
      refine s_astore_n dAL_add1_10 rfl rfl ?_
      exact K1 h2 cap' f' _ _ (by omega) (by omega) a2 (by omega) a3
    by_cases c1 : cap = 0
    · subst c1
      refine s_wd (fun w0 => ?_)
      have ea : adr t 0 = (1, 0, 0) := if_pos rfl
      rw [ea] at K2 ⊢
      refine s_iload_n dAL_add1_0 rfl rfl ?_
      refine s_aload_n dAL_add1_1 rfl rfl ?_
      refine s_alen dAL_add1_2 (by repeat (first | exact up_self | assumption | rw [up_ne (by first | assumption | (intro q0; cases q0; done) | (intro q0; simp at q0; omega))])) rfl (by first | exact Or.inl rfl | exact Or.inr (Or.inl rfl)) ?_
      refine s_icmp_ne dAL_add1_3 (fun q => absurd (by rw [c0]) q) (fun _ => ?_)
      exact K2
    · have ea : adr t cap = eld t cap := if_neg c1
      have e5 := I.2.2.2.2.1 (by omega)
      rw [ea] at K2 ⊢
      refine s_iload_n dAL_add1_0 rfl rfl ?_
      refine s_aload_n dAL_add1_1 rfl rfl ?_
      refine s_alen dAL_add1_2 (by repeat (first | exact up_self | assumption | rw [up_ne (by first | assumption | (intro q0; cases q0; done) | (intro q0; simp at q0; omega))])) rfl (by first | exact Or.inl rfl | exact Or.inr (Or.inl rfl)) ?_
      refine s_icmp_ne dAL_add1_3 (fun q => absurd (by rw [c0]) q) (fun _ => ?_)
      exact K2
  · have c1 : l.length < cap := by have := I.2.2.1; omega
    have ea : adr t cap = eld t cap := if_neg (by omega)
    have e5 := I.2.2.2.2.1 (by omega)
    have hcap := I.2.1.le
    rw [ea]
    refine s_iload_n dAL_add1_0 rfl rfl ?_
    refine s_aload_n dAL_add1_1 rfl rfl ?_
    refine s_alen dAL_add1_2 (by repeat (first | exact up_self | assumption | rw [up_ne (by first | assumption | (intro q0; cases q0; done) | (intro q0; simp at q0; omega))])) rfl (by first | exact Or.inl rfl | exact Or.inr (Or.inl rfl)) ?_
    refine s_icmp_ne dAL_add1_3 (fun _ => ?_) (fun q => absurd q (nI_ne c0 (by omega) (by omega)))
    exact K1 h cap f 0 0 (by omega) (by omega) I c1 frL.rf
theorem c_add {h : Hp} {t x : Nm} {l : List Nm} (I : LsT h t l) (hl : l.length < 73) (E : EL t h l) (hx : OBJ t h x) (ht : Nat.ble 2 t.1 = true) :
    Con mAL_add 6 1 73 [vR t, vR x] h (fun v h' => v = some (vI 1) ∧ LsT h' t (l ++ [x]) ∧ frL t h h') := by
  obtain ⟨cap, z, f, I⟩ := I
  have e1 := I.1
  have fr1 : frL t h (up h t (13, 0, fl [vR (adr t cap), vI (nI l.length), vI (z + nI 1)])) := frL.rf.u1
  refine c_enter (by decide +kernel) rfl rfl ?_
  refine s_aload_n dAL_add_0 rfl rfl ?_
  refine s_dup dAL_add_1 rfl ?_
  refine s_get dAL_add_2 gf_AL_63 (by repeat (first | exact up_self | assumption | rw [up_ne (by first | assumption | (intro q0; cases q0; done) | (intro q0; simp at q0; omega))])) ?_
  refine s_iconst (v := nI 1) dAL_add_5 (by decide) ?_
  first | refine s_iaddN dAL_add_6 ?_ | refine s_iadd dAL_add_6 ?_
  refine s_putF dAL_add_7 gf_AL_63 (by repeat (first | exact up_self | assumption | rw [up_ne (by first | assumption | (intro q0; cases q0; done) | (intro q0; simp at q0; omega))])) (by first | rfl | assumption) rfl (by first | exact Or.inl rfl | exact Or.inr ⟨rfl, rfl⟩) (by first | exact ⟨_, rfl⟩ | exact Or.inl rfl | exact Or.inr rfl | assumption) ?_
  refine s_aload_n dAL_add_10 rfl rfl ?_
  refine s_aload_n dAL_add_11 rfl rfl ?_
  refine s_aload_n dAL_add_12 rfl rfl ?_
  refine s_get dAL_add_13 gf_AL_9 (by repeat (first | exact up_self | assumption | rw [up_ne (by first | assumption | (intro q0; cases q0; done) | (intro q0; simp at q0; omega))])) ?_
  refine s_aload_n dAL_add_16 rfl rfl ?_
  refine s_get dAL_add_17 gf_AL_48 (by repeat (first | exact up_self | assumption | rw [up_ne (by first | assumption | (intro q0; cases q0; done) | (intro q0; simp at q0; omega))])) ?_
  refine s_callV (As := [_, _, _]) dAL_add_20 cv_AL_131 (by repeat (first | exact up_self | assumption | rw [up_ne (by first | assumption | (intro q0; cases q0; done) | (intro q0; simp at q0; omega))])) (c_add1 (I.mod (z' := z + nI 1)) hl (E.fr fr1) (hx.fr fr1) ht) (by first | rfl | exact Nat.ble_eq_true_of_le (by omega)) (by first | rfl | exact Nat.ble_eq_true_of_le (by omega)) (by first | rfl | exact Nat.ble_eq_true_of_le (by omega)) rfl (fun v0 h2 q0 => ?_)
  obtain ⟨rfl, a1, a2⟩ := q0
  refine s_iconst (v := 1) dAL_add_23 (by decide) ?_
  refine s_zret dAL_add_24 rfl (by first | exact Or.inl rfl | exact Or.inr rfl | assumption) (by first | exact Nat.le_refl _ | decide | omega) (by first | exact Nat.le_refl _ | decide | omega) ?_
  exact ⟨rfl, a1, fr1.tr a2⟩
/-- the list's row and size are written -/
theorem LC.gen {h : Hp} {t : Nm} {l l' : List Nm} {cap : Nat} {z z' : Int32} {f f' : Nat → PV} (I : LC h t l cap z f) (h1 : l'.length ≤ cap) (h2 : ∀ j y, l'[j]? = some y → f' j = vR y) (h3 : ∀ j, l'.length ≤ j → f' j = vN) (hh : Hp)
    (g1 : hh t = some (13, 0, fl [vR (adr t cap), vI (nI l'.length), vI z'])) (g2 : 0 < cap → hh (eld t cap) = some (22, cap, f')) (g3 : ∀ c, cap < c → hh (eld t c) = h (eld t c)) : LC hh t l' cap z' f' :=
  ⟨g1, I.2.1, h1, fun c q1 => by rw [g3 c q1]; exact I.2.2.2.1 c q1, g2, h2, h3⟩
theorem l_clear {h : Hp} {t : Nm} {l : List Nm} {cap : Nat} {z z1 : Int32} {f : Nat → PV} {Q : Option PV → Hp → Prop} (I : LC h t l cap z f) (ht : Nat.ble 2 t.1 = true) (hq : ∀ hh, LsT hh t [] → frL t h hh → Q none hh) :
    ∀ (n i : Nat) (hh : Hp) (f' : Nat → PV), i + n = l.length → hh t = some (13, 0, fl [vR (adr t cap), vI 0, vI z1]) → (0 < cap → hh (eld t cap) = some (22, cap, f')) → (∀ c, cap < c → hh (eld t c) = h (eld t c)) → (∀ j, j < i → f' j = vN) → (∀ j, i ≤ j → f' j = f j) → frL t h hh →
      S mAL_clear 0 0 0 Q 27 [some (vR t), some (vR (adr t cap)), some (vI (nI l.length)), some (vI (nI i))] [] hh 0 0 := by
  have hcap := I.2.1.le
  have hle := I.2.2.1
  intro n
  induction n with
  | zero =>
    intro i hh f' hi g1 g2 g3 g4 g5 g6
    have ei : i = l.length := by omega
    subst ei
    refine s_iload_n dAL_clear_27 rfl rfl ?_
    refine s_iload_n dAL_clear_28 rfl rfl ?_
    refine s_icmp_ge dAL_clear_29 (fun _ => ?_) (fun q => absurd (nI_le (Nat.le_refl _) (by omega)) q)
    refine s_vret dAL_clear_42 rfl (by first | exact Nat.le_refl _ | decide | omega) (by first | exact Nat.le_refl _ | decide | omega) ?_
    refine hq hh ⟨cap, z1, f', I.gen (l' := []) (by simp) (fun j y q1 => by simp at q1) (fun j _ => ?_) hh g1 g2 g3⟩ g6
    by_cases c1 : j < l.length
    · exact g4 j c1
    · rw [g5 j (by omega)]; exact I.2.2.2.2.2.2 j (by omega)
  | succ n ih1 =>
    intro i hh f' hi g1 g2 g3 g4 g5 g6
    have c0 : 0 < cap := by omega
    have ea : adr t cap = eld t cap := if_neg (by omega)
    have g2b := g2 c0
    rw [ea]
    refine s_iload_n dAL_clear_27 rfl rfl ?_
    refine s_iload_n dAL_clear_28 rfl rfl ?_
    refine s_icmp_ge dAL_clear_29 (fun q => absurd q (nI_ge (show i < l.length by omega) (by omega))) (fun _ => ?_)
    refine s_aload_n dAL_clear_32 rfl rfl ?_
    refine s_iload_n dAL_clear_33 rfl rfl ?_
    refine s_null dAL_clear_34 ?_
    refine s_aastN dAL_clear_35 g2b (eld_b ht) (vp_in_nI (show i < cap by omega) (by omega)) ?_
    rw [nI_clamp (by omega)]
    first | refine s_iincN dAL_clear_36 rfl rfl ?_ | refine s_iinc dAL_clear_36 rfl rfl ?_
    refine s_goto dAL_clear_39 ?_
    have fin0 := ih1 (i + 1) (up hh (eld t cap) (22, cap, upf f' i vN)) (upf f' i vN) (by omega) (by rw [up_ne eld_ne]; exact g1) (fun _ => up_self) (fun c q1 => by rw [up_ne (eld_in (by omega))]; exact g3 c q1) (fun j q1 => ?_) (fun j q1 => ?_) g6.u2
    · rw [ea] at fin0
      exact fin0
    · unfold upf
      by_cases c1 : j = i
      · rw [if_pos c1]
      · rw [if_neg c1]; exact g4 j (by omega)
    · unfold upf
      rw [if_neg (by omega)]; exact g5 j (by omega)
theorem c_clear {h : Hp} {t : Nm} {l : List Nm} (I : LsT h t l) (ht : Nat.ble 2 t.1 = true) : Con mAL_clear 0 0 0 [vR t] h (fun v h' => v = none ∧ LsT h' t [] ∧ frL t h h') := by
  obtain ⟨cap, z, f, I⟩ := I
  have e1 := I.1
  refine c_enter (by decide +kernel) rfl rfl ?_
  refine s_aload_n dAL_clear_0 rfl rfl ?_
  refine s_dup dAL_clear_1 rfl ?_
  refine s_get dAL_clear_2 gf_AL_63 (by repeat (first | exact up_self | assumption | rw [up_ne (by first | assumption | (intro q0; cases q0; done) | (intro q0; simp at q0; omega))])) ?_
  refine s_iconst (v := nI 1) dAL_clear_5 (by decide) ?_
  first | refine s_iaddN dAL_clear_6 ?_ | refine s_iadd dAL_clear_6 ?_
  refine s_putF dAL_clear_7 gf_AL_63 (by repeat (first | exact up_self | assumption | rw [up_ne (by first | assumption | (intro q0; cases q0; done) | (intro q0; simp at q0; omega))])) (by first | rfl | assumption) rfl (by first | exact Or.inl rfl | exact Or.inr ⟨rfl, rfl⟩) (by first | exact ⟨_, rfl⟩ | exact Or.inl rfl | exact Or.inr rfl | assumption) ?_
  refine s_aload_n dAL_clear_10 rfl rfl ?_
  refine s_get dAL_clear_11 gf_AL_9 (by repeat (first | exact up_self | assumption | rw [up_ne (by first | assumption | (intro q0; cases q0; done) | (intro q0; simp at q0; omega))])) ?_
  refine s_astore_n dAL_clear_14 rfl rfl ?_
  refine s_aload_n dAL_clear_15 rfl rfl ?_
  refine s_get dAL_clear_16 gf_AL_48 (by repeat (first | exact up_self | assumption | rw [up_ne (by first | assumption | (intro q0; cases q0; done) | (intro q0; simp at q0; omega))])) ?_
  refine s_istore_n dAL_clear_19 rfl rfl ?_
  refine s_aload_n dAL_clear_20 rfl rfl ?_
  refine s_iconst (v := 0) dAL_clear_21 (by decide) ?_
  refine s_dup_x1 dAL_clear_22 rfl rfl ?_
  refine s_putF dAL_clear_23 gf_AL_48 (by repeat (first | exact up_self | assumption | rw [up_ne (by first | assumption | (intro q0; cases q0; done) | (intro q0; simp at q0; omega))])) (by first | rfl | assumption) rfl (by first | exact Or.inl rfl | exact Or.inr ⟨rfl, rfl⟩) (by first | exact ⟨_, rfl⟩ | exact Or.inl rfl | exact Or.inr rfl | assumption) ?_
  refine s_istore_n dAL_clear_26 rfl rfl ?_
  rw [up_up]
  exact l_clear (z1 := z + nI 1) I ht (fun hh a1 a2 => ⟨rfl, a1, a2⟩) l.length 0 _ f (by omega) up_self (fun q1 => by rw [up_ne eld_nf]; exact I.2.2.2.2.1 q1) (fun c q1 => by rw [up_ne eld_nf]) (fun j q1 => by omega) (fun j _ => rfl) frL.rf.u1
theorem c_rca {h : Hp} {t : Nm} {l : List Nm} {i : Nat} (I : LsT h t l) (hi : i ≤ l.length) : ConF mAL_rangeCheckForAdd 0 [vR t, vI (nI i)] h none h := by
  obtain ⟨cap, z, f, I⟩ := I
  have e1 := I.1
  have hcap := I.2.1.le
  have hle := I.2.2.1
  refine c_enter (by decide +kernel) rfl rfl ?_
  refine s_iload_n dAL_rangeCheckForAdd_0 rfl rfl ?_
  refine s_aload_n dAL_rangeCheckForAdd_1 rfl rfl ?_
  refine s_get dAL_rangeCheckForAdd_2 gf_AL_48 (by repeat (first | exact up_self | assumption | rw [up_ne (by first | assumption | (intro q0; cases q0; done) | (intro q0; simp at q0; omega))])) ?_
  refine s_icmp_gt dAL_rangeCheckForAdd_5 (fun q => absurd q (nI_nlt hi (by omega))) (fun _ => ?_)
  refine s_iload_n dAL_rangeCheckForAdd_8 rfl rfl ?_
  refine s_if_ge dAL_rangeCheckForAdd_9 (fun _ => ?_) (fun q => absurd (nI_le (a := 0) (by omega) (by omega)) q)
  refine s_vret dAL_rangeCheckForAdd_25 rfl (by first | exact Nat.le_refl _ | decide | omega) (by first | exact Nat.le_refl _ | decide | omega) ?_
  exact ⟨rfl, rfl⟩
theorem c_addAt {h : Hp} {t x : Nm} {l : List Nm} {i : Nat} (I : LsT h t l) (hi : i ≤ l.length) (hl : l.length < 73) (E : EL t h l) (hx : OBJ t h x) (ht : Nat.ble 2 t.1 = true) :
    Con mAL_add2 5 1 73 [vR t, vI (nI i), vR x] h (fun v h' => v = none ∧ LsT h' t (l.insertIdx i x) ∧ frL t h h') := by
  have I0 := I
  obtain ⟨cap, z, f, I⟩ := I
  have K1 : ∀ (h1 : Hp) (cap1 : Nat) (z1 : Int32) (f1 : Nat → PV) (k1 n1 : Nat), k1 ≤ 1 → n1 ≤ 73 → LC h1 t l cap1 z1 f1 → l.length < cap1 → frL t h h1 → S mAL_add2 5 1 73 (fun v h' => v = none ∧ LsT h' t (l.insertIdx i x) ∧ frL t h h') 38 [some (vR t), some (vI (nI i)), some (vR x), some (vI (nI l.length)), some (vR (eld t cap1))] [] h1 k1 n1 := by
    intro h1 cap1 z1 f1 k1 n1 hk hn I1 hlt hfr
    have hob := I1.ob (E.fr hfr)
    obtain ⟨o1, o2, ci, g, o3, o4⟩ := id (hx.fr hfr)
    obtain ⟨e1, e2, e3, e4, e5, e6, e7⟩ := id I1
    have hcap := e2.le
    have ea := e5 (by omega)
    have k1 : (nI i).toNatClampNeg = i := nI_clamp (by omega)
    have k2 : (nI (i + 1)).toNatClampNeg = i + 1 := nI_clamp (by omega)
    have k3 : (nI (l.length - i)).toNatClampNeg = l.length - i := nI_clamp (by omega)
    refine s_aload dAL_add2_38 rfl ?_
    refine s_iload_n dAL_add2_40 rfl rfl ?_
    refine s_aload dAL_add2_41 rfl ?_
    refine s_iload_n dAL_add2_43 rfl rfl ?_
    refine s_iconst (v := nI 1) dAL_add2_44 (by decide) ?_
    first | refine s_iaddN dAL_add2_45 ?_ | refine s_iadd dAL_add2_45 ?_
    refine s_iload_n dAL_add2_46 rfl rfl ?_
    refine s_iload_n dAL_add2_47 rfl rfl ?_
    first | refine s_isubN dAL_add2_48 (by omega) ?_ | refine s_isub dAL_add2_48 ?_
    refine s_copy0 dAL_add2_49 cy_AL_112 ea ea (Or.inr rfl) (eld_b ht) (nI_nlt (b := 0) (by omega) (by omega)) (nI_nlt (b := 0) (by omega) (by omega)) (nI_nlt (b := 0) (by omega) (by omega)) (by rw [k1, k3]; omega) (by rw [k2, k3]; omega) (fun j _ => ⟨fun z1 => absurd z1 (by decide), fun _ => hob _⟩) rfl rfl ?_
    rw [k1, k2, k3]
    have o4b : up h1 (eld t cap1) (22, cap1, cpy f1 f1 i (i + 1) (l.length - i)) x = some (ci, 0, g) := by rw [up_ne (hx.ne _)]; exact o4
    refine s_aload dAL_add2_52 rfl ?_
    refine s_iload_n dAL_add2_54 rfl rfl ?_
    refine s_aload_n dAL_add2_55 rfl rfl ?_
    refine s_aast dAL_add2_56 up_self (eld_b ht) o4b o3.lt (Or.inl ⟨rfl, o3.co⟩) (vp_in_nI (show i < cap1 by omega) (by omega)) ?_
    rw [k1, up_up]
    have e1b : up h1 (eld t cap1) (22, cap1, upf (cpy f1 f1 i (i + 1) (l.length - i)) i (vR x)) t = some (13, 0, fl [vR (adr t cap1), vI (nI l.length), vI z1]) := by rw [up_ne eld_ne]; exact e1
    refine s_aload_n dAL_add2_57 rfl rfl ?_
    refine s_iload_n dAL_add2_58 rfl rfl ?_
    refine s_iconst (v := nI 1) dAL_add2_59 (by decide) ?_
    first | refine s_iaddN dAL_add2_60 ?_ | refine s_iadd dAL_add2_60 ?_
    refine s_putF dAL_add2_61 gf_AL_48 (by repeat (first | exact up_self | assumption | rw [up_ne (by first | assumption | (intro q0; cases q0; done) | (intro q0; simp at q0; omega))])) (by first | rfl | assumption) rfl (by first | exact Or.inl rfl | exact Or.inr ⟨rfl, rfl⟩) (by first | exact ⟨_, rfl⟩ | exact Or.inl rfl | exact Or.inr rfl | assumption) ?_
    refine s_vret dAL_add2_64 rfl (by first | exact Nat.le_refl _ | decide | omega) (by first | exact Nat.le_refl _ | decide | omega) ?_
    have hli : (l.insertIdx i x).length = l.length + 1 := List.length_insertIdx_of_le_length hi x
    refine ⟨rfl, ⟨cap1, z1, upf (cpy f1 f1 i (i + 1) (l.length - i)) i (vR x), I1.gen (by omega) (fun j y q1 => ?_) (fun j q1 => ?_) _ (by rw [up_self, hli]; rfl) (fun _ => by rw [up_ne eld_nf, up_self]) (fun c q1 => by rw [up_ne eld_nf, up_ne (eld_in (by omega))])⟩, hfr.u2.u1⟩
    · rw [List.getElem?_insertIdx] at q1
      unfold upf cpy
      by_cases c1 : j < i
      · rw [if_pos c1] at q1
        rw [if_neg (by omega), if_neg (by omega)]
        exact e6 j y q1
      · rw [if_neg c1] at q1
        by_cases c2 : j = i
        · rw [if_pos c2, if_pos (by omega)] at q1
          rw [if_pos c2]
          cases q1
          rfl
        · rw [if_neg c2] at q1
          have hj : j - 1 < l.length := (List.getElem?_eq_some_iff.mp q1).1
          rw [if_neg c2, if_pos (by omega), show i + (j - (i + 1)) = j - 1 by omega]
          exact e6 (j - 1) y q1
    · unfold upf cpy
      rw [if_neg (by omega), if_neg (by omega)]
      exact e7 j (by omega)
  have e1 := I.1
  have hcap := I.2.1.le
  have fr1 : frL t h (up h t (13, 0, fl [vR (adr t cap), vI (nI l.length), vI (z + nI 1)])) := frL.rf.u1
  refine c_enter (by decide +kernel) rfl rfl ?_
  by_cases c0 : l.length = cap
  · have K2 : S mAL_add2 5 1 73 (fun v h' => v = none ∧ LsT h' t (l.insertIdx i x) ∧ frL t h h') 32 [some (vR t), some (vI (nI i)), some (vR x), some (vI (nI l.length)), some (vR (adr t cap))] [] (up h t (13, 0, fl [vR (adr t cap), vI (nI l.length), vI (z + nI 1)])) 0 0 := by
      refine s_aload_n dAL_add2_32 rfl rfl ?_
      refine s_callV (As := []) dAL_add2_33 cv_AL_129 (by repeat (first | exact up_self | assumption | rw [up_ne (by first | assumption | (intro q0; cases q0; done) | (intro q0; simp at q0; omega))])) (c_grow (I.mod (z' := z + nI 1)) c0 (by omega) (E.fr fr1) ht) (by first | rfl | exact Nat.ble_eq_true_of_le (by omega)) (by first | rfl | exact Nat.ble_eq_true_of_le (by omega)) (by first | rfl | exact Nat.ble_eq_true_of_le (by omega)) rfl (fun v0 h2 q0 => ?_)
      obtain ⟨cap', f', rfl, a1, a2, a3⟩ := q0
      refine s_astore dAL_add2_36 rfl ?_
      exact K1 h2 cap' _ f' _ _ (by omega) (by omega) a2 (by omega) (fr1.tr a3)
    by_cases c1 : cap = 0
    · subst c1
      refine s_wd (fun w0 => ?_)
      have ea : adr t 0 = (1, 0, 0) := if_pos rfl
      rw [ea] at K2 e1
      have w1 : up h t (13, 0, fl [vR (1, 0, 0), vI (nI l.length), vI (z + nI 1)]) (1, 0, 0) = some (28, 0, fun _ => vN) := by
        rw [up_ne (fun z1 => by rw [← z1] at ht; exact absurd ht (by decide))]; exact w0
      refine s_aload_n dAL_add2_0 rfl rfl ?_
      refine s_iload_n dAL_add2_1 rfl rfl ?_
      refine s_v1v dAL_add2_2 cv_AL_135 (by repeat (first | exact up_self | assumption | rw [up_ne (by first | assumption | (intro q0; cases q0; done) | (intro q0; simp at q0; omega))])) (c_rca I0 hi) rfl rfl rfl rfl ?_
      refine s_aload_n dAL_add2_5 rfl rfl ?_
      refine s_dup dAL_add2_6 rfl ?_
      refine s_get dAL_add2_7 gf_AL_63 (by repeat (first | exact up_self | assumption | rw [up_ne (by first | assumption | (intro q0; cases q0; done) | (intro q0; simp at q0; omega))])) ?_
      refine s_iconst (v := nI 1) dAL_add2_10 (by decide) ?_
      first | refine s_iaddN dAL_add2_11 ?_ | refine s_iadd dAL_add2_11 ?_
      refine s_putF dAL_add2_12 gf_AL_63 (by repeat (first | exact up_self | assumption | rw [up_ne (by first | assumption | (intro q0; cases q0; done) | (intro q0; simp at q0; omega))])) (by first | rfl | assumption) rfl (by first | exact Or.inl rfl | exact Or.inr ⟨rfl, rfl⟩) (by first | exact ⟨_, rfl⟩ | exact Or.inl rfl | exact Or.inr rfl | assumption) ?_
      refine s_aload_n dAL_add2_15 rfl rfl ?_
      refine s_get dAL_add2_16 gf_AL_48 (by repeat (first | exact up_self | assumption | rw [up_ne (by first | assumption | (intro q0; cases q0; done) | (intro q0; simp at q0; omega))])) ?_
      refine s_dup dAL_add2_19 rfl ?_
      refine s_istore_n dAL_add2_20 rfl rfl ?_
      refine s_aload_n dAL_add2_21 rfl rfl ?_
      refine s_get dAL_add2_22 gf_AL_9 (by repeat (first | exact up_self | assumption | rw [up_ne (by first | assumption | (intro q0; cases q0; done) | (intro q0; simp at q0; omega))])) ?_
      refine s_dup dAL_add2_25 rfl ?_
      refine s_astore dAL_add2_26 rfl ?_
      refine s_alen dAL_add2_28 w1 rfl (by first | exact Or.inl rfl | exact Or.inr (Or.inl rfl)) ?_
      refine s_icmp_ne dAL_add2_29 (fun q => absurd (by rw [c0]) q) (fun _ => ?_)
      exact K2
    · have ea : adr t cap = eld t cap := if_neg c1
      have e5 := I.2.2.2.2.1 (by omega)
      rw [ea] at K2 e1
      have w1 : up h t (13, 0, fl [vR (eld t cap), vI (nI l.length), vI (z + nI 1)]) (eld t cap) = some (22, cap, f) := by rw [up_ne eld_nf]; exact e5
      refine s_aload_n dAL_add2_0 rfl rfl ?_
      refine s_iload_n dAL_add2_1 rfl rfl ?_
      refine s_v1v dAL_add2_2 cv_AL_135 (by repeat (first | exact up_self | assumption | rw [up_ne (by first | assumption | (intro q0; cases q0; done) | (intro q0; simp at q0; omega))])) (c_rca I0 hi) rfl rfl rfl rfl ?_
      refine s_aload_n dAL_add2_5 rfl rfl ?_
      refine s_dup dAL_add2_6 rfl ?_
      refine s_get dAL_add2_7 gf_AL_63 (by repeat (first | exact up_self | assumption | rw [up_ne (by first | assumption | (intro q0; cases q0; done) | (intro q0; simp at q0; omega))])) ?_
      refine s_iconst (v := nI 1) dAL_add2_10 (by decide) ?_
      first | refine s_iaddN dAL_add2_11 ?_ | refine s_iadd dAL_add2_11 ?_
      refine s_putF dAL_add2_12 gf_AL_63 (by repeat (first | exact up_self | assumption | rw [up_ne (by first | assumption | (intro q0; cases q0; done) | (intro q0; simp at q0; omega))])) (by first | rfl | assumption) rfl (by first | exact Or.inl rfl | exact Or.inr ⟨rfl, rfl⟩) (by first | exact ⟨_, rfl⟩ | exact Or.inl rfl | exact Or.inr rfl | assumption) ?_
      refine s_aload_n dAL_add2_15 rfl rfl ?_
      refine s_get dAL_add2_16 gf_AL_48 (by repeat (first | exact up_self | assumption | rw [up_ne (by first | assumption | (intro q0; cases q0; done) | (intro q0; simp at q0; omega))])) ?_
      refine s_dup dAL_add2_19 rfl ?_
      refine s_istore_n dAL_add2_20 rfl rfl ?_
      refine s_aload_n dAL_add2_21 rfl rfl ?_
      refine s_get dAL_add2_22 gf_AL_9 (by repeat (first | exact up_self | assumption | rw [up_ne (by first | assumption | (intro q0; cases q0; done) | (intro q0; simp at q0; omega))])) ?_
      refine s_dup dAL_add2_25 rfl ?_
      refine s_astore dAL_add2_26 rfl ?_
      refine s_alen dAL_add2_28 w1 rfl (by first | exact Or.inl rfl | exact Or.inr (Or.inl rfl)) ?_
      refine s_icmp_ne dAL_add2_29 (fun q => absurd (by rw [c0]) q) (fun _ => ?_)
      exact K2
  · have c1 : l.length < cap := by have := I.2.2.1; omega
    have ea : adr t cap = eld t cap := if_neg (by omega)
    have e5 := I.2.2.2.2.1 (by omega)
    have K3 := K1 _ cap (z + nI 1) f 0 0 (by omega) (by omega) (I.mod (z' := z + nI 1)) c1 fr1
    rw [ea] at K3 e1
    have w1 : up h t (13, 0, fl [vR (eld t cap), vI (nI l.length), vI (z + nI 1)]) (eld t cap) = some (22, cap, f) := by rw [up_ne eld_nf]; exact e5
    refine s_aload_n dAL_add2_0 rfl rfl ?_
    refine s_iload_n dAL_add2_1 rfl rfl ?_
    refine s_v1v dAL_add2_2 cv_AL_135 (by repeat (first | exact up_self | assumption | rw [up_ne (by first | assumption | (intro q0; cases q0; done) | (intro q0; simp at q0; omega))])) (c_rca I0 hi) rfl rfl rfl rfl ?_
    refine s_aload_n dAL_add2_5 rfl rfl ?_
    refine s_dup dAL_add2_6 rfl ?_
    refine s_get dAL_add2_7 gf_AL_63 (by repeat (first | exact up_self | assumption | rw [up_ne (by first | assumption | (intro q0; cases q0; done) | (intro q0; simp at q0; omega))])) ?_
    refine s_iconst (v := nI 1) dAL_add2_10 (by decide) ?_
    first | refine s_iaddN dAL_add2_11 ?_ | refine s_iadd dAL_add2_11 ?_
    refine s_putF dAL_add2_12 gf_AL_63 (by repeat (first | exact up_self | assumption | rw [up_ne (by first | assumption | (intro q0; cases q0; done) | (intro q0; simp at q0; omega))])) (by first | rfl | assumption) rfl (by first | exact Or.inl rfl | exact Or.inr ⟨rfl, rfl⟩) (by first | exact ⟨_, rfl⟩ | exact Or.inl rfl | exact Or.inr rfl | assumption) ?_
    refine s_aload_n dAL_add2_15 rfl rfl ?_
    refine s_get dAL_add2_16 gf_AL_48 (by repeat (first | exact up_self | assumption | rw [up_ne (by first | assumption | (intro q0; cases q0; done) | (intro q0; simp at q0; omega))])) ?_
    refine s_dup dAL_add2_19 rfl ?_
    refine s_istore_n dAL_add2_20 rfl rfl ?_
    refine s_aload_n dAL_add2_21 rfl rfl ?_
    refine s_get dAL_add2_22 gf_AL_9 (by repeat (first | exact up_self | assumption | rw [up_ne (by first | assumption | (intro q0; cases q0; done) | (intro q0; simp at q0; omega))])) ?_
    refine s_dup dAL_add2_25 rfl ?_
    refine s_astore dAL_add2_26 rfl ?_
    refine s_alen dAL_add2_28 w1 rfl (by first | exact Or.inl rfl | exact Or.inr (Or.inl rfl)) ?_
    refine s_icmp_ne dAL_add2_29 (fun _ => ?_) (fun q => absurd q (nI_ne c0 (by omega) (by omega)))
    exact K3
theorem c_fastR {h : Hp} {t : Nm} {l : List Nm} {cap i : Nat} {z : Int32} {f : Nat → PV} (I : LC h t l cap z f) (hi : i < l.length) (E : EL t h l) (ht : Nat.ble 2 t.1 = true) :
    Con mAL_fastRemove 1 0 0 [vR t, vR (eld t cap), vI (nI i)] h (fun v h' => v = none ∧ LsT h' t (l.eraseIdx i) ∧ frL t h h') := by
  have hob := I.ob E
  obtain ⟨e1, e2, e3, e4, e5, e6, e7⟩ := id I
  have hcap := e2.le
  have ea := e5 (by omega)
  have hle : (l.eraseIdx i).length = l.length - 1 := List.length_eraseIdx_of_lt hi
  have K1 : ∀ f1 h1, h1 t = some (13, 0, fl [vR (adr t cap), vI (nI l.length), vI (z + nI 1)]) → h1 (eld t cap) = some (22, cap, f1) → (∀ c, cap < c → h1 (eld t c) = h (eld t c)) → (∀ j, j < l.length - 1 → f1 j = if j < i then f j else f (j + 1)) → (∀ j, l.length ≤ j → f1 j = vN) → frL t h h1 →
      S mAL_fastRemove 1 0 0 (fun v h' => v = none ∧ LsT h' t (l.eraseIdx i) ∧ frL t h h') 34 [some (vR t), some (vR (eld t cap)), some (vI (nI i)), some (vI (nI (l.length - 1)))] [] h1 0 0 := by
    intro f1 h1 g1 g2 g3 g4 g5 g6
    refine s_aload_n dAL_fastRemove_34 rfl rfl ?_
    refine s_aload_n dAL_fastRemove_35 rfl rfl ?_
    refine s_iload_n dAL_fastRemove_36 rfl rfl ?_
    refine s_dup_x1 dAL_fastRemove_37 rfl rfl ?_
    refine s_putF dAL_fastRemove_38 gf_AL_48 g1 ht rfl (Or.inl rfl) ⟨_, rfl⟩ ?_
    have g2b : up h1 t (13, 0, fl [vR (adr t cap), vI (nI (l.length - 1)), vI (z + nI 1)]) (eld t cap) = some (22, cap, f1) := by rw [up_ne eld_nf]; exact g2
    refine s_null dAL_fastRemove_41 ?_
    refine s_aastN dAL_fastRemove_42 g2b (eld_b ht) (vp_in_nI (show l.length - 1 < cap by omega) (by omega)) ?_
    rw [nI_clamp (by omega)]
    refine s_vret dAL_fastRemove_43 rfl (by first | exact Nat.le_refl _ | decide | omega) (by first | exact Nat.le_refl _ | decide | omega) ?_
    refine ⟨rfl, ⟨cap, z + nI 1, upf f1 (l.length - 1) vN, I.gen (by omega) (fun j y q1 => ?_) (fun j q1 => ?_) _ (by rw [up_ne eld_ne, up_self, hle]; rfl) (fun _ => up_self) (fun c q1 => by rw [up_ne (eld_in (by omega)), up_ne eld_nf]; exact g3 c q1)⟩, g6.u1.u2⟩
    · have hj : j < l.length - 1 := by
        have := (List.getElem?_eq_some_iff.mp q1).1
        omega
      unfold upf
      rw [if_neg (by omega), g4 j hj]
      rw [List.getElem?_eraseIdx] at q1
      by_cases c1 : j < i
      · rw [if_pos c1] at q1 ⊢; exact e6 j y q1
      · rw [if_neg c1] at q1 ⊢; exact e6 (j + 1) y q1
    · unfold upf
      by_cases c1 : j = l.length - 1
      · rw [if_pos c1]
      · rw [if_neg c1]; exact g5 j (by omega)
  have fr1 : frL t h (up h t (13, 0, fl [vR (adr t cap), vI (nI l.length), vI (z + nI 1)])) := frL.rf.u1
  have eab : up h t (13, 0, fl [vR (adr t cap), vI (nI l.length), vI (z + nI 1)]) (eld t cap) = some (22, cap, f) := by rw [up_ne eld_nf]; exact ea
  refine c_enter (by decide +kernel) rfl rfl ?_
  by_cases c0 : i = l.length - 1
  · refine s_aload_n dAL_fastRemove_0 rfl rfl ?_
    refine s_dup dAL_fastRemove_1 rfl ?_
    refine s_get dAL_fastRemove_2 gf_AL_63 (by repeat (first | exact up_self | assumption | rw [up_ne (by first | assumption | (intro q0; cases q0; done) | (intro q0; simp at q0; omega))])) ?_
    refine s_iconst (v := nI 1) dAL_fastRemove_5 (by decide) ?_
    first | refine s_iaddN dAL_fastRemove_6 ?_ | refine s_iadd dAL_fastRemove_6 ?_
    refine s_putF dAL_fastRemove_7 gf_AL_63 (by repeat (first | exact up_self | assumption | rw [up_ne (by first | assumption | (intro q0; cases q0; done) | (intro q0; simp at q0; omega))])) (by first | rfl | assumption) rfl (by first | exact Or.inl rfl | exact Or.inr ⟨rfl, rfl⟩) (by first | exact ⟨_, rfl⟩ | exact Or.inl rfl | exact Or.inr rfl | assumption) ?_
    refine s_aload_n dAL_fastRemove_10 rfl rfl ?_
    refine s_get dAL_fastRemove_11 gf_AL_48 (by repeat (first | exact up_self | assumption | rw [up_ne (by first | assumption | (intro q0; cases q0; done) | (intro q0; simp at q0; omega))])) ?_
    refine s_iconst (v := nI 1) dAL_fastRemove_14 (by decide) ?_
    first | refine s_isubN dAL_fastRemove_15 (by omega) ?_ | refine s_isub dAL_fastRemove_15 ?_
    refine s_dup dAL_fastRemove_16 rfl ?_
    refine s_istore_n dAL_fastRemove_17 rfl rfl ?_
    refine s_iload_n dAL_fastRemove_18 rfl rfl ?_
    refine s_icmp_le dAL_fastRemove_19 (fun _ => ?_) (fun q => absurd (by rw [c0]; exact Int32.le_refl _) q)
    refine K1 f _ up_self eab (fun c q1 => by rw [up_ne eld_nf]) (fun j q1 => by rw [if_pos (by omega)]) e7 fr1
  · refine s_aload_n dAL_fastRemove_0 rfl rfl ?_
    refine s_dup dAL_fastRemove_1 rfl ?_
    refine s_get dAL_fastRemove_2 gf_AL_63 (by repeat (first | exact up_self | assumption | rw [up_ne (by first | assumption | (intro q0; cases q0; done) | (intro q0; simp at q0; omega))])) ?_
    refine s_iconst (v := nI 1) dAL_fastRemove_5 (by decide) ?_
    first | refine s_iaddN dAL_fastRemove_6 ?_ | refine s_iadd dAL_fastRemove_6 ?_
    refine s_putF dAL_fastRemove_7 gf_AL_63 (by repeat (first | exact up_self | assumption | rw [up_ne (by first | assumption | (intro q0; cases q0; done) | (intro q0; simp at q0; omega))])) (by first | rfl | assumption) rfl (by first | exact Or.inl rfl | exact Or.inr ⟨rfl, rfl⟩) (by first | exact ⟨_, rfl⟩ | exact Or.inl rfl | exact Or.inr rfl | assumption) ?_
    refine s_aload_n dAL_fastRemove_10 rfl rfl ?_
    refine s_get dAL_fastRemove_11 gf_AL_48 (by repeat (first | exact up_self | assumption | rw [up_ne (by first | assumption | (intro q0; cases q0; done) | (intro q0; simp at q0; omega))])) ?_
    refine s_iconst (v := nI 1) dAL_fastRemove_14 (by decide) ?_
    first | refine s_isubN dAL_fastRemove_15 (by omega) ?_ | refine s_isub dAL_fastRemove_15 ?_
    refine s_dup dAL_fastRemove_16 rfl ?_
    refine s_istore_n dAL_fastRemove_17 rfl rfl ?_
    refine s_iload_n dAL_fastRemove_18 rfl rfl ?_
    refine s_icmp_le dAL_fastRemove_19 (fun q => absurd q (nI_ge (show i < l.length - 1 by omega) (by omega))) (fun _ => ?_)
    refine s_aload_n dAL_fastRemove_22 rfl rfl ?_
    refine s_iload_n dAL_fastRemove_23 rfl rfl ?_
    refine s_iconst (v := nI 1) dAL_fastRemove_24 (by decide) ?_
    first | refine s_iaddN dAL_fastRemove_25 ?_ | refine s_iadd dAL_fastRemove_25 ?_
    refine s_aload_n dAL_fastRemove_26 rfl rfl ?_
    refine s_iload_n dAL_fastRemove_27 rfl rfl ?_
    refine s_iload_n dAL_fastRemove_28 rfl rfl ?_
    refine s_iload_n dAL_fastRemove_29 rfl rfl ?_
    first | refine s_isubN dAL_fastRemove_30 (by omega) ?_ | refine s_isub dAL_fastRemove_30 ?_
    have k1 : (nI (i + 1)).toNatClampNeg = i + 1 := nI_clamp (by omega)
    have k2 : (nI i).toNatClampNeg = i := nI_clamp (by omega)
    have k3 : (nI (l.length - 1 - i)).toNatClampNeg = l.length - 1 - i := nI_clamp (by omega)
    have hob2 := (I.mod (z' := z + nI 1)).ob (E.fr fr1)
    refine s_copy0 dAL_fastRemove_31 cy_AL_112 eab eab (Or.inr rfl) (eld_b ht) (nI_nlt (b := 0) (by omega) (by omega)) (nI_nlt (b := 0) (by omega) (by omega)) (nI_nlt (b := 0) (by omega) (by omega)) (by rw [k1, k3]; omega) (by rw [k2, k3]; omega) (fun j _ => ⟨fun z1 => absurd z1 (by decide), fun _ => hob2 _⟩) rfl rfl ?_
    rw [k1, k2, k3]
    refine K1 _ _ (by rw [up_ne eld_ne, up_self]; rfl) up_self (fun c q1 => by rw [up_ne (eld_in (by omega)), up_ne eld_nf]) (fun j q1 => ?_) (fun j q1 => ?_) fr1.u2
    · unfold cpy
      by_cases c1 : j < i
      · rw [if_neg (by omega), if_pos c1]
      · rw [if_pos (by omega), if_neg c1, show i + 1 + (j - i) = j + 1 by omega]
    · unfold cpy
      rw [if_neg (by omega)]
      exact e7 j q1
theorem c_remove {h : Hp} {t : Nm} {l : List Nm} {i : Nat} (I : LsT h t l) (hi : i < l.length) (E : EL t h l) (ht : Nat.ble 2 t.1 = true) :
    Con mAL_remove 2 0 0 [vR t, vI (nI i)] h (fun v h' => (∃ y, v = some (vR y)) ∧ LsT h' t (l.eraseIdx i) ∧ frL t h h') := by
  obtain ⟨cap, z, f, I⟩ := I
  obtain ⟨e1, e2, e3, e4, e5, e6, e7⟩ := id I
  have hcap := e2.le
  have e5b := e5 (by omega)
  have ea : adr t cap = eld t cap := if_neg (by omega)
  obtain ⟨y, hy1⟩ : ∃ y, l[i]? = some y := ⟨_, List.getElem?_eq_getElem hi⟩
  rw [ea] at e1
  refine c_enter (by decide +kernel) rfl rfl ?_
  refine s_iload_n dAL_remove_0 rfl rfl ?_
  refine s_aload_n dAL_remove_1 rfl rfl ?_
  refine s_get dAL_remove_2 gf_AL_48 (by repeat (first | exact up_self | assumption | rw [up_ne (by first | assumption | (intro q0; cases q0; done) | (intro q0; simp at q0; omega))])) ?_
  refine s_t2 dAL_remove_5 cs_AL_118 (c_check hi (by omega)) rfl rfl rfl rfl ?_
  refine s_pop dAL_remove_8 rfl ?_
  refine s_aload_n dAL_remove_9 rfl rfl ?_
  refine s_get dAL_remove_10 gf_AL_9 (by repeat (first | exact up_self | assumption | rw [up_ne (by first | assumption | (intro q0; cases q0; done) | (intro q0; simp at q0; omega))])) ?_
  refine s_astore_n dAL_remove_13 rfl rfl ?_
  refine s_aload_n dAL_remove_14 rfl rfl ?_
  refine s_iload_n dAL_remove_15 rfl rfl ?_
  refine s_aaldN dAL_remove_16 (by repeat (first | exact up_self | assumption | rw [up_ne (by first | assumption | (intro q0; cases q0; done) | (intro q0; simp at q0; omega))])) rfl rfl (by omega) (by omega) ?_
  refine s_tv (e6 i y hy1) ?_
  refine s_astore_n dAL_remove_17 rfl rfl ?_
  refine s_aload_n dAL_remove_18 rfl rfl ?_
  refine s_aload_n dAL_remove_19 rfl rfl ?_
  refine s_iload_n dAL_remove_20 rfl rfl ?_
  refine s_callV (As := [_, _]) dAL_remove_21 cv_AL_144 (by repeat (first | exact up_self | assumption | rw [up_ne (by first | assumption | (intro q0; cases q0; done) | (intro q0; simp at q0; omega))])) (c_fastR I hi E ht) (by first | rfl | exact Nat.ble_eq_true_of_le (by omega)) (by first | rfl | exact Nat.ble_eq_true_of_le (by omega)) (by first | rfl | exact Nat.ble_eq_true_of_le (by omega)) rfl (fun v0 h2 q0 => ?_)
  obtain ⟨rfl, a1, a2⟩ := q0
  refine s_aload_n dAL_remove_24 rfl rfl ?_
  refine s_aret dAL_remove_25 rfl (by first | exact Or.inl ⟨_, rfl⟩ | exact Or.inr ⟨_, rfl⟩) (by first | exact Nat.le_refl _ | decide | omega) (by first | exact Nat.le_refl _ | decide | omega) ?_
  exact ⟨⟨y, rfl⟩, a1, a2⟩
theorem c_setAt {h : Hp} {t x : Nm} {l : List Nm} {i : Nat} (I : LsT h t l) (hi : i < l.length) (hx : OBJ t h x) (ht : Nat.ble 2 t.1 = true) :
    Con mAL_set 2 0 0 [vR t, vI (nI i), vR x] h (fun v h' => (∃ y, v = some (vR y)) ∧ LsT h' t (l.set i x) ∧ frL t h h') := by
  have I0 := I
  obtain ⟨cap, z, f, I⟩ := I
  obtain ⟨e1, e2, e3, e4, e5, e6, e7⟩ := id I
  have hcap := e2.le
  have e5b := e5 (by omega)
  have ea : adr t cap = eld t cap := if_neg (by omega)
  obtain ⟨y, hy1⟩ : ∃ y, l[i]? = some y := ⟨_, List.getElem?_eq_getElem hi⟩
  obtain ⟨o1, o2, ci, g, o3, o4⟩ := id hx
  have e1b := e1
  rw [ea] at e1
  clear e1b
  refine c_enter (by decide +kernel) rfl rfl ?_
  refine s_iload_n dAL_set_0 rfl rfl ?_
  refine s_aload_n dAL_set_1 rfl rfl ?_
  refine s_get dAL_set_2 gf_AL_48 (by repeat (first | exact up_self | assumption | rw [up_ne (by first | assumption | (intro q0; cases q0; done) | (intro q0; simp at q0; omega))])) ?_
  refine s_t2 dAL_set_5 cs_AL_118 (c_check hi (by omega)) rfl rfl rfl rfl ?_
  refine s_pop dAL_set_8 rfl ?_
  refine s_aload_n dAL_set_9 rfl rfl ?_
  refine s_iload_n dAL_set_10 rfl rfl ?_
  refine s_v1 dAL_set_11 cv_AL_123 (by repeat (first | exact up_self | assumption | rw [up_ne (by first | assumption | (intro q0; cases q0; done) | (intro q0; simp at q0; omega))])) (c_elD I0 hy1) rfl rfl rfl rfl ?_
  refine s_astore_n dAL_set_14 rfl rfl ?_
  refine s_aload_n dAL_set_15 rfl rfl ?_
  refine s_get dAL_set_16 gf_AL_9 (by repeat (first | exact up_self | assumption | rw [up_ne (by first | assumption | (intro q0; cases q0; done) | (intro q0; simp at q0; omega))])) ?_
  refine s_iload_n dAL_set_19 rfl rfl ?_
  refine s_aload_n dAL_set_20 rfl rfl ?_
  refine s_aast dAL_set_21 e5b (eld_b ht) o4 o3.lt (Or.inl ⟨rfl, o3.co⟩) (vp_in_nI (show i < cap by omega) (by omega)) ?_
  rw [nI_clamp (by omega)]
  refine s_aload_n dAL_set_22 rfl rfl ?_
  refine s_aret dAL_set_23 rfl (by first | exact Or.inl ⟨_, rfl⟩ | exact Or.inr ⟨_, rfl⟩) (by first | exact Nat.le_refl _ | decide | omega) (by first | exact Nat.le_refl _ | decide | omega) ?_
  refine ⟨⟨y, rfl⟩, ⟨cap, z, upf f i (vR x), I.gen (by simp; omega) (fun j w q1 => ?_) (fun j q1 => ?_) _ (by rw [up_ne eld_ne, List.length_set, ea]; exact e1) (fun _ => up_self) (fun c q1 => by rw [up_ne (eld_in (by omega))])⟩, frL.rf.u2⟩
  · rw [List.getElem?_set] at q1
    unfold upf
    by_cases c1 : j = i
    · rw [if_pos c1]
      rw [if_pos c1.symm, if_pos (by omega)] at q1
      cases q1
      rfl
    · rw [if_neg c1]
      rw [if_neg (fun z1 => c1 z1.symm)] at q1
      exact e6 j w q1
  · rw [List.length_set] at q1
    unfold upf
    rw [if_neg (by omega)]
    exact e7 j q1
