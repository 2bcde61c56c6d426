/-! a book's row is made anew -/
theorem frL.o {t : Nat} {b i j k : Nat} {h h' : Hp} (h1 : frL (t, b, 0) h h') (a : i ≠ t) (c : i ≠ t + 1) : h' (i, j, k) = h (i, j, k) := h1 _ (fun z1 => a (by have := congrArg Prod.fst z1; exact this)) (fun q z1 => c (by have := congrArg Prod.fst z1; exact this))
theorem rC.fl {h h' : Hp} {σ : Sg} {R b : Nat} {t : Nat} (I : rC h σ R) (hf : frL (t, b, 0) h h') (ht : t + 1 < 26) : rC h' σ R := by
  obtain ⟨e1, e2, e3⟩ := I
  have k1 : ∀ i j c, 26 ≤ i → h' (i, j, c) = h (i, j, c) := fun i j c q1 => hf.o (by omega) (by omega)
  refine ⟨e1.at (k1 _ _ _ (by omega)) (fun c => k1 _ _ _ (by omega)), fun r q1 => ?_, fun r q1 t q2 q3 c => by rw [k1 t r c (by omega)]; exact e3 r q1 t q2 q3 c⟩
  obtain ⟨⟨b, hw, mk, a1, a2, a3, a4⟩, a5, a6⟩ := e2 r q1
  exact ⟨⟨b, hw, mk, a1, a2, by rw [k1 _ _ _ (by omega)]; exact a3, a4⟩, a5.at (k1 _ _ _ (by omega)) (fun c => k1 _ _ _ (by omega)), fun k => by rw [k1 31 r k (by omega)]; exact a6 k⟩
theorem nI_m1 {k : Nat} (h : k < 2 ^ 30) : ¬ nI k = -1 := fun q => by
  have h1 := nI_toInt (n := k) (by omega)
  rw [q] at h1
  have h2 : (-1 : Int32).toInt = -1 := by decide
  omega
theorem l_putBy {h : Hp} {σ : Sg} {R K b r : Nat} {l : List Nat} {o0 : PV} (bk : h (18, b, 0) = some (0, 0, fl [o0, vR (19, b, 0), vR (20, b, 0), vR (22, b, 0), vR (24, b, 0)])) (I : rC h σ R) (L : LsT h (24, b, 0) (rL l)) (P : KP σ K) (L1 : RK σ R K) (hs : Sd σ l) (hl : ∀ x ∈ l, x < r) (hr : r < R) (h60 : l.length < 60) :
    ∀ (p : Nat), p ≤ l.length → (∀ j x, p ≤ j → l[j]? = some x → ky σ x < ky σ r) →
      S mBook_putByRank 6 1 73 (fun v h' => v = none ∧ LsT h' (24, b, 0) (rL (insR σ r l)) ∧ frL (24, b, 0) h h') 8 [some (vR (18, b, 0)), some (vR (28, r, 0)), some (vI (nI p))] [] h 0 0 := by
  have hR := L1.1
  obtain ⟨cap, z, f, e2, -⟩ := id L
  have E1 : EL (24, b, 0) h (rL l) := I.el (show (24 : Nat) ≠ 28 by decide) (show (24 : Nat) ≠ 27 by decide) (fun x hx1 => by have := hl x hx1; omega)
  have O1 : OBJ (24, b, 0) h (28, r, 0) := I.ob hr (show (24 : Nat) ≠ 28 by decide) (show (24 : Nat) ≠ 27 by decide)
  have fin0 : ∀ p, p ≤ l.length → (l.takeWhile fun x => ahd σ x r).length = p → S mBook_putByRank 6 1 73 (fun v h' => v = none ∧ LsT h' (24, b, 0) (rL (insR σ r l)) ∧ frL (24, b, 0) h h') 38 [some (vR (18, b, 0)), some (vR (28, r, 0)), some (vI (nI p))] [] h 0 0 := by
    intro p hp1 hp2
    refine s_aload_n dBook_putByRank_38 rfl rfl ?_
    refine s_get dBook_putByRank_39 gf_Book_25 (by repeat (first | exact up_self | assumption | rw [up_ne (by first | assumption | (intro q0; cases q0; done) | (intro q0; simp at q0; omega))])) ?_
    refine s_iload_n dBook_putByRank_42 rfl rfl ?_
    refine s_aload_n dBook_putByRank_43 rfl rfl ?_
    refine s_callV (As := [_, _]) dBook_putByRank_44 cv_Book_70 (by repeat (first | exact up_self | assumption | rw [up_ne (by first | assumption | (intro q0; cases q0; done) | (intro q0; simp at q0; omega))])) (c_addAt L (by rw [rL_len]; exact hp1) (by rw [rL_len]; omega) E1 O1 rfl) (by first | rfl | exact Nat.ble_eq_true_of_le (by omega)) (by first | rfl | exact Nat.ble_eq_true_of_le (by omega)) (by first | rfl | exact Nat.ble_eq_true_of_le (by omega)) rfl (fun v0 h2 q0 => ?_)
    obtain ⟨rfl, a1, a2⟩ := q0
    refine s_vret dBook_putByRank_47 rfl (by first | exact Nat.le_refl _ | decide | omega) (by first | exact Nat.le_refl _ | decide | omega) ?_
    refine ⟨rfl, ?_, a2⟩
    unfold insR
    rw [hp2, ← rL_in]
    exact a1
  intro p
  induction p with
  | zero =>
    intro hp1 hp2
    refine s_iload_n dBook_putByRank_8 rfl rfl ?_
    refine s_if_le dBook_putByRank_9 (fun _ => ?_) (fun q => absurd (by exact Int32.le_refl 0) q)
    exact fin0 0 (by omega) (hs.at hl hp1 hp2 (Or.inl rfl))
  | succ p ih1 =>
    intro hp1 hp2
    obtain ⟨x, hx1⟩ : ∃ x, l[p]? = some x := ⟨_, List.getElem?_eq_getElem (by omega)⟩
    have hxr := hl x (List.mem_of_getElem? hx1)
    obtain ⟨⟨bx, hwx, mkx, -, -, ex, -⟩, -⟩ := I.2.1 x (by omega)
    obtain ⟨⟨br, hwr, mkr, -, -, er, -⟩, -⟩ := I.2.1 r hr
    have cg := c_get L (rL_get hx1)
    have co := c_outranks I P L1 hr (x := x) (by omega)
    by_cases c1 : ky σ x < ky σ r
    · rw [zi_dec.1 c1] at co
      refine s_iload_n dBook_putByRank_8 rfl rfl ?_
      refine s_if_le dBook_putByRank_9 (fun q => absurd q (nI_ge (a := 0) (by omega) (by omega))) (fun _ => ?_)
      refine s_aload_n dBook_putByRank_12 rfl rfl ?_
      refine s_aload_n dBook_putByRank_13 rfl rfl ?_
      refine s_get dBook_putByRank_14 gf_Book_25 (by repeat (first | exact up_self | assumption | rw [up_ne (by first | assumption | (intro q0; cases q0; done) | (intro q0; simp at q0; omega))])) ?_
      refine s_iload_n dBook_putByRank_17 rfl rfl ?_
      refine s_iconst (v := nI 1) dBook_putByRank_18 (by decide) ?_
      first | refine s_isubN dBook_putByRank_19 (by omega) ?_ | refine s_isub dBook_putByRank_19 ?_
      refine s_v1 dBook_putByRank_20 cv_Book_54 (by repeat (first | exact up_self | assumption | rw [up_ne (by first | assumption | (intro q0; cases q0; done) | (intro q0; simp at q0; omega))])) (cg) rfl rfl rfl rfl ?_
      refine s_cast dBook_putByRank_23 (by decide) (nw_Book_57).2.1 (by repeat (first | exact up_self | assumption | rw [up_ne (by first | assumption | (intro q0; cases q0; done) | (intro q0; simp at q0; omega))])) ?_
      refine s_v1 dBook_putByRank_26 cv_Book_66 (by repeat (first | exact up_self | assumption | rw [up_ne (by first | assumption | (intro q0; cases q0; done) | (intro q0; simp at q0; omega))])) (co) rfl rfl rfl rfl ?_
      refine s_if_eq dBook_putByRank_29 (fun q => absurd q (by decide)) (fun _ => ?_)
      refine s_iinc dBook_putByRank_32 rfl rfl ?_
      rw [nI_dec]
      refine s_goto dBook_putByRank_35 ?_
      refine ih1 (by omega) (fun j y hj1 hy1 => ?_)
      by_cases c2 : j = p
      · subst c2
        rw [hx1] at hy1
        cases hy1
        exact c1
      · exact hp2 j y (by omega) hy1
    · rw [zi_dec.2 c1] at co
      refine s_iload_n dBook_putByRank_8 rfl rfl ?_
      refine s_if_le dBook_putByRank_9 (fun q => absurd q (nI_ge (a := 0) (by omega) (by omega))) (fun _ => ?_)
      refine s_aload_n dBook_putByRank_12 rfl rfl ?_
      refine s_aload_n dBook_putByRank_13 rfl rfl ?_
      refine s_get dBook_putByRank_14 gf_Book_25 (by repeat (first | exact up_self | assumption | rw [up_ne (by first | assumption | (intro q0; cases q0; done) | (intro q0; simp at q0; omega))])) ?_
      refine s_iload_n dBook_putByRank_17 rfl rfl ?_
      refine s_iconst (v := nI 1) dBook_putByRank_18 (by decide) ?_
      first | refine s_isubN dBook_putByRank_19 (by omega) ?_ | refine s_isub dBook_putByRank_19 ?_
      refine s_v1 dBook_putByRank_20 cv_Book_54 (by repeat (first | exact up_self | assumption | rw [up_ne (by first | assumption | (intro q0; cases q0; done) | (intro q0; simp at q0; omega))])) (cg) rfl rfl rfl rfl ?_
      refine s_cast dBook_putByRank_23 (by decide) (nw_Book_57).2.1 (by repeat (first | exact up_self | assumption | rw [up_ne (by first | assumption | (intro q0; cases q0; done) | (intro q0; simp at q0; omega))])) ?_
      refine s_v1 dBook_putByRank_26 cv_Book_66 (by repeat (first | exact up_self | assumption | rw [up_ne (by first | assumption | (intro q0; cases q0; done) | (intro q0; simp at q0; omega))])) (co) rfl rfl rfl rfl ?_
      refine s_if_eq dBook_putByRank_29 (fun _ => ?_) (fun q => absurd rfl q)
      exact fin0 (p + 1) hp1 (hs.at hl hp1 hp2 (Or.inr ⟨x, by simpa using hx1, by omega⟩))
theorem c_putBy {h : Hp} {σ : Sg} {R K b r : Nat} {l : List Nat} {o0 : PV} (bk : h (18, b, 0) = some (0, 0, fl [o0, vR (19, b, 0), vR (20, b, 0), vR (22, b, 0), vR (24, b, 0)])) (I : rC h σ R) (L : LsT h (24, b, 0) (rL l)) (P : KP σ K) (L1 : RK σ R K) (hs : Sd σ l) (hl : ∀ x ∈ l, x < r) (hr : r < R) (h60 : l.length < 60) :
    Con mBook_putByRank 6 1 73 [vR (18, b, 0), vR (28, r, 0)] h (fun v h' => v = none ∧ LsT h' (24, b, 0) (rL (insR σ r l)) ∧ frL (24, b, 0) h h') := by
  have cs := c_size L
  rw [rL_len] at cs
  obtain ⟨cap, z, f, e2, -⟩ := id L
  refine c_enter (by decide +kernel) rfl rfl ?_
  refine s_aload_n dBook_putByRank_0 rfl rfl ?_
  refine s_get dBook_putByRank_1 gf_Book_25 (by repeat (first | exact up_self | assumption | rw [up_ne (by first | assumption | (intro q0; cases q0; done) | (intro q0; simp at q0; omega))])) ?_
  refine s_v0 dBook_putByRank_4 cv_Book_50 (by repeat (first | exact up_self | assumption | rw [up_ne (by first | assumption | (intro q0; cases q0; done) | (intro q0; simp at q0; omega))])) (cs) rfl rfl rfl rfl ?_
  refine s_istore_n dBook_putByRank_7 rfl rfl ?_
  exact l_putBy bk I L P L1 hs hl hr h60 l.length (Nat.le_refl _) (fun j x hj1 hx1 => by have := (List.getElem?_eq_some_iff.mp hx1).1; omega)
theorem c_isAb {h : Hp} {w : Nat} (hw : w ≤ 5) : ConF mX_isAboutAnother 0 [vI (nI w)] h (some (vI (zi (isAb w)))) h := by
  refine c_enter (by decide +kernel) rfl rfl ?_
  rcases (show w = 0 ∨ w = 1 ∨ w = 2 ∨ w = 3 ∨ w = 4 ∨ w = 5 by omega) with rfl | rfl | rfl | rfl | rfl | rfl
  · refine s_iload_n dX_isAboutAnother_0 rfl rfl ?_
    refine s_iconst (v := nI 2) dX_isAboutAnother_1 (by decide) ?_
    refine s_icmp_eq dX_isAboutAnother_2 (fun q => absurd q (by decide)) (fun _ => ?_)
    refine s_iload_n dX_isAboutAnother_5 rfl rfl ?_
    refine s_iconst (v := nI 3) dX_isAboutAnother_6 (by decide) ?_
    refine s_icmp_eq dX_isAboutAnother_7 (fun q => absurd q (by decide)) (fun _ => ?_)
    refine s_iload_n dX_isAboutAnother_10 rfl rfl ?_
    refine s_iconst (v := nI 4) dX_isAboutAnother_11 (by decide) ?_
    refine s_icmp_ne dX_isAboutAnother_12 (fun _ => ?_) (fun q => absurd q (by decide))
    refine s_iconst (v := 0) dX_isAboutAnother_19 (by decide) ?_
    refine s_zret dX_isAboutAnother_20 rfl (by first | exact Or.inl rfl | exact Or.inr rfl | assumption) (by first | exact Nat.le_refl _ | decide | omega) (by first | exact Nat.le_refl _ | decide | omega) ?_
    exact ⟨rfl, rfl⟩
  · refine s_iload_n dX_isAboutAnother_0 rfl rfl ?_
    refine s_iconst (v := nI 2) dX_isAboutAnother_1 (by decide) ?_
    refine s_icmp_eq dX_isAboutAnother_2 (fun q => absurd q (by decide)) (fun _ => ?_)
    refine s_iload_n dX_isAboutAnother_5 rfl rfl ?_
    refine s_iconst (v := nI 3) dX_isAboutAnother_6 (by decide) ?_
    refine s_icmp_eq dX_isAboutAnother_7 (fun q => absurd q (by decide)) (fun _ => ?_)
    refine s_iload_n dX_isAboutAnother_10 rfl rfl ?_
    refine s_iconst (v := nI 4) dX_isAboutAnother_11 (by decide) ?_
    refine s_icmp_ne dX_isAboutAnother_12 (fun _ => ?_) (fun q => absurd q (by decide))
    refine s_iconst (v := 0) dX_isAboutAnother_19 (by decide) ?_
    refine s_zret dX_isAboutAnother_20 rfl (by first | exact Or.inl rfl | exact Or.inr rfl | assumption) (by first | exact Nat.le_refl _ | decide | omega) (by first | exact Nat.le_refl _ | decide | omega) ?_
    exact ⟨rfl, rfl⟩
  · refine s_iload_n dX_isAboutAnother_0 rfl rfl ?_
    refine s_iconst (v := nI 2) dX_isAboutAnother_1 (by decide) ?_
    refine s_icmp_eq dX_isAboutAnother_2 (fun _ => ?_) (fun q => absurd rfl q)
    refine s_iconst (v := 1) dX_isAboutAnother_15 (by decide) ?_
    refine s_goto dX_isAboutAnother_16 ?_
    refine s_zret dX_isAboutAnother_20 rfl (by first | exact Or.inl rfl | exact Or.inr rfl | assumption) (by first | exact Nat.le_refl _ | decide | omega) (by first | exact Nat.le_refl _ | decide | omega) ?_
    exact ⟨rfl, rfl⟩
  · refine s_iload_n dX_isAboutAnother_0 rfl rfl ?_
    refine s_iconst (v := nI 2) dX_isAboutAnother_1 (by decide) ?_
    refine s_icmp_eq dX_isAboutAnother_2 (fun q => absurd q (by decide)) (fun _ => ?_)
    refine s_iload_n dX_isAboutAnother_5 rfl rfl ?_
    refine s_iconst (v := nI 3) dX_isAboutAnother_6 (by decide) ?_
    refine s_icmp_eq dX_isAboutAnother_7 (fun _ => ?_) (fun q => absurd rfl q)
    refine s_iconst (v := 1) dX_isAboutAnother_15 (by decide) ?_
    refine s_goto dX_isAboutAnother_16 ?_
    refine s_zret dX_isAboutAnother_20 rfl (by first | exact Or.inl rfl | exact Or.inr rfl | assumption) (by first | exact Nat.le_refl _ | decide | omega) (by first | exact Nat.le_refl _ | decide | omega) ?_
    exact ⟨rfl, rfl⟩
  · refine s_iload_n dX_isAboutAnother_0 rfl rfl ?_
    refine s_iconst (v := nI 2) dX_isAboutAnother_1 (by decide) ?_
    refine s_icmp_eq dX_isAboutAnother_2 (fun q => absurd q (by decide)) (fun _ => ?_)
    refine s_iload_n dX_isAboutAnother_5 rfl rfl ?_
    refine s_iconst (v := nI 3) dX_isAboutAnother_6 (by decide) ?_
    refine s_icmp_eq dX_isAboutAnother_7 (fun q => absurd q (by decide)) (fun _ => ?_)
    refine s_iload_n dX_isAboutAnother_10 rfl rfl ?_
    refine s_iconst (v := nI 4) dX_isAboutAnother_11 (by decide) ?_
    refine s_icmp_ne dX_isAboutAnother_12 (fun q => absurd rfl q) (fun _ => ?_)
    refine s_iconst (v := 1) dX_isAboutAnother_15 (by decide) ?_
    refine s_goto dX_isAboutAnother_16 ?_
    refine s_zret dX_isAboutAnother_20 rfl (by first | exact Or.inl rfl | exact Or.inr rfl | assumption) (by first | exact Nat.le_refl _ | decide | omega) (by first | exact Nat.le_refl _ | decide | omega) ?_
    exact ⟨rfl, rfl⟩
  · refine s_iload_n dX_isAboutAnother_0 rfl rfl ?_
    refine s_iconst (v := nI 2) dX_isAboutAnother_1 (by decide) ?_
    refine s_icmp_eq dX_isAboutAnother_2 (fun q => absurd q (by decide)) (fun _ => ?_)
    refine s_iload_n dX_isAboutAnother_5 rfl rfl ?_
    refine s_iconst (v := nI 3) dX_isAboutAnother_6 (by decide) ?_
    refine s_icmp_eq dX_isAboutAnother_7 (fun q => absurd q (by decide)) (fun _ => ?_)
    refine s_iload_n dX_isAboutAnother_10 rfl rfl ?_
    refine s_iconst (v := nI 4) dX_isAboutAnother_11 (by decide) ?_
    refine s_icmp_ne dX_isAboutAnother_12 (fun _ => ?_) (fun q => absurd q (by decide))
    refine s_iconst (v := 0) dX_isAboutAnother_19 (by decide) ?_
    refine s_zret dX_isAboutAnother_20 rfl (by first | exact Or.inl rfl | exact Or.inr rfl | assumption) (by first | exact Nat.le_refl _ | decide | omega) (by first | exact Nat.le_refl _ | decide | omega) ?_
    exact ⟨rfl, rfl⟩
theorem c_carry {h : Hp} {σ : Sg} {R b r w o br : Nat} {l : List Nat} {o0 : PV} {mk : Option Nm} (bk : h (18, b, 0) = some (0, 0, fl [o0, vR (19, b, 0), vR (20, b, 0), vR (22, b, 0), vR (24, b, 0)])) (I : rC h σ R) (hR : R ≤ 60) (L : LsT h (24, b, 0) (rL l)) (hl : ∀ x ∈ l, x < R) (hlen : l.length ≤ 60) (hr : r < R) (hw : w ≤ 5) (ho : isAb w = true → mk = some (28, o, 0) ∧ o ≠ r) (er : h (28, r, 0) = some (5, 0, fl (ruL σ r br (nI w) mk))) :
    Con mBook_carryOutOrder 7 1 73 [vR (18, b, 0), vR (28, r, 0)] h (fun v h' => v = none ∧ LsT h' (24, b, 0) (rL (mvR w o r l)) ∧ frL (24, b, 0) h h') := by
  have cp := c_placeIn (r := r) L (by omega)
  have cpo := c_placeIn (r := o) L (by omega)
  have cab := c_isAb (h := h) hw
  unfold ruL at er
  obtain ⟨cap, z, f, e2, -⟩ := id L
  have E1 : EL (24, b, 0) h (rL l) := I.el (show (24 : Nat) ≠ 28 by decide) (show (24 : Nat) ≠ 27 by decide) hl
  have O1 : OBJ (24, b, 0) h (28, r, 0) := I.ob hr (show (24 : Nat) ≠ 28 by decide) (show (24 : Nat) ≠ 27 by decide)
  by_cases c1 : r ∈ l
  · have hi1 := List.idxOf_lt_length_of_mem c1
    have ep : plX l r = nI (l.idxOf r) := if_pos c1
    rw [ep] at cp
    have K1 : (isAb w = true → o ∈ l) → S mBook_carryOutOrder 7 1 73 (fun v h' => v = none ∧ LsT h' (24, b, 0) (rL (mvR w o r l)) ∧ frL (24, b, 0) h h') 41 [some (vR (18, b, 0)), some (vR (28, r, 0)), some (vI (nI (l.idxOf r)))] [] h 0 0 := by
      intro hol
      refine s_aload_n dBook_carryOutOrder_41 rfl rfl ?_
      refine s_get dBook_carryOutOrder_42 gf_Book_25 (by repeat (first | exact up_self | assumption | rw [up_ne (by first | assumption | (intro q0; cases q0; done) | (intro q0; simp at q0; omega))])) ?_
      refine s_iload_n dBook_carryOutOrder_45 rfl rfl ?_
      refine s_callV (As := [_]) dBook_carryOutOrder_46 cv_Book_43 (by repeat (first | exact up_self | assumption | rw [up_ne (by first | assumption | (intro q0; cases q0; done) | (intro q0; simp at q0; omega))])) (c_remove L (by rw [rL_len]; exact hi1) E1 rfl) (by first | rfl | exact Nat.ble_eq_true_of_le (by omega)) (by first | rfl | exact Nat.ble_eq_true_of_le (by omega)) (by first | rfl | exact Nat.ble_eq_true_of_le (by omega)) rfl (fun v0 h2 q0 => ?_)
      obtain ⟨⟨y, rfl⟩, a1, a2⟩ := q0
      refine s_pop dBook_carryOutOrder_49 rfl ?_
      rw [rL_er] at a1
      have bk2 : h2 (18, b, 0) = _ := (a2.o (by decide) (by decide)).trans bk
      have er2 : h2 (28, r, 0) = _ := (a2.o (by decide) (by decide)).trans er
      have I2 := I.fl a2 (by decide)
      have hlen1 := er_len c1
      have hm : ∀ x ∈ l.eraseIdx (l.idxOf r), x < R := fun x hx1 => hl x (mem_of_erI hx1)
      have E2 : EL (24, b, 0) h2 (rL (l.eraseIdx (l.idxOf r))) := I2.el (show (24 : Nat) ≠ 28 by decide) (show (24 : Nat) ≠ 27 by decide) hm
      have O2 : OBJ (24, b, 0) h2 (28, r, 0) := I2.ob hr (show (24 : Nat) ≠ 28 by decide) (show (24 : Nat) ≠ 27 by decide)
      have hcond : r ∈ l ∧ (isAb w = true → o ∈ l) := ⟨c1, hol⟩
      obtain ⟨cap2, z2, f2, g2, -⟩ := id a1
      unfold mvR
      rw [if_pos hcond]
      have inl : isAb w = true → o ∈ l.eraseIdx (l.idxOf r) := fun z1 => mem_erI (idx_get c1) (hol z1) (ho z1).2
      generalize l.eraseIdx (l.idxOf r) = l1 at a1 E2 hm inl hlen1 ⊢
      have cpo2 : isAb w = true → ConF mBook_placeIn 3 [vR (24, b, 0), vR (28, o, 0)] h2 (some (vI (nI (l1.idxOf o)))) h2 := fun z1 => by
        have := c_placeIn (r := o) a1 (by omega)
        rw [show plX l1 o = nI (l1.idxOf o) from if_pos (inl z1)] at this
        exact this
      rcases (show w = 0 ∨ w = 1 ∨ w = 2 ∨ w = 3 ∨ w = 4 ∨ w = 5 by omega) with rfl | rfl | rfl | rfl | rfl | rfl
      · refine s_aload_n dBook_carryOutOrder_50 rfl rfl ?_
        refine s_get dBook_carryOutOrder_51 gf_Book_73 (by repeat (first | exact up_self | assumption | rw [up_ne (by first | assumption | (intro q0; cases q0; done) | (intro q0; simp at q0; omega))])) ?_
        refine s_tabIn (off := 34) (tgt := 88) dBook_carryOutOrder_54 (by decide +kernel) (by decide +kernel) (by decide +kernel) (by decide) ?_
        refine s_aload_n dBook_carryOutOrder_88 rfl rfl ?_
        refine s_get dBook_carryOutOrder_89 gf_Book_25 (by repeat (first | exact up_self | assumption | rw [up_ne (by first | assumption | (intro q0; cases q0; done) | (intro q0; simp at q0; omega))])) ?_
        refine s_iconst (v := 0) dBook_carryOutOrder_92 (by decide) ?_
        refine s_aload_n dBook_carryOutOrder_93 rfl rfl ?_
        refine s_callV (As := [_, _]) dBook_carryOutOrder_94 cv_Book_70 (by repeat (first | exact up_self | assumption | rw [up_ne (by first | assumption | (intro q0; cases q0; done) | (intro q0; simp at q0; omega))])) (c_addAt (i := 0) a1 (by omega) (by rw [rL_len]; omega) E2 O2 rfl) (by first | rfl | exact Nat.ble_eq_true_of_le (by omega)) (by first | rfl | exact Nat.ble_eq_true_of_le (by omega)) (by first | rfl | exact Nat.ble_eq_true_of_le (by omega)) rfl (fun v0 h3 q0 => ?_)
        obtain ⟨rfl, b1, b2⟩ := q0
        refine s_goto dBook_carryOutOrder_97 ?_
        refine s_vret dBook_carryOutOrder_181 rfl (by first | exact Nat.le_refl _ | decide | omega) (by first | exact Nat.le_refl _ | decide | omega) ?_
        rw [rL_in] at b1
        exact ⟨rfl, b1, a2.tr b2⟩
      · refine s_aload_n dBook_carryOutOrder_50 rfl rfl ?_
        refine s_get dBook_carryOutOrder_51 gf_Book_73 (by repeat (first | exact up_self | assumption | rw [up_ne (by first | assumption | (intro q0; cases q0; done) | (intro q0; simp at q0; omega))])) ?_
        refine s_tabIn (off := 46) (tgt := 100) dBook_carryOutOrder_54 (by decide +kernel) (by decide +kernel) (by decide +kernel) (by decide) ?_
        refine s_aload_n dBook_carryOutOrder_100 rfl rfl ?_
        refine s_get dBook_carryOutOrder_101 gf_Book_25 (by repeat (first | exact up_self | assumption | rw [up_ne (by first | assumption | (intro q0; cases q0; done) | (intro q0; simp at q0; omega))])) ?_
        refine s_aload_n dBook_carryOutOrder_104 rfl rfl ?_
        refine s_callV (As := [_]) dBook_carryOutOrder_105 cv_Book_32 (by repeat (first | exact up_self | assumption | rw [up_ne (by first | assumption | (intro q0; cases q0; done) | (intro q0; simp at q0; omega))])) (c_add a1 (by rw [rL_len]; omega) E2 O2 rfl) (by first | rfl | exact Nat.ble_eq_true_of_le (by omega)) (by first | rfl | exact Nat.ble_eq_true_of_le (by omega)) (by first | rfl | exact Nat.ble_eq_true_of_le (by omega)) rfl (fun v0 h3 q0 => ?_)
        obtain ⟨rfl, b1, b2⟩ := q0
        refine s_pop dBook_carryOutOrder_108 rfl ?_
        refine s_goto dBook_carryOutOrder_109 ?_
        refine s_vret dBook_carryOutOrder_181 rfl (by first | exact Nat.le_refl _ | decide | omega) (by first | exact Nat.le_refl _ | decide | omega) ?_
        rw [rL_ap, ap_in] at b1
        exact ⟨rfl, b1, a2.tr b2⟩
      · obtain ⟨rfl, -⟩ := ho rfl
        have hi2 := List.idxOf_lt_length_of_mem (inl rfl)
        refine s_aload_n dBook_carryOutOrder_50 rfl rfl ?_
        refine s_get dBook_carryOutOrder_51 gf_Book_73 (by repeat (first | exact up_self | assumption | rw [up_ne (by first | assumption | (intro q0; cases q0; done) | (intro q0; simp at q0; omega))])) ?_
        refine s_tabIn (off := 58) (tgt := 112) dBook_carryOutOrder_54 (by decide +kernel) (by decide +kernel) (by decide +kernel) (by decide) ?_
        refine s_aload_n dBook_carryOutOrder_112 rfl rfl ?_
        refine s_get dBook_carryOutOrder_113 gf_Book_25 (by repeat (first | exact up_self | assumption | rw [up_ne (by first | assumption | (intro q0; cases q0; done) | (intro q0; simp at q0; omega))])) ?_
        refine s_aload_n dBook_carryOutOrder_116 rfl rfl ?_
        refine s_get dBook_carryOutOrder_117 gf_Book_25 (by repeat (first | exact up_self | assumption | rw [up_ne (by first | assumption | (intro q0; cases q0; done) | (intro q0; simp at q0; omega))])) ?_
        refine s_aload_n dBook_carryOutOrder_120 rfl rfl ?_
        refine s_get dBook_carryOutOrder_121 gf_Book_80 (by repeat (first | exact up_self | assumption | rw [up_ne (by first | assumption | (intro q0; cases q0; done) | (intro q0; simp at q0; omega))])) ?_
        refine s_t2 dBook_carryOutOrder_124 cs_Book_39 (cpo2 rfl) rfl rfl rfl rfl ?_
        refine s_aload_n dBook_carryOutOrder_127 rfl rfl ?_
        refine s_callV (As := [_, _]) dBook_carryOutOrder_128 cv_Book_70 (by repeat (first | exact up_self | assumption | rw [up_ne (by first | assumption | (intro q0; cases q0; done) | (intro q0; simp at q0; omega))])) (c_addAt (i := l1.idxOf o) a1 (by rw [rL_len]; omega) (by rw [rL_len]; omega) E2 O2 rfl) (by first | rfl | exact Nat.ble_eq_true_of_le (by omega)) (by first | rfl | exact Nat.ble_eq_true_of_le (by omega)) (by first | rfl | exact Nat.ble_eq_true_of_le (by omega)) rfl (fun v0 h3 q0 => ?_)
        obtain ⟨rfl, b1, b2⟩ := q0
        refine s_goto dBook_carryOutOrder_131 ?_
        refine s_vret dBook_carryOutOrder_181 rfl (by first | exact Nat.le_refl _ | decide | omega) (by first | exact Nat.le_refl _ | decide | omega) ?_
        rw [rL_in] at b1
        exact ⟨rfl, b1, a2.tr b2⟩
      · obtain ⟨rfl, -⟩ := ho rfl
        have hi2 := List.idxOf_lt_length_of_mem (inl rfl)
        refine s_aload_n dBook_carryOutOrder_50 rfl rfl ?_
        refine s_get dBook_carryOutOrder_51 gf_Book_73 (by repeat (first | exact up_self | assumption | rw [up_ne (by first | assumption | (intro q0; cases q0; done) | (intro q0; simp at q0; omega))])) ?_
        refine s_tabIn (off := 80) (tgt := 134) dBook_carryOutOrder_54 (by decide +kernel) (by decide +kernel) (by decide +kernel) (by decide) ?_
        refine s_aload_n dBook_carryOutOrder_134 rfl rfl ?_
        refine s_get dBook_carryOutOrder_135 gf_Book_25 (by repeat (first | exact up_self | assumption | rw [up_ne (by first | assumption | (intro q0; cases q0; done) | (intro q0; simp at q0; omega))])) ?_
        refine s_aload_n dBook_carryOutOrder_138 rfl rfl ?_
        refine s_get dBook_carryOutOrder_139 gf_Book_25 (by repeat (first | exact up_self | assumption | rw [up_ne (by first | assumption | (intro q0; cases q0; done) | (intro q0; simp at q0; omega))])) ?_
        refine s_aload_n dBook_carryOutOrder_142 rfl rfl ?_
        refine s_get dBook_carryOutOrder_143 gf_Book_80 (by repeat (first | exact up_self | assumption | rw [up_ne (by first | assumption | (intro q0; cases q0; done) | (intro q0; simp at q0; omega))])) ?_
        refine s_t2 dBook_carryOutOrder_146 cs_Book_39 (cpo2 rfl) rfl rfl rfl rfl ?_
        refine s_iconst (v := nI 1) dBook_carryOutOrder_149 (by decide) ?_
        first | refine s_iaddN dBook_carryOutOrder_150 ?_ | refine s_iadd dBook_carryOutOrder_150 ?_
        refine s_aload_n dBook_carryOutOrder_151 rfl rfl ?_
        refine s_callV (As := [_, _]) dBook_carryOutOrder_152 cv_Book_70 (by repeat (first | exact up_self | assumption | rw [up_ne (by first | assumption | (intro q0; cases q0; done) | (intro q0; simp at q0; omega))])) (c_addAt (i := l1.idxOf o + 1) a1 (by rw [rL_len]; omega) (by rw [rL_len]; omega) E2 O2 rfl) (by first | rfl | exact Nat.ble_eq_true_of_le (by omega)) (by first | rfl | exact Nat.ble_eq_true_of_le (by omega)) (by first | rfl | exact Nat.ble_eq_true_of_le (by omega)) rfl (fun v0 h3 q0 => ?_)
        obtain ⟨rfl, b1, b2⟩ := q0
        refine s_goto dBook_carryOutOrder_155 ?_
        refine s_vret dBook_carryOutOrder_181 rfl (by first | exact Nat.le_refl _ | decide | omega) (by first | exact Nat.le_refl _ | decide | omega) ?_
        rw [rL_in] at b1
        exact ⟨rfl, b1, a2.tr b2⟩
      · obtain ⟨rfl, -⟩ := ho rfl
        have hi2 := List.idxOf_lt_length_of_mem (inl rfl)
        refine s_aload_n dBook_carryOutOrder_50 rfl rfl ?_
        refine s_get dBook_carryOutOrder_51 gf_Book_73 (by repeat (first | exact up_self | assumption | rw [up_ne (by first | assumption | (intro q0; cases q0; done) | (intro q0; simp at q0; omega))])) ?_
        refine s_tabIn (off := 104) (tgt := 158) dBook_carryOutOrder_54 (by decide +kernel) (by decide +kernel) (by decide +kernel) (by decide) ?_
        refine s_aload_n dBook_carryOutOrder_158 rfl rfl ?_
        refine s_get dBook_carryOutOrder_159 gf_Book_25 (by repeat (first | exact up_self | assumption | rw [up_ne (by first | assumption | (intro q0; cases q0; done) | (intro q0; simp at q0; omega))])) ?_
        refine s_aload_n dBook_carryOutOrder_162 rfl rfl ?_
        refine s_get dBook_carryOutOrder_163 gf_Book_25 (by repeat (first | exact up_self | assumption | rw [up_ne (by first | assumption | (intro q0; cases q0; done) | (intro q0; simp at q0; omega))])) ?_
        refine s_aload_n dBook_carryOutOrder_166 rfl rfl ?_
        refine s_get dBook_carryOutOrder_167 gf_Book_80 (by repeat (first | exact up_self | assumption | rw [up_ne (by first | assumption | (intro q0; cases q0; done) | (intro q0; simp at q0; omega))])) ?_
        refine s_t2 dBook_carryOutOrder_170 cs_Book_39 (cpo2 rfl) rfl rfl rfl rfl ?_
        refine s_aload_n dBook_carryOutOrder_173 rfl rfl ?_
        refine s_callV (As := [_, _]) dBook_carryOutOrder_174 cv_Book_84 (by repeat (first | exact up_self | assumption | rw [up_ne (by first | assumption | (intro q0; cases q0; done) | (intro q0; simp at q0; omega))])) (c_setAt (i := l1.idxOf o) a1 (by rw [rL_len]; omega) O2 rfl) (by first | rfl | exact Nat.ble_eq_true_of_le (by omega)) (by first | rfl | exact Nat.ble_eq_true_of_le (by omega)) (by first | rfl | exact Nat.ble_eq_true_of_le (by omega)) rfl (fun v0 h3 q0 => ?_)
        obtain ⟨⟨y2, rfl⟩, b1, b2⟩ := q0
        refine s_pop dBook_carryOutOrder_177 rfl ?_
        refine s_goto dBook_carryOutOrder_178 ?_
        refine s_vret dBook_carryOutOrder_181 rfl (by first | exact Nat.le_refl _ | decide | omega) (by first | exact Nat.le_refl _ | decide | omega) ?_
        rw [rL_st, set_ei hi2] at b1
        exact ⟨rfl, b1, a2.tr b2⟩
      · refine s_aload_n dBook_carryOutOrder_50 rfl rfl ?_
        refine s_get dBook_carryOutOrder_51 gf_Book_73 (by repeat (first | exact up_self | assumption | rw [up_ne (by first | assumption | (intro q0; cases q0; done) | (intro q0; simp at q0; omega))])) ?_
        refine s_tabOut (tgt := 181) dBook_carryOutOrder_54 (by right; decide +kernel) (by decide) ?_
        refine s_vret dBook_carryOutOrder_181 rfl (by first | exact Nat.le_refl _ | decide | omega) (by first | exact Nat.le_refl _ | decide | omega) ?_
        exact ⟨rfl, a1, a2⟩
    refine c_enter (by decide +kernel) rfl rfl ?_
    cases hab : isAb w with
    | false =>
      rw [hab] at cab
      refine s_aload_n dBook_carryOutOrder_0 rfl rfl ?_
      refine s_get dBook_carryOutOrder_1 gf_Book_25 (by repeat (first | exact up_self | assumption | rw [up_ne (by first | assumption | (intro q0; cases q0; done) | (intro q0; simp at q0; omega))])) ?_
      refine s_aload_n dBook_carryOutOrder_4 rfl rfl ?_
      refine s_t2 dBook_carryOutOrder_5 cs_Book_39 (cp) rfl rfl rfl rfl ?_
      refine s_istore_n dBook_carryOutOrder_8 rfl rfl ?_
      refine s_iload_n dBook_carryOutOrder_9 rfl rfl ?_
      refine s_iconst (v := (-1)) dBook_carryOutOrder_10 (by decide) ?_
      refine s_icmp_ne dBook_carryOutOrder_11 (fun _ => ?_) (fun q => absurd q (nI_m1 (by omega)))
      refine s_aload_n dBook_carryOutOrder_15 rfl rfl ?_
      refine s_get dBook_carryOutOrder_16 gf_Book_73 (by repeat (first | exact up_self | assumption | rw [up_ne (by first | assumption | (intro q0; cases q0; done) | (intro q0; simp at q0; omega))])) ?_
      refine s_t1 dBook_carryOutOrder_19 cs_Book_76 (cab) rfl rfl rfl rfl ?_
      refine s_if_eq dBook_carryOutOrder_22 (fun _ => ?_) (fun q => absurd rfl q)
      exact K1 (fun z1 => by rw [hab] at z1; cases z1)
    | true =>
      rw [hab] at cab
      obtain ⟨rfl, -⟩ := ho hab
      by_cases c2 : o ∈ l
      · have hi2 := List.idxOf_lt_length_of_mem c2
        have ep2 : plX l o = nI (l.idxOf o) := if_pos c2
        rw [ep2] at cpo
        refine s_aload_n dBook_carryOutOrder_0 rfl rfl ?_
        refine s_get dBook_carryOutOrder_1 gf_Book_25 (by repeat (first | exact up_self | assumption | rw [up_ne (by first | assumption | (intro q0; cases q0; done) | (intro q0; simp at q0; omega))])) ?_
        refine s_aload_n dBook_carryOutOrder_4 rfl rfl ?_
        refine s_t2 dBook_carryOutOrder_5 cs_Book_39 (cp) rfl rfl rfl rfl ?_
        refine s_istore_n dBook_carryOutOrder_8 rfl rfl ?_
        refine s_iload_n dBook_carryOutOrder_9 rfl rfl ?_
        refine s_iconst (v := (-1)) dBook_carryOutOrder_10 (by decide) ?_
        refine s_icmp_ne dBook_carryOutOrder_11 (fun _ => ?_) (fun q => absurd q (nI_m1 (by omega)))
        refine s_aload_n dBook_carryOutOrder_15 rfl rfl ?_
        refine s_get dBook_carryOutOrder_16 gf_Book_73 (by repeat (first | exact up_self | assumption | rw [up_ne (by first | assumption | (intro q0; cases q0; done) | (intro q0; simp at q0; omega))])) ?_
        refine s_t1 dBook_carryOutOrder_19 cs_Book_76 (cab) rfl rfl rfl rfl ?_
        refine s_if_eq dBook_carryOutOrder_22 (fun q => absurd q (by decide)) (fun _ => ?_)
        refine s_aload_n dBook_carryOutOrder_25 rfl rfl ?_
        refine s_get dBook_carryOutOrder_26 gf_Book_25 (by repeat (first | exact up_self | assumption | rw [up_ne (by first | assumption | (intro q0; cases q0; done) | (intro q0; simp at q0; omega))])) ?_
        refine s_aload_n dBook_carryOutOrder_29 rfl rfl ?_
        refine s_get dBook_carryOutOrder_30 gf_Book_80 (by repeat (first | exact up_self | assumption | rw [up_ne (by first | assumption | (intro q0; cases q0; done) | (intro q0; simp at q0; omega))])) ?_
        refine s_t2 dBook_carryOutOrder_33 cs_Book_39 (cpo) rfl rfl rfl rfl ?_
        refine s_iconst (v := (-1)) dBook_carryOutOrder_36 (by decide) ?_
        refine s_icmp_ne dBook_carryOutOrder_37 (fun _ => ?_) (fun q => absurd q (nI_m1 (by omega)))
        exact K1 (fun _ => c2)
      · have ep2 : plX l o = -1 := if_neg c2
        rw [ep2] at cpo
        refine s_aload_n dBook_carryOutOrder_0 rfl rfl ?_
        refine s_get dBook_carryOutOrder_1 gf_Book_25 (by repeat (first | exact up_self | assumption | rw [up_ne (by first | assumption | (intro q0; cases q0; done) | (intro q0; simp at q0; omega))])) ?_
        refine s_aload_n dBook_carryOutOrder_4 rfl rfl ?_
        refine s_t2 dBook_carryOutOrder_5 cs_Book_39 (cp) rfl rfl rfl rfl ?_
        refine s_istore_n dBook_carryOutOrder_8 rfl rfl ?_
        refine s_iload_n dBook_carryOutOrder_9 rfl rfl ?_
        refine s_iconst (v := (-1)) dBook_carryOutOrder_10 (by decide) ?_
        refine s_icmp_ne dBook_carryOutOrder_11 (fun _ => ?_) (fun q => absurd q (nI_m1 (by omega)))
        refine s_aload_n dBook_carryOutOrder_15 rfl rfl ?_
        refine s_get dBook_carryOutOrder_16 gf_Book_73 (by repeat (first | exact up_self | assumption | rw [up_ne (by first | assumption | (intro q0; cases q0; done) | (intro q0; simp at q0; omega))])) ?_
        refine s_t1 dBook_carryOutOrder_19 cs_Book_76 (cab) rfl rfl rfl rfl ?_
        refine s_if_eq dBook_carryOutOrder_22 (fun q => absurd q (by decide)) (fun _ => ?_)
        refine s_aload_n dBook_carryOutOrder_25 rfl rfl ?_
        refine s_get dBook_carryOutOrder_26 gf_Book_25 (by repeat (first | exact up_self | assumption | rw [up_ne (by first | assumption | (intro q0; cases q0; done) | (intro q0; simp at q0; omega))])) ?_
        refine s_aload_n dBook_carryOutOrder_29 rfl rfl ?_
        refine s_get dBook_carryOutOrder_30 gf_Book_80 (by repeat (first | exact up_self | assumption | rw [up_ne (by first | assumption | (intro q0; cases q0; done) | (intro q0; simp at q0; omega))])) ?_
        refine s_t2 dBook_carryOutOrder_33 cs_Book_39 (cpo) rfl rfl rfl rfl ?_
        refine s_iconst (v := (-1)) dBook_carryOutOrder_36 (by decide) ?_
        refine s_icmp_ne dBook_carryOutOrder_37 (fun q => absurd rfl q) (fun _ => ?_)
        refine s_vret dBook_carryOutOrder_40 rfl (by first | exact Nat.le_refl _ | decide | omega) (by first | exact Nat.le_refl _ | decide | omega) ?_
        unfold mvR
        rw [if_neg (fun z1 => c2 (z1.2 hab))]
        exact ⟨rfl, L, frL.rf⟩
  · have ep : plX l r = -1 := if_neg c1
    rw [ep] at cp
    refine c_enter (by decide +kernel) rfl rfl ?_
    refine s_aload_n dBook_carryOutOrder_0 rfl rfl ?_
    refine s_get dBook_carryOutOrder_1 gf_Book_25 (by repeat (first | exact up_self | assumption | rw [up_ne (by first | assumption | (intro q0; cases q0; done) | (intro q0; simp at q0; omega))])) ?_
    refine s_aload_n dBook_carryOutOrder_4 rfl rfl ?_
    refine s_t2 dBook_carryOutOrder_5 cs_Book_39 (cp) rfl rfl rfl rfl ?_
    refine s_istore_n dBook_carryOutOrder_8 rfl rfl ?_
    refine s_iload_n dBook_carryOutOrder_9 rfl rfl ?_
    refine s_iconst (v := (-1)) dBook_carryOutOrder_10 (by decide) ?_
    refine s_icmp_ne dBook_carryOutOrder_11 (fun q => absurd rfl q) (fun _ => ?_)
    refine s_vret dBook_carryOutOrder_14 rfl (by first | exact Nat.le_refl _ | decide | omega) (by first | exact Nat.le_refl _ | decide | omega) ?_
    unfold mvR
    rw [if_neg (fun z1 => c1 z1.1)]
    exact ⟨rfl, L, frL.rf⟩
theorem own_take {σ : Sg} {b : Nat} : ∀ R i r, (ownL σ b R)[i]? = some r → (ownL σ b R).take i = ownL σ b r ∧ σ 9 r = nI b ∧ r < R := by
  intro R
  induction R with
  | zero => intro i r h1; simp [ownL] at h1
  | succ R ih1 =>
    intro i r h1
    rw [ownL_succ] at h1 ⊢
    by_cases c1 : σ 9 R = nI b
    · rw [if_pos c1] at h1 ⊢
      by_cases c2 : i < (ownL σ b R).length
      · rw [List.getElem?_append_left c2] at h1
        obtain ⟨q1, q2, q3⟩ := ih1 i r h1
        rw [List.take_append_of_le_length (by omega)]
        exact ⟨q1, q2, by omega⟩
      · rw [List.getElem?_append_right (by omega)] at h1
        have c3 : i - (ownL σ b R).length = 0 := by
          have := (List.getElem?_eq_some_iff.mp h1).1
          simp at this
          omega
        rw [c3] at h1
        simp at h1
        subst h1
        have c4 : i = (ownL σ b R).length := by omega
        subst c4
        rw [List.take_left' rfl]
        exact ⟨rfl, c1, by omega⟩
    · rw [if_neg c1] at h1 ⊢
      obtain ⟨q1, q2, q3⟩ := ih1 i r h1
      exact ⟨q1, q2, by omega⟩
theorem l_arr1 {h0 : Hp} {σ : Sg} {R K b : Nat} {O : List Nat} {o0 : PV} {Q : Option PV → Hp → Prop} (bk : h0 (18, b, 0) = some (0, 0, fl [o0, vR (19, b, 0), vR (20, b, 0), vR (22, b, 0), vR (24, b, 0)])) (I : rC h0 σ R) (P : KP σ K) (L1 : RK σ R K) (LO : LsT h0 (20, b, 0) (rL (ownL σ b R)))
    (kk : ∀ h1, LsT h1 (24, b, 0) (rL (srt σ b R)) → frL (24, b, 0) h0 h1 → S mBook_arrangeRow 8 120 8760 Q 41 [some (vR (18, b, 0)), some (vI (nI (ownL σ b R).length))] [] h1 60 4380) :
    ∀ (n i : Nat) (h1 : Hp), i + n = (ownL σ b R).length → LsT h1 (24, b, 0) (rL (((ownL σ b R).take i).foldl (fun l r => insR σ r l) [])) → frL (24, b, 0) h0 h1 →
      S mBook_arrangeRow 8 120 8760 Q 9 [some (vR (18, b, 0)), some (vI (nI i))] [] h1 i (73 * i) := by
  have hR := L1.1
  have hol := ownL_len (σ := σ) (b := b) (R := R)
  intro n
  induction n with
  | zero =>
    intro i h1 hi L hf
    have ei : i = (ownL σ b R).length := by omega
    subst ei
    rw [List.take_length, ← srt_own] at L
    have bk1 : h1 (18, b, 0) = _ := (hf.o (by decide) (by decide)).trans bk
    have LO1 : LsT h1 (20, b, 0) (rL (ownL σ b R)) := LO.at (hf.o (by decide) (by decide)) (fun c => hf.o (by decide) (by decide))
    have cs := c_size LO1
    rw [rL_len] at cs
    obtain ⟨cap, z, f, e2, -⟩ := id LO1
    refine s_iload_n dBook_arrangeRow_9 rfl rfl ?_
    refine s_aload_n dBook_arrangeRow_10 rfl rfl ?_
    refine s_get dBook_arrangeRow_11 gf_Book_18 (by repeat (first | exact up_self | assumption | rw [up_ne (by first | assumption | (intro q0; cases q0; done) | (intro q0; simp at q0; omega))])) ?_
    refine s_callV (As := []) dBook_arrangeRow_14 cv_Book_50 e2 cs rfl (Nat.ble_eq_true_of_le (by omega)) (Nat.ble_eq_true_of_le (by omega)) rfl (fun v0 h2 q0 => ?_)
    obtain ⟨rfl, rfl⟩ := q0
    refine s_icmp_ge dBook_arrangeRow_17 (fun _ => ?_) (fun q => absurd (nI_le (Nat.le_refl _) (by omega)) q)
    exact s_widen (by omega) (by omega) (kk _ L hf)
  | succ n ih1 =>
    intro i h1 hi L hf
    have hil : i < (ownL σ b R).length := by omega
    obtain ⟨r, hr1⟩ : ∃ r, (ownL σ b R)[i]? = some r := ⟨_, List.getElem?_eq_getElem hil⟩
    obtain ⟨t1, t2, t3⟩ := own_take R i r hr1
    have bk1 : h1 (18, b, 0) = _ := (hf.o (by decide) (by decide)).trans bk
    have LO1 : LsT h1 (20, b, 0) (rL (ownL σ b R)) := LO.at (hf.o (by decide) (by decide)) (fun c => hf.o (by decide) (by decide))
    have cs := c_size LO1
    rw [rL_len] at cs
    have cg := c_get LO1 (rL_get hr1)
    obtain ⟨cap, z, f, e2, -⟩ := id LO1
    have I1 := I.fl hf (by decide)
    obtain ⟨⟨br, hwr, mkr, -, -, er, -⟩, -⟩ := I1.2.1 r t3
    have eacc : ((ownL σ b R).take i).foldl (fun l r => insR σ r l) [] = srt σ b r := by rw [t1, ← srt_own]
    rw [eacc] at L
    have hlen := srt_len (σ := σ) (b := b) r
    refine s_iload_n dBook_arrangeRow_9 rfl rfl ?_
    refine s_aload_n dBook_arrangeRow_10 rfl rfl ?_
    refine s_get dBook_arrangeRow_11 gf_Book_18 (by repeat (first | exact up_self | assumption | rw [up_ne (by first | assumption | (intro q0; cases q0; done) | (intro q0; simp at q0; omega))])) ?_
    refine s_callV (As := []) dBook_arrangeRow_14 cv_Book_50 e2 cs rfl (Nat.ble_eq_true_of_le (by omega)) (Nat.ble_eq_true_of_le (by omega)) rfl (fun v0 h2 q0 => ?_)
    obtain ⟨rfl, rfl⟩ := q0
    refine s_icmp_ge dBook_arrangeRow_17 (fun q => absurd q (nI_ge hil (by omega))) (fun _ => ?_)
    refine s_aload_n dBook_arrangeRow_20 rfl rfl ?_
    refine s_aload_n dBook_arrangeRow_21 rfl rfl ?_
    refine s_get dBook_arrangeRow_22 gf_Book_18 (by repeat (first | exact up_self | assumption | rw [up_ne (by first | assumption | (intro q0; cases q0; done) | (intro q0; simp at q0; omega))])) ?_
    refine s_iload_n dBook_arrangeRow_25 rfl rfl ?_
    refine s_callV (As := [_]) dBook_arrangeRow_26 cv_Book_54 e2 cg rfl (Nat.ble_eq_true_of_le (by omega)) (Nat.ble_eq_true_of_le (by omega)) rfl (fun v0 h3 q0 => ?_)
    obtain ⟨rfl, rfl⟩ := q0
    refine s_cast dBook_arrangeRow_29 (by decide) (nw_Book_57).2.1 (by repeat (first | exact up_self | assumption | rw [up_ne (by first | assumption | (intro q0; cases q0; done) | (intro q0; simp at q0; omega))])) ?_
    refine s_callV (As := [_]) dBook_arrangeRow_32 cv_Book_59 (by repeat (first | exact up_self | assumption | rw [up_ne (by first | assumption | (intro q0; cases q0; done) | (intro q0; simp at q0; omega))])) (c_putBy bk1 I1 L P L1 (srt_Sd r) (fun x hx1 => srt_mem hx1) t3 (by omega)) (by first | rfl | exact Nat.ble_eq_true_of_le (by omega)) (by first | rfl | exact Nat.ble_eq_true_of_le (by omega)) (by first | rfl | exact Nat.ble_eq_true_of_le (by omega)) rfl (fun v0 h3 q0 => ?_)
    obtain ⟨rfl, a1, a2⟩ := q0
    first | refine s_iincN dBook_arrangeRow_35 rfl rfl ?_ | refine s_iinc dBook_arrangeRow_35 rfl rfl ?_
    refine s_goto dBook_arrangeRow_38 ?_
    have e3 : ((ownL σ b R).take (i + 1)).foldl (fun l r => insR σ r l) [] = insR σ r (srt σ b r) := by
      rw [List.take_add_one, hr1, List.foldl_append, eacc]
      rfl
    have fin0 := ih1 (i + 1) h3 (by omega) (by rw [e3]; exact a1) (hf.tr a2)
    exact s_widen (by omega) (by omega) fin0
theorem l_arr2 {h0 : Hp} {σ : Sg} {R b : Nat} {O : List Nat} {o0 : PV} {Q : Option PV → Hp → Prop} (bk : h0 (18, b, 0) = some (0, 0, fl [o0, vR (19, b, 0), vR (20, b, 0), vR (22, b, 0), vR (24, b, 0)])) (I : rC h0 σ R) (hR : R ≤ 60) (LO : LsT h0 (22, b, 0) (rL O)) (O1 : OP σ R) (hO : ∀ r ∈ O, r < R ∧ ¬ σ 15 r = -4) (hO60 : O.length ≤ 60)
    (kk : ∀ h1, LsT h1 (24, b, 0) (rL (rowS σ b R O)) → frL (24, b, 0) h0 h1 → Q none h1) :
    ∀ (n i : Nat) (h1 : Hp), i + n = O.length → LsT h1 (24, b, 0) (rL ((O.take i).foldl (fun l r => mvS σ r l) (srt σ b R))) → frL (24, b, 0) h0 h1 →
      S mBook_arrangeRow 8 120 8760 Q 43 [some (vR (18, b, 0)), some (vI (nI i))] [] h1 (60 + i) (4380 + 73 * i) := by
  intro n
  induction n with
  | zero =>
    intro i h1 hi L hf
    have ei : i = O.length := by omega
    subst ei
    rw [List.take_length] at L
    have bk1 : h1 (18, b, 0) = _ := (hf.o (by decide) (by decide)).trans bk
    have LO1 : LsT h1 (22, b, 0) (rL O) := LO.at (hf.o (by decide) (by decide)) (fun c => hf.o (by decide) (by decide))
    have cs := c_size LO1
    rw [rL_len] at cs
    obtain ⟨cap, z, f, e2, -⟩ := id LO1
    refine s_iload_n dBook_arrangeRow_43 rfl rfl ?_
    refine s_aload_n dBook_arrangeRow_44 rfl rfl ?_
    refine s_get dBook_arrangeRow_45 gf_Book_22 (by repeat (first | exact up_self | assumption | rw [up_ne (by first | assumption | (intro q0; cases q0; done) | (intro q0; simp at q0; omega))])) ?_
    refine s_callV (As := []) dBook_arrangeRow_48 cv_Book_50 e2 cs rfl (Nat.ble_eq_true_of_le (by omega)) (Nat.ble_eq_true_of_le (by omega)) rfl (fun v0 h2 q0 => ?_)
    obtain ⟨rfl, rfl⟩ := q0
    refine s_icmp_ge dBook_arrangeRow_51 (fun _ => ?_) (fun q => absurd (nI_le (Nat.le_refl _) (by omega)) q)
    refine s_vret dBook_arrangeRow_75 rfl (by first | exact Nat.le_refl _ | decide | omega) (by first | exact Nat.le_refl _ | decide | omega) ?_
    exact kk _ L hf
  | succ n ih1 =>
    intro i h1 hi L hf
    have hil : i < O.length := by omega
    obtain ⟨r, hr1⟩ : ∃ r, O[i]? = some r := ⟨_, List.getElem?_eq_getElem hil⟩
    obtain ⟨hrR, hr15⟩ := hO r (List.mem_of_getElem? hr1)
    obtain ⟨w, hw, ew, hab⟩ := O1 r hrR hr15
    have bk1 : h1 (18, b, 0) = _ := (hf.o (by decide) (by decide)).trans bk
    have LO1 : LsT h1 (22, b, 0) (rL O) := LO.at (hf.o (by decide) (by decide)) (fun c => hf.o (by decide) (by decide))
    have cs := c_size LO1
    rw [rL_len] at cs
    have cg := c_get LO1 (rL_get hr1)
    obtain ⟨cap, z, f, e2, -⟩ := id LO1
    have I1 := I.fl hf (by decide)
    obtain ⟨⟨br, hwr, mkr, -, -, er, em⟩, -⟩ := id (I1.2.1 r hrR)
    obtain ⟨em1, em2⟩ := em hr15
    rw [em1, ew] at er
    rw [ew, nt_nI (by omega)] at em2
    have gm : ∀ (T l : List Nat), (∀ r ∈ T, r < R) → (∀ x ∈ l, x < R) → l.length ≤ R → (∀ x ∈ T.foldl (fun l r => mvS σ r l) l, x < R) ∧ (T.foldl (fun l r => mvS σ r l) l).length ≤ R := by
      intro T
      induction T with
      | nil => intro l _ q1 q2; exact ⟨q1, q2⟩
      | cons t T iht =>
        intro l q0 q1 q2
        refine iht _ (fun x hx1 => q0 x (List.mem_cons_of_mem _ hx1)) (fun x hx1 => ?_) (Nat.le_trans mv_len q2)
        rcases mv_mem hx1 with c1 | c1
        · rw [c1]; exact q0 t List.mem_cons_self
        · exact q1 x c1
    obtain ⟨g1, g2⟩ := gm (O.take i) (srt σ b R) (fun x hx1 => (hO x (List.mem_of_mem_take hx1)).1) (fun x hx1 => srt_mem hx1) (srt_len R)
    generalize hacc : (O.take i).foldl (fun l r => mvS σ r l) (srt σ b R) = acc at L g1 g2
    have emv : mvS σ r acc = mvR w (nt (σ 16 r)) r acc := by unfold mvS; rw [ew, nt_nI (by omega)]
    refine s_iload_n dBook_arrangeRow_43 rfl rfl ?_
    refine s_aload_n dBook_arrangeRow_44 rfl rfl ?_
    refine s_get dBook_arrangeRow_45 gf_Book_22 (by repeat (first | exact up_self | assumption | rw [up_ne (by first | assumption | (intro q0; cases q0; done) | (intro q0; simp at q0; omega))])) ?_
    refine s_callV (As := []) dBook_arrangeRow_48 cv_Book_50 e2 cs rfl (Nat.ble_eq_true_of_le (by omega)) (Nat.ble_eq_true_of_le (by omega)) rfl (fun v0 h2 q0 => ?_)
    obtain ⟨rfl, rfl⟩ := q0
    refine s_icmp_ge dBook_arrangeRow_51 (fun q => absurd q (nI_ge hil (by omega))) (fun _ => ?_)
    refine s_aload_n dBook_arrangeRow_54 rfl rfl ?_
    refine s_aload_n dBook_arrangeRow_55 rfl rfl ?_
    refine s_get dBook_arrangeRow_56 gf_Book_22 (by repeat (first | exact up_self | assumption | rw [up_ne (by first | assumption | (intro q0; cases q0; done) | (intro q0; simp at q0; omega))])) ?_
    refine s_iload_n dBook_arrangeRow_59 rfl rfl ?_
    refine s_callV (As := [_]) dBook_arrangeRow_60 cv_Book_54 e2 cg rfl (Nat.ble_eq_true_of_le (by omega)) (Nat.ble_eq_true_of_le (by omega)) rfl (fun v0 h3 q0 => ?_)
    obtain ⟨rfl, rfl⟩ := q0
    refine s_cast dBook_arrangeRow_63 (by decide) (nw_Book_57).2.1 (by repeat (first | exact up_self | assumption | rw [up_ne (by first | assumption | (intro q0; cases q0; done) | (intro q0; simp at q0; omega))])) ?_
    refine s_callV (As := [_]) dBook_arrangeRow_66 cv_Book_63 (by repeat (first | exact up_self | assumption | rw [up_ne (by first | assumption | (intro q0; cases q0; done) | (intro q0; simp at q0; omega))])) (c_carry (o := nt (σ 16 r)) bk1 I1 hR L g1 (by omega) hrR hw (fun z1 => ⟨em2 z1, by obtain ⟨o, q1, q2, q3⟩ := hab z1; rw [q3, nt_nI (by omega)]; exact q2⟩) er) (by first | rfl | exact Nat.ble_eq_true_of_le (by omega)) (by first | rfl | exact Nat.ble_eq_true_of_le (by omega)) (by first | rfl | exact Nat.ble_eq_true_of_le (by omega)) rfl (fun v0 h3 q0 => ?_)
    obtain ⟨rfl, a1, a2⟩ := q0
    first | refine s_iincN dBook_arrangeRow_69 rfl rfl ?_ | refine s_iinc dBook_arrangeRow_69 rfl rfl ?_
    refine s_goto dBook_arrangeRow_72 ?_
    have e3 : (O.take (i + 1)).foldl (fun l r => mvS σ r l) (srt σ b R) = mvS σ r acc := by
      rw [List.take_add_one, hr1, List.foldl_append, hacc]
      rfl
    have fin0 := ih1 (i + 1) h3 (by omega) (by rw [e3, emv]; exact a1) (hf.tr a2)
    exact s_widen (by omega) (by omega) fin0
theorem c_arrange {h : Hp} {σ : Sg} {R K b : Nat} {O l : List Nat} {o0 : PV} (bk : h (18, b, 0) = some (0, 0, fl [o0, vR (19, b, 0), vR (20, b, 0), vR (22, b, 0), vR (24, b, 0)])) (I : rC h σ R) (P : KP σ K) (L1 : RK σ R K) (O1 : OP σ R) (La : LsT h (20, b, 0) (rL (ownL σ b R))) (Lb : LsT h (22, b, 0) (rL O)) (Lc : LsT h (24, b, 0) (rL l)) (hO : ∀ r ∈ O, r < R ∧ ¬ σ 15 r = -4) (hO60 : O.length ≤ 60) :
    Con mBook_arrangeRow 8 120 8760 [vR (18, b, 0)] h (fun v h' => v = none ∧ LsT h' (24, b, 0) (rL (rowS σ b R O)) ∧ frL (24, b, 0) h h') := by
  have hR := L1.1
  obtain ⟨cap, z, f, e2, -⟩ := id Lc
  refine c_enter (by decide +kernel) rfl rfl ?_
  refine s_aload_n dBook_arrangeRow_0 rfl rfl ?_
  refine s_get dBook_arrangeRow_1 gf_Book_25 (by repeat (first | exact up_self | assumption | rw [up_ne (by first | assumption | (intro q0; cases q0; done) | (intro q0; simp at q0; omega))])) ?_
  refine s_callV (As := []) dBook_arrangeRow_4 cv_Book_47 (by repeat (first | exact up_self | assumption | rw [up_ne (by first | assumption | (intro q0; cases q0; done) | (intro q0; simp at q0; omega))])) (c_clear Lc rfl) (by first | rfl | exact Nat.ble_eq_true_of_le (by omega)) (by first | rfl | exact Nat.ble_eq_true_of_le (by omega)) (by first | rfl | exact Nat.ble_eq_true_of_le (by omega)) rfl (fun v0 h2 q0 => ?_)
  obtain ⟨rfl, a1, a2⟩ := q0
  refine s_iconst (v := 0) dBook_arrangeRow_7 (by decide) ?_
  refine s_istore_n dBook_arrangeRow_8 rfl rfl ?_
  have bk2 : h2 (18, b, 0) = _ := (a2.o (by decide) (by decide)).trans bk
  have I2 := I.fl a2 (by decide)
  have La2 : LsT h2 (20, b, 0) (rL (ownL σ b R)) := La.at (a2.o (by decide) (by decide)) (fun c => a2.o (by decide) (by decide))
  refine l_arr1 (O := O) bk2 I2 P L1 La2 (fun h3 L3 f3 => ?_) (ownL σ b R).length 0 h2 (by omega) a1 frL.rf
  have bk3 : h3 (18, b, 0) = _ := (f3.o (by decide) (by decide)).trans bk2
  have I3 := I2.fl f3 (by decide)
  have Lb3 : LsT h3 (22, b, 0) (rL O) := (Lb.at (a2.o (by decide) (by decide)) (fun c => a2.o (by decide) (by decide))).at (f3.o (by decide) (by decide)) (fun c => f3.o (by decide) (by decide))
  refine s_iconst (v := 0) dBook_arrangeRow_41 (by decide) ?_
  refine s_istore_n dBook_arrangeRow_42 rfl rfl ?_
  exact l_arr2 bk3 I3 hR Lb3 O1 hO hO60 (fun h4 L4 f4 => ⟨rfl, L4, (a2.tr f3).tr f4⟩) O.length 0 h3 (by omega) L3 frL.rf
theorem c_takeRule {h : Hp} {σ : Sg} {R K b r : Nat} {O l lo : List Nat} {o0 : PV} (bk : h (18, b, 0) = some (0, 0, fl [o0, vR (19, b, 0), vR (20, b, 0), vR (22, b, 0), vR (24, b, 0)])) (I : rC h σ R) (P : KP σ K) (L1 : RK σ R K) (O1 : OP σ R) (La : LsT h (20, b, 0) (rL lo)) (hlo : ∀ x ∈ lo, x < R) (hr : r < R) (elo : lo ++ [r] = ownL σ b R) (Lb : LsT h (22, b, 0) (rL O)) (Lc : LsT h (24, b, 0) (rL l)) (hO : ∀ r ∈ O, r < R ∧ ¬ σ 15 r = -4) (hO60 : O.length ≤ 60) :
    Con mBook_takeRule 9 121 8833 [vR (18, b, 0), vR (28, r, 0)] h (fun v h' => v = none ∧ LsT h' (20, b, 0) (rL (ownL σ b R)) ∧ LsT h' (24, b, 0) (rL (rowS σ b R O)) ∧ ∀ i j k, (i ≠ 20 ∧ i ≠ 21 ∧ i ≠ 24 ∧ i ≠ 25) ∨ j ≠ b → h' (i, j, k) = h (i, j, k)) := by
  have hR := L1.1
  have hll : lo.length < 73 := by
    have := ownL_len (σ := σ) (b := b) (R := R)
    rw [← elo] at this
    simp at this
    omega
  obtain ⟨cap, z, f, e2, -⟩ := id La
  have E1 : EL (20, b, 0) h (rL lo) := I.el (show (20 : Nat) ≠ 28 by decide) (show (20 : Nat) ≠ 27 by decide) hlo
  have O2 : OBJ (20, b, 0) h (28, r, 0) := I.ob hr (show (20 : Nat) ≠ 28 by decide) (show (20 : Nat) ≠ 27 by decide)
  refine c_enter (by decide +kernel) rfl rfl ?_
  refine s_aload_n dBook_takeRule_0 rfl rfl ?_
  refine s_get dBook_takeRule_1 gf_Book_18 (by repeat (first | exact up_self | assumption | rw [up_ne (by first | assumption | (intro q0; cases q0; done) | (intro q0; simp at q0; omega))])) ?_
  refine s_aload_n dBook_takeRule_4 rfl rfl ?_
  refine s_callV (As := [_]) dBook_takeRule_5 cv_Book_32 (by repeat (first | exact up_self | assumption | rw [up_ne (by first | assumption | (intro q0; cases q0; done) | (intro q0; simp at q0; omega))])) (c_add La (by rw [rL_len]; exact hll) E1 O2 rfl) (by first | rfl | exact Nat.ble_eq_true_of_le (by omega)) (by first | rfl | exact Nat.ble_eq_true_of_le (by omega)) (by first | rfl | exact Nat.ble_eq_true_of_le (by omega)) rfl (fun v0 h2 q0 => ?_)
  obtain ⟨rfl, a1, a2⟩ := q0
  refine s_pop dBook_takeRule_8 rfl ?_
  refine s_aload_n dBook_takeRule_9 rfl rfl ?_
  rw [rL_ap, elo] at a1
  have bk2 : h2 (18, b, 0) = _ := (a2.o (by decide) (by decide)).trans bk
  refine s_callV (As := []) dBook_takeRule_10 cv_Book_36 (by repeat (first | exact up_self | assumption | rw [up_ne (by first | assumption | (intro q0; cases q0; done) | (intro q0; simp at q0; omega))])) (c_arrange (O := O) bk2 (I.fl a2 (by decide)) P L1 O1 a1 (Lb.at (a2.o (by decide) (by decide)) (fun c => a2.o (by decide) (by decide))) (Lc.at (a2.o (by decide) (by decide)) (fun c => a2.o (by decide) (by decide))) hO hO60) (by first | rfl | exact Nat.ble_eq_true_of_le (by omega)) (by first | rfl | exact Nat.ble_eq_true_of_le (by omega)) (by first | rfl | exact Nat.ble_eq_true_of_le (by omega)) rfl (fun v0 h3 q0 => ?_)
  obtain ⟨rfl, b1, b2⟩ := q0
  refine s_vret dBook_takeRule_13 rfl (by first | exact Nat.le_refl _ | decide | omega) (by first | exact Nat.le_refl _ | decide | omega) ?_
  refine ⟨rfl, a1.at (b2.o (by decide) (by decide)) (fun c => b2.o (by decide) (by decide)), b1, fun i j k q1 => ?_⟩
  rw [b2 _ (fun z1 => by simp at z1; omega) (fun c z1 => by simp [eld] at z1; omega), a2 _ (fun z1 => by simp at z1; omega) (fun c z1 => by simp [eld] at z1; omega)]
theorem c_takeOrder {h : Hp} {σ : Sg} {R K b r : Nat} {O l : List Nat} {o0 : PV} (bk : h (18, b, 0) = some (0, 0, fl [o0, vR (19, b, 0), vR (20, b, 0), vR (22, b, 0), vR (24, b, 0)])) (I : rC h σ R) (P : KP σ K) (L1 : RK σ R K) (O1 : OP σ R) (La : LsT h (20, b, 0) (rL (ownL σ b R))) (Lb : LsT h (22, b, 0) (rL O)) (Lc : LsT h (24, b, 0) (rL l)) (hO : ∀ x ∈ O, x < R ∧ ¬ σ 15 x = -4) (hr : r < R ∧ ¬ σ 15 r = -4) (hn : O.Nodup) :
    Con mBook_takeOrder 9 121 8833 [vR (18, b, 0), vR (28, r, 0)] h (fun v h' => v = none ∧ LsT h' (22, b, 0) (rL (O.erase r ++ [r])) ∧ LsT h' (24, b, 0) (rL (rowS σ b R (O.erase r ++ [r]))) ∧ ∀ i j k, (i ≠ 22 ∧ i ≠ 23 ∧ i ≠ 24 ∧ i ≠ 25) ∨ j ≠ b → h' (i, j, k) = h (i, j, k)) := by
  have hR := L1.1
  have hO60 : O.length ≤ R := nd_len R O hn (fun x hx1 => (hO x hx1).1)
  have cp := c_placeIn (r := r) Lb (by omega)
  obtain ⟨cap, z, f, e2, -⟩ := id Lb
  have K1 : ∀ (h2 : Hp) (o2 : Option PV), LsT h2 (22, b, 0) (rL (O.erase r)) → frL (22, b, 0) h h2 → S mBook_takeOrder 9 121 8833 (fun v h' => v = none ∧ LsT h' (22, b, 0) (rL (O.erase r ++ [r])) ∧ LsT h' (24, b, 0) (rL (rowS σ b R (O.erase r ++ [r]))) ∧ ∀ i j k, (i ≠ 22 ∧ i ≠ 23 ∧ i ≠ 24 ∧ i ≠ 25) ∨ j ≠ b → h' (i, j, k) = h (i, j, k)) 23 [some (vR (18, b, 0)), some (vR (28, r, 0)), o2] [] h2 0 0 := by
    intro h2 o2 L2 f2
    have hel : (O.erase r).length ≤ O.length := List.length_erase_le
    have bk2 : h2 (18, b, 0) = _ := (f2.o (by decide) (by decide)).trans bk
    have I2 := I.fl f2 (by decide)
    have hm : ∀ x ∈ O.erase r, x < R := fun x hx1 => (hO x (List.mem_of_mem_erase hx1)).1
    have E2 : EL (22, b, 0) h2 (rL (O.erase r)) := I2.el (show (22 : Nat) ≠ 28 by decide) (show (22 : Nat) ≠ 27 by decide) hm
    have O2 : OBJ (22, b, 0) h2 (28, r, 0) := I2.ob hr.1 (show (22 : Nat) ≠ 28 by decide) (show (22 : Nat) ≠ 27 by decide)
    obtain ⟨cap2, z2, f22, g2, -⟩ := id L2
    refine s_aload_n dBook_takeOrder_23 rfl rfl ?_
    refine s_get dBook_takeOrder_24 gf_Book_22 (by repeat (first | exact up_self | assumption | rw [up_ne (by first | assumption | (intro q0; cases q0; done) | (intro q0; simp at q0; omega))])) ?_
    refine s_aload_n dBook_takeOrder_27 rfl rfl ?_
    refine s_callV (As := [_]) dBook_takeOrder_28 cv_Book_32 (by repeat (first | exact up_self | assumption | rw [up_ne (by first | assumption | (intro q0; cases q0; done) | (intro q0; simp at q0; omega))])) (c_add L2 (by rw [rL_len]; omega) E2 O2 rfl) (by first | rfl | exact Nat.ble_eq_true_of_le (by omega)) (by first | rfl | exact Nat.ble_eq_true_of_le (by omega)) (by first | rfl | exact Nat.ble_eq_true_of_le (by omega)) rfl (fun v0 h3 q0 => ?_)
    obtain ⟨rfl, a1, a2⟩ := q0
    refine s_pop dBook_takeOrder_31 rfl ?_
    refine s_aload_n dBook_takeOrder_32 rfl rfl ?_
    rw [rL_ap] at a1
    have bk3 : h3 (18, b, 0) = _ := (a2.o (by decide) (by decide)).trans bk2
    have nd2 : (O.erase r ++ [r]).Nodup := by
      refine List.nodup_append.mpr ⟨hn.erase r, by simp, fun x hx1 y hy1 z1 => ?_⟩
      rw [List.mem_singleton.mp hy1] at z1
      rw [z1] at hx1
      exact absurd rfl ((hn.mem_erase_iff).mp hx1).1
    have hm2 : ∀ x ∈ O.erase r ++ [r], x < R ∧ ¬ σ 15 x = -4 := fun x hx1 => by
      rcases List.mem_append.mp hx1 with c1 | c1
      · exact hO x (List.mem_of_mem_erase c1)
      · rw [List.mem_singleton.mp c1]; exact hr
    have hl2 := nd_len R _ nd2 (fun x hx1 => (hm2 x hx1).1)
    have f23 := f2.tr a2
    refine s_callV (As := []) dBook_takeOrder_33 cv_Book_36 (by repeat (first | exact up_self | assumption | rw [up_ne (by first | assumption | (intro q0; cases q0; done) | (intro q0; simp at q0; omega))])) (c_arrange (O := O.erase r ++ [r]) bk3 (I2.fl a2 (by decide)) P L1 O1 (La.at (f23.o (by decide) (by decide)) (fun c => f23.o (by decide) (by decide))) a1 (Lc.at (f23.o (by decide) (by decide)) (fun c => f23.o (by decide) (by decide))) hm2 (by omega)) (by first | rfl | exact Nat.ble_eq_true_of_le (by omega)) (by first | rfl | exact Nat.ble_eq_true_of_le (by omega)) (by first | rfl | exact Nat.ble_eq_true_of_le (by omega)) rfl (fun v0 h4 q0 => ?_)
    obtain ⟨rfl, b1, b2⟩ := q0
    refine s_vret dBook_takeOrder_36 rfl (by first | exact Nat.le_refl _ | decide | omega) (by first | exact Nat.le_refl _ | decide | omega) ?_
    refine ⟨rfl, a1.at (b2.o (by decide) (by decide)) (fun c => b2.o (by decide) (by decide)), b1, fun i j k q1 => ?_⟩
    rw [b2 _ (fun z1 => by simp at z1; omega) (fun c z1 => by simp [eld] at z1; omega), f23 _ (fun z1 => by simp at z1; omega) (fun c z1 => by simp [eld] at z1; omega)]
  refine c_enter (by decide +kernel) rfl rfl ?_
  by_cases c1 : r ∈ O
  · have hi1 := List.idxOf_lt_length_of_mem c1
    have ep : plX O r = nI (O.idxOf r) := if_pos c1
    rw [ep] at cp
    have E1 : EL (22, b, 0) h (rL O) := I.el (show (22 : Nat) ≠ 28 by decide) (show (22 : Nat) ≠ 27 by decide) (fun x hx1 => (hO x hx1).1)
    refine s_aload_n dBook_takeOrder_0 rfl rfl ?_
    refine s_get dBook_takeOrder_1 gf_Book_22 (by repeat (first | exact up_self | assumption | rw [up_ne (by first | assumption | (intro q0; cases q0; done) | (intro q0; simp at q0; omega))])) ?_
    refine s_aload_n dBook_takeOrder_4 rfl rfl ?_
    refine s_t2 dBook_takeOrder_5 cs_Book_39 (cp) rfl rfl rfl rfl ?_
    refine s_istore_n dBook_takeOrder_8 rfl rfl ?_
    refine s_iload_n dBook_takeOrder_9 rfl rfl ?_
    refine s_iconst (v := (-1)) dBook_takeOrder_10 (by decide) ?_
    refine s_icmp_eq dBook_takeOrder_11 (fun q => absurd q (nI_m1 (by omega))) (fun _ => ?_)
    refine s_aload_n dBook_takeOrder_14 rfl rfl ?_
    refine s_get dBook_takeOrder_15 gf_Book_22 (by repeat (first | exact up_self | assumption | rw [up_ne (by first | assumption | (intro q0; cases q0; done) | (intro q0; simp at q0; omega))])) ?_
    refine s_iload_n dBook_takeOrder_18 rfl rfl ?_
    refine s_callV (As := [_]) dBook_takeOrder_19 cv_Book_43 (by repeat (first | exact up_self | assumption | rw [up_ne (by first | assumption | (intro q0; cases q0; done) | (intro q0; simp at q0; omega))])) (c_remove Lb (by rw [rL_len]; exact hi1) E1 rfl) (by first | rfl | exact Nat.ble_eq_true_of_le (by omega)) (by first | rfl | exact Nat.ble_eq_true_of_le (by omega)) (by first | rfl | exact Nat.ble_eq_true_of_le (by omega)) rfl (fun v0 h2 q0 => ?_)
    obtain ⟨⟨y, rfl⟩, a1, a2⟩ := q0
    refine s_pop dBook_takeOrder_22 rfl ?_
    rw [rL_er, ← List.erase_eq_eraseIdx_of_idxOf] at a1
    · exact K1 h2 _ a1 a2
    · rfl
  · have ep : plX O r = -1 := if_neg c1
    rw [ep] at cp
    refine s_aload_n dBook_takeOrder_0 rfl rfl ?_
    refine s_get dBook_takeOrder_1 gf_Book_22 (by repeat (first | exact up_self | assumption | rw [up_ne (by first | assumption | (intro q0; cases q0; done) | (intro q0; simp at q0; omega))])) ?_
    refine s_aload_n dBook_takeOrder_4 rfl rfl ?_
    refine s_t2 dBook_takeOrder_5 cs_Book_39 (cp) rfl rfl rfl rfl ?_
    refine s_istore_n dBook_takeOrder_8 rfl rfl ?_
    refine s_iload_n dBook_takeOrder_9 rfl rfl ?_
    refine s_iconst (v := (-1)) dBook_takeOrder_10 (by decide) ?_
    refine s_icmp_eq dBook_takeOrder_11 (fun _ => ?_) (fun q => absurd rfl q)
    refine K1 h _ ?_ frL.rf
    rw [List.erase_of_not_mem c1]
    exact Lb
