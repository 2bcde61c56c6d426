/-! book, variable, and how rows are arranged -/
theorem c_X_book {h : Hp} {σ : Sg} {B : Nat} {own od rw0 : Nat → List Nat} {a v o tb : Int32} (p : Int32) (M1 : mnC h a v o tb) (I : bC h σ B own od rw0) (hB : B ≤ 12) (hB2 : σ 5 0 = nI B) (hz : ∀ i, 4 * B ≤ i → σ 7 i = 0) (hn : own B = [] ∧ od B = [] ∧ rw0 B = []) :
    Con mX_book 7 6 91 [vR (10, 0, 0), vI p] h (fun v h' => v = some (vI (fBook σ p B).1) ∧ fT [16, 17, 18, 19, 20, 22, 24] h h' ∧ ∃ B', B ≤ B' ∧ B' ≤ 12 ∧ bC h' (fBook σ p B).2 B' own od rw0 ∧ (fBook σ p B).2 5 0 = nI B') := by
  unfold mnC at M1
  obtain ⟨cap, z, f, e2, -⟩ := id I.1
  have cs := c_size I.1
  rw [nmL_len] at cs
  unfold fBook
  refine c_enter (by decide +kernel) rfl rfl ?_
  rcases iy_cases p (K := 100) (by omega) with ⟨q1, hz1⟩ | ⟨j, hj, rfl, q1⟩
  · rw [q1]
    rcases hz1 with ⟨z1, -⟩ | ⟨-, hn1⟩
    · cases z1
    · by_cases c1 : p < 0
      · refine s_iload_n dX_book_0 rfl rfl ?_
        refine s_if_lt dX_book_1 (fun _ => ?_) (fun q => absurd c1 q)
        refine s_iconst (v := (-1)) dX_book_10 (by decide) ?_
        refine s_iret dX_book_11 rfl (by first | exact Nat.le_refl _ | decide | omega) (by first | exact Nat.le_refl _ | decide | omega) ?_
        exact ⟨rfl, fT.rf, B, Nat.le_refl _, hB, I, hB2⟩
      · have c2 : nI 99 < p := by
          have c3 : nI 100 ≤ p := Int32.not_lt.mp fun z1 => hn1 ⟨Int32.not_lt.mp c1, z1⟩
          rw [Int32.le_iff_toInt_le] at c3
          rw [Int32.lt_iff_toInt_lt]
          rw [nI_toInt (by omega)] at c3 ⊢
          omega
        refine s_iload_n dX_book_0 rfl rfl ?_
        refine s_if_lt dX_book_1 (fun q => absurd q c1) (fun _ => ?_)
        refine s_iload_n dX_book_4 rfl rfl ?_
        refine s_bipush (v := nI 99) dX_book_5 (by decide) ?_
        refine s_icmp_le dX_book_7 (fun q => absurd q (Int32.not_le.mpr c2)) (fun _ => ?_)
        refine s_iconst (v := (-1)) dX_book_10 (by decide) ?_
        refine s_iret dX_book_11 rfl (by first | exact Nat.le_refl _ | decide | omega) (by first | exact Nat.le_refl _ | decide | omega) ?_
        exact ⟨rfl, fT.rf, B, Nat.le_refl _, hB, I, hB2⟩
  · rw [q1]
    by_cases c1 : B = 12
    · refine s_iload_n dX_book_0 rfl rfl ?_
      refine s_if_lt dX_book_1 (fun q => absurd q (nI_nlt (b := 0) (by omega) (by omega))) (fun _ => ?_)
      refine s_iload_n dX_book_4 rfl rfl ?_
      refine s_bipush (v := nI 99) dX_book_5 (by decide) ?_
      refine s_icmp_le dX_book_7 (fun _ => ?_) (fun q => absurd (nI_le (by omega) (by omega)) q)
      refine s_aload_n dX_book_12 rfl rfl ?_
      refine s_get dX_book_13 gf_X_23 (by repeat (first | exact up_self | assumption | rw [up_ne (by first | assumption | (intro q0; cases q0; done) | (intro q0; simp at q0; omega))])) ?_
      refine s_v0 dX_book_16 cv_X_91 (by repeat (first | exact up_self | assumption | rw [up_ne (by first | assumption | (intro q0; cases q0; done) | (intro q0; simp at q0; omega))])) (cs) rfl rfl rfl rfl ?_
      refine s_bipush (v := nI 12) dX_book_19 (by decide) ?_
      refine s_icmp_lt dX_book_21 (fun q => absurd q (nI_nlt (by omega) (by omega))) (fun _ => ?_)
      refine s_bipush (v := (-3)) dX_book_24 (by decide) ?_
      refine s_iret dX_book_26 rfl (by first | exact Nat.le_refl _ | decide | omega) (by first | exact Nat.le_refl _ | decide | omega) ?_
      dsimp only
      rw [if_pos c1]
      exact ⟨rfl, fT.rf, B, Nat.le_refl _, hB, I, hB2⟩
    · have nn := I.2.2 B (Nat.le_refl _)
      have n1 := nn 18 (by omega) (by omega) 0
      have nb : ∀ t, 19 ≤ t → t ≤ 25 → ∀ c, up h (18, B, 0) (0, 0, fl [vI 0, vN, vN, vN, vN]) (t, B, c) = none := fun t q2 q3 c => by rw [up_ne (fun q0 => by simp at q0; omega)]; exact nn t (by omega) q3 c
      refine s_iload_n dX_book_0 rfl rfl ?_
      refine s_if_lt dX_book_1 (fun q => absurd q (nI_nlt (b := 0) (by omega) (by omega))) (fun _ => ?_)
      refine s_iload_n dX_book_4 rfl rfl ?_
      refine s_bipush (v := nI 99) dX_book_5 (by decide) ?_
      refine s_icmp_le dX_book_7 (fun _ => ?_) (fun q => absurd (nI_le (by omega) (by omega)) q)
      refine s_aload_n dX_book_12 rfl rfl ?_
      refine s_get dX_book_13 gf_X_23 (by repeat (first | exact up_self | assumption | rw [up_ne (by first | assumption | (intro q0; cases q0; done) | (intro q0; simp at q0; omega))])) ?_
      refine s_v0 dX_book_16 cv_X_91 (by repeat (first | exact up_self | assumption | rw [up_ne (by first | assumption | (intro q0; cases q0; done) | (intro q0; simp at q0; omega))])) (cs) rfl rfl rfl rfl ?_
      refine s_bipush (v := nI 12) dX_book_19 (by decide) ?_
      refine s_icmp_lt dX_book_21 (fun _ => ?_) (fun q => absurd (nI_lt (show B < 12 by omega) (by omega)) q)
      refine s_aload_n dX_book_27 rfl rfl ?_
      refine s_get dX_book_28 gf_X_23 (by repeat (first | exact up_self | assumption | rw [up_ne (by first | assumption | (intro q0; cases q0; done) | (intro q0; simp at q0; omega))])) ?_
      refine s_newF ((18, B, 0)) ([vI 0, vN, vN, vN, vN]) dX_book_31 nw_X_113 rfl (by first | rfl | assumption) n1 rfl rfl ?_
      refine s_dup dX_book_34 rfl ?_
      refine s_iload_n dX_book_35 rfl rfl ?_
      refine s_callI (As := [_]) dX_book_36 ci_X_115 (c_Book_init (k := nI j) up_self (nb 19 (by omega) (by omega) 0) (nb 20 (by omega) (by omega) 0) (nb 22 (by omega) (by omega) 0) (nb 24 (by omega) (by omega) 0)) (by first | rfl | exact Nat.ble_eq_true_of_le (by omega)) (by first | rfl | exact Nat.ble_eq_true_of_le (by omega)) (by first | rfl | exact Nat.ble_eq_true_of_le (by omega)) rfl (fun v0 h3 q0 => ?_)
      obtain ⟨rfl, g1, g2, g3, g4, g5, g6⟩ := q0
      have fr1 : fT [18, 19, 20, 22, 24] h h3 := fun n q2 => by
        rw [g6 n (fun z1 => q2 (by rw [z1]; simp)) (fun z1 => q2 (by rw [z1]; simp)) (fun z1 => q2 (by rw [z1]; simp)) (fun z1 => q2 (by rw [z1]; simp)) (fun z1 => q2 (by rw [z1]; simp)), up_ne (fun z1 => q2 (by rw [z1]; simp))]
      have oth : ∀ t b c, b ≠ B → h3 (t, b, c) = h (t, b, c) := fun t b c q2 => by
        rw [g6 _ (fun q0 => by simp at q0; omega) (fun q0 => by simp at q0; omega) (fun q0 => by simp at q0; omega) (fun q0 => by simp at q0; omega) (fun q0 => by simp at q0; omega), up_ne (fun q0 => by simp at q0; omega)]
      have L1 : LsT h3 (16, 0, 0) (nmL 18 B) := I.1.ag (fr1.ag (by decide))
      have EL1 : EL (16, 0, 0) h3 (nmL 18 B) := fun x hx1 => by
        obtain ⟨s, q2, rfl⟩ := nmL_mem hx1
        exact ⟨show (18 : Nat) ≠ 16 by decide, show (18 : Nat) ≠ 17 by decide, 0, _, by unfold isE; omega, (oth 18 s 0 (by omega)).trans (I.2.1 s q2).1⟩
      have OB1 : OBJ (16, 0, 0) h3 (18, B, 0) := ⟨show (18 : Nat) ≠ 16 by decide, show (18 : Nat) ≠ 17 by decide, 0, _, by unfold isE; omega, g1⟩
      have MA : h3 (10, 0, 0) = some (11, 0, fl (mnL a v o tb)) := (fr1 _ (by decide)).trans M1
      obtain ⟨cap3, z3, f3, e3, -⟩ := id L1
      refine s_callV (As := [_]) dX_book_39 cv_X_100 (by repeat (first | exact up_self | assumption | rw [up_ne (by first | assumption | (intro q0; cases q0; done) | (intro q0; simp at q0; omega))])) (c_add L1 (by rw [nmL_len]; omega) EL1 OB1 rfl) (by first | rfl | exact Nat.ble_eq_true_of_le (by omega)) (by first | rfl | exact Nat.ble_eq_true_of_le (by omega)) (by first | rfl | exact Nat.ble_eq_true_of_le (by omega)) rfl (fun v0 h4 q0 => ?_)
      obtain ⟨rfl, b1, b2⟩ := q0
      refine s_pop dX_book_42 rfl ?_
      rw [nmL_add] at b1
      have fr2 : fT [16, 17, 18, 19, 20, 22, 24] h h4 := (fr1.mo (by decide)).tr (b2.t.mo (by decide))
      have MB : h4 (10, 0, 0) = some (11, 0, fl (mnL a v o tb)) := (fr2 _ (by decide)).trans M1
      obtain ⟨cap4, z4, f4, e4, -⟩ := id b1
      have cs4 := c_size b1
      rw [nmL_len] at cs4
      have k4 : ∀ t i c, 18 ≤ t → h4 (t, i, c) = h3 (t, i, c) := fun t i c q2 => b2 _ (fun q0 => by simp at q0; omega) (fun c q0 => by simp [eld] at q0; omega)
      refine s_aload_n dX_book_43 rfl rfl ?_
      refine s_get dX_book_44 gf_X_23 (by repeat (first | exact up_self | assumption | rw [up_ne (by first | assumption | (intro q0; cases q0; done) | (intro q0; simp at q0; omega))])) ?_
      refine s_v0 dX_book_47 cv_X_91 (by repeat (first | exact up_self | assumption | rw [up_ne (by first | assumption | (intro q0; cases q0; done) | (intro q0; simp at q0; omega))])) (cs4) rfl rfl rfl rfl ?_
      refine s_iconst (v := nI 1) dX_book_50 (by decide) ?_
      first | refine s_isubN dX_book_51 (by omega) ?_ | refine s_isub dX_book_51 ?_
      refine s_iret dX_book_52 rfl (by first | exact Nat.le_refl _ | decide | omega) (by first | exact Nat.le_refl _ | decide | omega) ?_
      dsimp only
      rw [if_neg c1]
      dsimp only
      have s7 : ∀ i, us (us σ 6 B (nI j)) 5 0 (nI (B + 1)) 7 i = σ 7 i := fun i => by rw [us_k (by decide), us_k (by decide)]
      refine ⟨rfl, fr2, B + 1, by omega, by omega, ⟨b1, fun b q2 => ?_, fun b q2 t q3 q4 c => ?_⟩, us_s⟩
      · by_cases c2 : b = B
        · subst c2
          have n2 : ∀ t, (t = 20 ∨ t = 22 ∨ t = 24) → ∀ c, h4 (eld (t, b, 0) c) = none := fun t q3 c => by
            show h4 (t + 1, b, c) = none
            rw [k4 _ _ _ (by omega), g6 _ (fun q0 => by simp at q0; omega) (fun q0 => by simp at q0; omega) (fun q0 => by simp at q0; omega) (fun q0 => by simp at q0; omega) (fun q0 => by simp at q0; omega)]
            exact nb (t + 1) (by omega) (by omega) c
          refine ⟨?_, ⟨fun _ => vI 0, ?_, fun x q3 => ?_⟩, ?_, ?_, ?_⟩
          · rw [k4 18 b 0 (by omega), g1, us_k (by decide), us_s]
          · rw [k4 19 b 0 (by omega), g2]
          · rw [s7, hz _ (by omega)]
          · rw [hn.1]; exact LsT.nil (by rw [k4 20 b 0 (by omega)]; exact g3) (n2 20 (by omega))
          · rw [hn.2.1]; exact LsT.nil (by rw [k4 22 b 0 (by omega)]; exact g4) (n2 22 (by omega))
          · rw [hn.2.2]; exact LsT.nil (by rw [k4 24 b 0 (by omega)]; exact g5) (n2 24 (by omega))
        · exact (I.2.1 b (by omega)).fr (fun t c q3 q4 => by rw [k4 t b c q3, oth t b c c2]) (by rw [us_k (by decide), us_j c2]) s7
      · rw [k4 t b c q3, oth t b c (by omega)]
        exact I.2.2 b (by omega) t q3 q4 c
theorem c_X_variable {h : Hp} {σ : Sg} {B : Nat} {own od rw0 : Nat → List Nat} {a v o tb : Int32} (p x w : Int32) (M1 : mnC h a v o tb) (I : bC h σ B own od rw0) (hB : B ≤ 12) : Con mX_variable 4 0 0 [vR (10, 0, 0), vI p, vI x, vI w] h (fun v h' => v = some (vI (fVariable σ p x w B).1) ∧ fT [19] h h' ∧ bC h' (fVariable σ p x w B).2 B own od rw0) := by
  have M0 := M1
  unfold mnC at M1
  unfold fVariable
  refine c_enter (by decide +kernel) rfl rfl ?_
  rcases iy_cases p (K := B) (by omega) with ⟨q1, hz1⟩ | ⟨j, hj, rfl, q1⟩
  · rw [q1]
    refine s_aload_n dX_variable_0 rfl rfl ?_
    refine s_iload_n dX_variable_1 rfl rfl ?_
    refine s_v1 dX_variable_2 cv_X_116 (by repeat (first | exact up_self | assumption | rw [up_ne (by first | assumption | (intro q0; cases q0; done) | (intro q0; simp at q0; omega))])) (c_bookNo M0 I hB hz1) rfl rfl rfl rfl ?_
    refine s_astore dX_variable_5 rfl ?_
    refine s_aload dX_variable_7 rfl ?_
    refine s_ifnull dX_variable_9 (fun _ => ?_) (fun q => by obtain ⟨_, q⟩ := q; cases q)
    refine s_iconst (v := (-1)) dX_variable_19 (by decide) ?_
    refine s_iret dX_variable_20 rfl (by first | exact Nat.le_refl _ | decide | omega) (by first | exact Nat.le_refl _ | decide | omega) ?_
    exact ⟨rfl, fT.rf, I⟩
  · rw [q1]
    obtain ⟨d1, ⟨fx, d2, d3⟩, d4, d5, d6⟩ := I.2.1 j hj
    rcases iy_cases x (K := 4) (by omega) with ⟨q2, hz1⟩ | ⟨i, hi, rfl, q2⟩
    · rw [q2]
      refine s_aload_n dX_variable_0 rfl rfl ?_
      refine s_iload_n dX_variable_1 rfl rfl ?_
      refine s_v1 dX_variable_2 cv_X_116 (by repeat (first | exact up_self | assumption | rw [up_ne (by first | assumption | (intro q0; cases q0; done) | (intro q0; simp at q0; omega))])) (c_bookAt M0 I hB hj) rfl rfl rfl rfl ?_
      refine s_astore dX_variable_5 rfl ?_
      refine s_aload dX_variable_7 rfl ?_
      refine s_ifnull dX_variable_9 (fun q => by cases q) (fun _ => ?_)
      refine s_iload_n dX_variable_12 rfl rfl ?_
      refine s_t1 dX_variable_13 cs_X_107 (c_isSlot hz1) rfl rfl rfl rfl ?_
      refine s_if_ne dX_variable_16 (fun q => absurd rfl q) (fun _ => ?_)
      refine s_iconst (v := (-1)) dX_variable_19 (by decide) ?_
      refine s_iret dX_variable_20 rfl (by first | exact Nat.le_refl _ | decide | omega) (by first | exact Nat.le_refl _ | decide | omega) ?_
      exact ⟨rfl, fT.rf, I⟩
    · rw [q2]
      refine s_aload_n dX_variable_0 rfl rfl ?_
      refine s_iload_n dX_variable_1 rfl rfl ?_
      refine s_v1 dX_variable_2 cv_X_116 (by repeat (first | exact up_self | assumption | rw [up_ne (by first | assumption | (intro q0; cases q0; done) | (intro q0; simp at q0; omega))])) (c_bookAt M0 I hB hj) rfl rfl rfl rfl ?_
      refine s_astore dX_variable_5 rfl ?_
      refine s_aload dX_variable_7 rfl ?_
      refine s_ifnull dX_variable_9 (fun q => by cases q) (fun _ => ?_)
      refine s_iload_n dX_variable_12 rfl rfl ?_
      refine s_t1 dX_variable_13 cs_X_107 (c_isSlot (Iy1 hi)) rfl rfl rfl rfl ?_
      refine s_if_ne dX_variable_16 (fun _ => ?_) (fun q => absurd q (by decide))
      refine s_aload dX_variable_21 rfl ?_
      refine s_get dX_variable_23 gf_X_120 (by repeat (first | exact up_self | assumption | rw [up_ne (by first | assumption | (intro q0; cases q0; done) | (intro q0; simp at q0; omega))])) ?_
      refine s_iload_n dX_variable_26 rfl rfl ?_
      refine s_iload_n dX_variable_27 rfl rfl ?_
      refine s_iastN dX_variable_28 (by repeat (first | exact up_self | assumption | rw [up_ne (by first | assumption | (intro q0; cases q0; done) | (intro q0; simp at q0; omega))])) (by first | rfl | assumption) (by omega) (by omega) ?_
      refine s_iconst (v := 0) dX_variable_29 (by decide) ?_
      refine s_iret dX_variable_30 rfl (by first | exact Nat.le_refl _ | decide | omega) (by first | exact Nat.le_refl _ | decide | omega) ?_
      have fr1 : fT [19] h (up h (19, j, 0) (20, 4, upf fx i (vI w))) := fT.rf.v
      dsimp only
      have s6 : ∀ k, us σ 7 (4 * j + i) w 6 k = σ 6 k := fun k => us_k (by decide)
      refine ⟨rfl, fr1, I.1.ag (fr1.ag (by decide)), fun b q3 => ?_, fun b q3 t q4 q5 c => ?_⟩
      · by_cases c1 : b = j
        · subst c1
          refine ⟨?_, ⟨upf fx i (vI w), up_self, fun y q4 => ?_⟩, d4.ag (fr1.ag (by simp)), d5.ag (fr1.ag (by simp)), d6.ag (fr1.ag (by simp))⟩
          · rw [s6]; exact (fr1 _ (show (18 : Nat) ∉ [19] by decide)).trans d1
          · unfold upf
            by_cases c2 : y = i
            · subst c2; rw [if_pos rfl, us_s]
            · rw [if_neg c2, us_j (by omega)]; exact d3 y q4
        · obtain ⟨g1, ⟨gx, g2, g3⟩, g4, g5, g6⟩ := I.2.1 b q3
          refine ⟨?_, ⟨gx, by rw [up_ne (fun q0 => by simp at q0; omega)]; exact g2, fun y q4 => ?_⟩, g4.ag (fr1.ag (by simp)), g5.ag (fr1.ag (by simp)), g6.ag (fr1.ag (by simp))⟩
          · rw [s6]; exact (fr1 _ (show (18 : Nat) ∉ [19] by decide)).trans g1
          · rw [us_j (by omega)]; exact g3 y q4
      · rw [up_ne (fun q0 => by simp at q0; omega)]
        exact I.2.2 b q3 t q4 q5 c
theorem c_outranks {h : Hp} {σ : Sg} {R K r x : Nat} (I : rC h σ R) (P : KP σ K) (L : RK σ R K) (hr : r < R) (hx : x < R) : ConF mRule_outranks 1 [vR (28, r, 0), vR (28, x, 0)] h (some (vI (zi (decide (ky σ x < ky σ r))))) h := by
  have hR := L.1
  have p2 := P.2.1
  obtain ⟨⟨s1, hs1, es1⟩, ⟨p1, hp1, ep1⟩, m1, hm1, em1, hc1⟩ := L.2 r hr
  obtain ⟨⟨s2, hs2, es2⟩, ⟨p3, hp3, ep3⟩, m2, hm2, em2, hc2⟩ := L.2 x hx
  obtain ⟨⟨b1, hw1, mk1, -, -, e1, -⟩, l1, -⟩ := I.2.1 r hr
  obtain ⟨⟨b2, hw2, mk2, -, -, e2, -⟩, l2, -⟩ := I.2.1 x hx
  have d1 := dps_le P hr hc1 m1 (Nat.le_refl _)
  have d2 := dps_le P hx hc2 m2 (Nat.le_refl _)
  have k1 : ky σ r = (((2 - s1) * 10 + p1) * 5 + m1) * 100 + dps σ r m1 := by unfold ky; rw [es1, ep1, em1, nt_nI (by omega), nt_nI (by omega), nt_nI (by omega)]
  have k2 : ky σ x = (((2 - s2) * 10 + p3) * 5 + m2) * 100 + dps σ x m2 := by unfold ky; rw [es2, ep3, em2, nt_nI (by omega), nt_nI (by omega), nt_nI (by omega)]
  unfold ruL at e1 e2
  rw [es1, ep1, em1, nt_nI (by omega)] at e1
  rw [es2, ep3, em2, nt_nI (by omega)] at e2
  rw [em1, nt_nI (by omega)] at l1
  rw [em2, nt_nI (by omega)] at l2
  have cs1 := c_size l1
  have cs2 := c_size l2
  rw [show (cnL r m1).length = m1 by simp [cnL]] at cs1
  rw [show (cnL x m2).length = m2 by simp [cnL]] at cs2
  obtain ⟨cap1, z1, f1, w1, -⟩ := id l1
  obtain ⟨cap2, z2, f2, w2, -⟩ := id l2
  refine c_enter (by decide +kernel) rfl rfl ?_
  by_cases a1 : s1 = s2
  · by_cases a2 : p1 = p3
    · by_cases a3 : m1 = m2
      · by_cases a4 : dps σ x m2 < dps σ r m1
        · refine s_aload_n dRule_outranks_0 rfl rfl ?_
          refine s_get dRule_outranks_1 gf_Rule_29 (by repeat (first | exact up_self | assumption | rw [up_ne (by first | assumption | (intro q0; cases q0; done) | (intro q0; simp at q0; omega))])) ?_
          refine s_aload_n dRule_outranks_4 rfl rfl ?_
          refine s_get dRule_outranks_5 gf_Rule_29 (by repeat (first | exact up_self | assumption | rw [up_ne (by first | assumption | (intro q0; cases q0; done) | (intro q0; simp at q0; omega))])) ?_
          refine s_icmp_eq dRule_outranks_8 (fun _ => ?_) (fun q => absurd (by rw [a1]) q)
          refine s_aload_n dRule_outranks_28 rfl rfl ?_
          refine s_get dRule_outranks_29 gf_Rule_32 (by repeat (first | exact up_self | assumption | rw [up_ne (by first | assumption | (intro q0; cases q0; done) | (intro q0; simp at q0; omega))])) ?_
          refine s_aload_n dRule_outranks_32 rfl rfl ?_
          refine s_get dRule_outranks_33 gf_Rule_32 (by repeat (first | exact up_self | assumption | rw [up_ne (by first | assumption | (intro q0; cases q0; done) | (intro q0; simp at q0; omega))])) ?_
          refine s_icmp_eq dRule_outranks_36 (fun _ => ?_) (fun q => absurd (by rw [a2]) q)
          refine s_aload_n dRule_outranks_56 rfl rfl ?_
          refine s_get dRule_outranks_57 gf_Rule_12 (by repeat (first | exact up_self | assumption | rw [up_ne (by first | assumption | (intro q0; cases q0; done) | (intro q0; simp at q0; omega))])) ?_
          refine s_v0 dRule_outranks_60 cv_Rule_35 (by repeat (first | exact up_self | assumption | rw [up_ne (by first | assumption | (intro q0; cases q0; done) | (intro q0; simp at q0; omega))])) (cs1) rfl rfl rfl rfl ?_
          refine s_aload_n dRule_outranks_63 rfl rfl ?_
          refine s_get dRule_outranks_64 gf_Rule_12 (by repeat (first | exact up_self | assumption | rw [up_ne (by first | assumption | (intro q0; cases q0; done) | (intro q0; simp at q0; omega))])) ?_
          refine s_v0 dRule_outranks_67 cv_Rule_35 (by repeat (first | exact up_self | assumption | rw [up_ne (by first | assumption | (intro q0; cases q0; done) | (intro q0; simp at q0; omega))])) (cs2) rfl rfl rfl rfl ?_
          refine s_icmp_eq dRule_outranks_70 (fun _ => ?_) (fun q => absurd (by rw [a3]) q)
          refine s_aload_n dRule_outranks_96 rfl rfl ?_
          refine s_get dRule_outranks_97 gf_Rule_39 (by repeat (first | exact up_self | assumption | rw [up_ne (by first | assumption | (intro q0; cases q0; done) | (intro q0; simp at q0; omega))])) ?_
          refine s_aload_n dRule_outranks_100 rfl rfl ?_
          refine s_get dRule_outranks_101 gf_Rule_39 (by repeat (first | exact up_self | assumption | rw [up_ne (by first | assumption | (intro q0; cases q0; done) | (intro q0; simp at q0; omega))])) ?_
          refine s_icmp_le dRule_outranks_104 (fun q => absurd q (nI_ge a4 (by omega))) (fun _ => ?_)
          refine s_iconst (v := 1) dRule_outranks_107 (by decide) ?_
          refine s_goto dRule_outranks_108 ?_
          refine s_zret dRule_outranks_112 rfl (by first | exact Or.inl rfl | exact Or.inr rfl | assumption) (by first | exact Nat.le_refl _ | decide | omega) (by first | exact Nat.le_refl _ | decide | omega) ?_
          exact ⟨by rw [zi_dec.1 (by rw [k1, k2]; subst a1 a2 a3; omega)], rfl⟩
        · refine s_aload_n dRule_outranks_0 rfl rfl ?_
          refine s_get dRule_outranks_1 gf_Rule_29 (by repeat (first | exact up_self | assumption | rw [up_ne (by first | assumption | (intro q0; cases q0; done) | (intro q0; simp at q0; omega))])) ?_
          refine s_aload_n dRule_outranks_4 rfl rfl ?_
          refine s_get dRule_outranks_5 gf_Rule_29 (by repeat (first | exact up_self | assumption | rw [up_ne (by first | assumption | (intro q0; cases q0; done) | (intro q0; simp at q0; omega))])) ?_
          refine s_icmp_eq dRule_outranks_8 (fun _ => ?_) (fun q => absurd (by rw [a1]) q)
          refine s_aload_n dRule_outranks_28 rfl rfl ?_
          refine s_get dRule_outranks_29 gf_Rule_32 (by repeat (first | exact up_self | assumption | rw [up_ne (by first | assumption | (intro q0; cases q0; done) | (intro q0; simp at q0; omega))])) ?_
          refine s_aload_n dRule_outranks_32 rfl rfl ?_
          refine s_get dRule_outranks_33 gf_Rule_32 (by repeat (first | exact up_self | assumption | rw [up_ne (by first | assumption | (intro q0; cases q0; done) | (intro q0; simp at q0; omega))])) ?_
          refine s_icmp_eq dRule_outranks_36 (fun _ => ?_) (fun q => absurd (by rw [a2]) q)
          refine s_aload_n dRule_outranks_56 rfl rfl ?_
          refine s_get dRule_outranks_57 gf_Rule_12 (by repeat (first | exact up_self | assumption | rw [up_ne (by first | assumption | (intro q0; cases q0; done) | (intro q0; simp at q0; omega))])) ?_
          refine s_v0 dRule_outranks_60 cv_Rule_35 (by repeat (first | exact up_self | assumption | rw [up_ne (by first | assumption | (intro q0; cases q0; done) | (intro q0; simp at q0; omega))])) (cs1) rfl rfl rfl rfl ?_
          refine s_aload_n dRule_outranks_63 rfl rfl ?_
          refine s_get dRule_outranks_64 gf_Rule_12 (by repeat (first | exact up_self | assumption | rw [up_ne (by first | assumption | (intro q0; cases q0; done) | (intro q0; simp at q0; omega))])) ?_
          refine s_v0 dRule_outranks_67 cv_Rule_35 (by repeat (first | exact up_self | assumption | rw [up_ne (by first | assumption | (intro q0; cases q0; done) | (intro q0; simp at q0; omega))])) (cs2) rfl rfl rfl rfl ?_
          refine s_icmp_eq dRule_outranks_70 (fun _ => ?_) (fun q => absurd (by rw [a3]) q)
          refine s_aload_n dRule_outranks_96 rfl rfl ?_
          refine s_get dRule_outranks_97 gf_Rule_39 (by repeat (first | exact up_self | assumption | rw [up_ne (by first | assumption | (intro q0; cases q0; done) | (intro q0; simp at q0; omega))])) ?_
          refine s_aload_n dRule_outranks_100 rfl rfl ?_
          refine s_get dRule_outranks_101 gf_Rule_39 (by repeat (first | exact up_self | assumption | rw [up_ne (by first | assumption | (intro q0; cases q0; done) | (intro q0; simp at q0; omega))])) ?_
          refine s_icmp_le dRule_outranks_104 (fun _ => ?_) (fun q => absurd (nI_le (by omega) (by omega)) q)
          refine s_iconst (v := 0) dRule_outranks_111 (by decide) ?_
          refine s_zret dRule_outranks_112 rfl (by first | exact Or.inl rfl | exact Or.inr rfl | assumption) (by first | exact Nat.le_refl _ | decide | omega) (by first | exact Nat.le_refl _ | decide | omega) ?_
          exact ⟨by rw [zi_dec.2 (by rw [k1, k2]; subst a1 a2 a3; omega)], rfl⟩
      · by_cases a4 : m2 < m1
        · refine s_aload_n dRule_outranks_0 rfl rfl ?_
          refine s_get dRule_outranks_1 gf_Rule_29 (by repeat (first | exact up_self | assumption | rw [up_ne (by first | assumption | (intro q0; cases q0; done) | (intro q0; simp at q0; omega))])) ?_
          refine s_aload_n dRule_outranks_4 rfl rfl ?_
          refine s_get dRule_outranks_5 gf_Rule_29 (by repeat (first | exact up_self | assumption | rw [up_ne (by first | assumption | (intro q0; cases q0; done) | (intro q0; simp at q0; omega))])) ?_
          refine s_icmp_eq dRule_outranks_8 (fun _ => ?_) (fun q => absurd (by rw [a1]) q)
          refine s_aload_n dRule_outranks_28 rfl rfl ?_
          refine s_get dRule_outranks_29 gf_Rule_32 (by repeat (first | exact up_self | assumption | rw [up_ne (by first | assumption | (intro q0; cases q0; done) | (intro q0; simp at q0; omega))])) ?_
          refine s_aload_n dRule_outranks_32 rfl rfl ?_
          refine s_get dRule_outranks_33 gf_Rule_32 (by repeat (first | exact up_self | assumption | rw [up_ne (by first | assumption | (intro q0; cases q0; done) | (intro q0; simp at q0; omega))])) ?_
          refine s_icmp_eq dRule_outranks_36 (fun _ => ?_) (fun q => absurd (by rw [a2]) q)
          refine s_aload_n dRule_outranks_56 rfl rfl ?_
          refine s_get dRule_outranks_57 gf_Rule_12 (by repeat (first | exact up_self | assumption | rw [up_ne (by first | assumption | (intro q0; cases q0; done) | (intro q0; simp at q0; omega))])) ?_
          refine s_v0 dRule_outranks_60 cv_Rule_35 (by repeat (first | exact up_self | assumption | rw [up_ne (by first | assumption | (intro q0; cases q0; done) | (intro q0; simp at q0; omega))])) (cs1) rfl rfl rfl rfl ?_
          refine s_aload_n dRule_outranks_63 rfl rfl ?_
          refine s_get dRule_outranks_64 gf_Rule_12 (by repeat (first | exact up_self | assumption | rw [up_ne (by first | assumption | (intro q0; cases q0; done) | (intro q0; simp at q0; omega))])) ?_
          refine s_v0 dRule_outranks_67 cv_Rule_35 (by repeat (first | exact up_self | assumption | rw [up_ne (by first | assumption | (intro q0; cases q0; done) | (intro q0; simp at q0; omega))])) (cs2) rfl rfl rfl rfl ?_
          refine s_icmp_eq dRule_outranks_70 (fun q => absurd q (nI_ne a3 (by omega) (by omega))) (fun _ => ?_)
          refine s_aload_n dRule_outranks_73 rfl rfl ?_
          refine s_get dRule_outranks_74 gf_Rule_12 (by repeat (first | exact up_self | assumption | rw [up_ne (by first | assumption | (intro q0; cases q0; done) | (intro q0; simp at q0; omega))])) ?_
          refine s_v0 dRule_outranks_77 cv_Rule_35 (by repeat (first | exact up_self | assumption | rw [up_ne (by first | assumption | (intro q0; cases q0; done) | (intro q0; simp at q0; omega))])) (cs1) rfl rfl rfl rfl ?_
          refine s_aload_n dRule_outranks_80 rfl rfl ?_
          refine s_get dRule_outranks_81 gf_Rule_12 (by repeat (first | exact up_self | assumption | rw [up_ne (by first | assumption | (intro q0; cases q0; done) | (intro q0; simp at q0; omega))])) ?_
          refine s_v0 dRule_outranks_84 cv_Rule_35 (by repeat (first | exact up_self | assumption | rw [up_ne (by first | assumption | (intro q0; cases q0; done) | (intro q0; simp at q0; omega))])) (cs2) rfl rfl rfl rfl ?_
          refine s_icmp_le dRule_outranks_87 (fun q => absurd q (nI_ge a4 (by omega))) (fun _ => ?_)
          refine s_iconst (v := 1) dRule_outranks_90 (by decide) ?_
          refine s_goto dRule_outranks_91 ?_
          refine s_zret dRule_outranks_95 rfl (by first | exact Or.inl rfl | exact Or.inr rfl | assumption) (by first | exact Nat.le_refl _ | decide | omega) (by first | exact Nat.le_refl _ | decide | omega) ?_
          exact ⟨by rw [zi_dec.1 (by rw [k1, k2]; subst a1 a2; omega)], rfl⟩
        · refine s_aload_n dRule_outranks_0 rfl rfl ?_
          refine s_get dRule_outranks_1 gf_Rule_29 (by repeat (first | exact up_self | assumption | rw [up_ne (by first | assumption | (intro q0; cases q0; done) | (intro q0; simp at q0; omega))])) ?_
          refine s_aload_n dRule_outranks_4 rfl rfl ?_
          refine s_get dRule_outranks_5 gf_Rule_29 (by repeat (first | exact up_self | assumption | rw [up_ne (by first | assumption | (intro q0; cases q0; done) | (intro q0; simp at q0; omega))])) ?_
          refine s_icmp_eq dRule_outranks_8 (fun _ => ?_) (fun q => absurd (by rw [a1]) q)
          refine s_aload_n dRule_outranks_28 rfl rfl ?_
          refine s_get dRule_outranks_29 gf_Rule_32 (by repeat (first | exact up_self | assumption | rw [up_ne (by first | assumption | (intro q0; cases q0; done) | (intro q0; simp at q0; omega))])) ?_
          refine s_aload_n dRule_outranks_32 rfl rfl ?_
          refine s_get dRule_outranks_33 gf_Rule_32 (by repeat (first | exact up_self | assumption | rw [up_ne (by first | assumption | (intro q0; cases q0; done) | (intro q0; simp at q0; omega))])) ?_
          refine s_icmp_eq dRule_outranks_36 (fun _ => ?_) (fun q => absurd (by rw [a2]) q)
          refine s_aload_n dRule_outranks_56 rfl rfl ?_
          refine s_get dRule_outranks_57 gf_Rule_12 (by repeat (first | exact up_self | assumption | rw [up_ne (by first | assumption | (intro q0; cases q0; done) | (intro q0; simp at q0; omega))])) ?_
          refine s_v0 dRule_outranks_60 cv_Rule_35 (by repeat (first | exact up_self | assumption | rw [up_ne (by first | assumption | (intro q0; cases q0; done) | (intro q0; simp at q0; omega))])) (cs1) rfl rfl rfl rfl ?_
          refine s_aload_n dRule_outranks_63 rfl rfl ?_
          refine s_get dRule_outranks_64 gf_Rule_12 (by repeat (first | exact up_self | assumption | rw [up_ne (by first | assumption | (intro q0; cases q0; done) | (intro q0; simp at q0; omega))])) ?_
          refine s_v0 dRule_outranks_67 cv_Rule_35 (by repeat (first | exact up_self | assumption | rw [up_ne (by first | assumption | (intro q0; cases q0; done) | (intro q0; simp at q0; omega))])) (cs2) rfl rfl rfl rfl ?_
          refine s_icmp_eq dRule_outranks_70 (fun q => absurd q (nI_ne a3 (by omega) (by omega))) (fun _ => ?_)
          refine s_aload_n dRule_outranks_73 rfl rfl ?_
          refine s_get dRule_outranks_74 gf_Rule_12 (by repeat (first | exact up_self | assumption | rw [up_ne (by first | assumption | (intro q0; cases q0; done) | (intro q0; simp at q0; omega))])) ?_
          refine s_v0 dRule_outranks_77 cv_Rule_35 (by repeat (first | exact up_self | assumption | rw [up_ne (by first | assumption | (intro q0; cases q0; done) | (intro q0; simp at q0; omega))])) (cs1) rfl rfl rfl rfl ?_
          refine s_aload_n dRule_outranks_80 rfl rfl ?_
          refine s_get dRule_outranks_81 gf_Rule_12 (by repeat (first | exact up_self | assumption | rw [up_ne (by first | assumption | (intro q0; cases q0; done) | (intro q0; simp at q0; omega))])) ?_
          refine s_v0 dRule_outranks_84 cv_Rule_35 (by repeat (first | exact up_self | assumption | rw [up_ne (by first | assumption | (intro q0; cases q0; done) | (intro q0; simp at q0; omega))])) (cs2) rfl rfl rfl rfl ?_
          refine s_icmp_le dRule_outranks_87 (fun _ => ?_) (fun q => absurd (nI_le (by omega) (by omega)) q)
          refine s_iconst (v := 0) dRule_outranks_94 (by decide) ?_
          refine s_zret dRule_outranks_95 rfl (by first | exact Or.inl rfl | exact Or.inr rfl | assumption) (by first | exact Nat.le_refl _ | decide | omega) (by first | exact Nat.le_refl _ | decide | omega) ?_
          exact ⟨by rw [zi_dec.2 (by rw [k1, k2]; subst a1 a2; omega)], rfl⟩
    · by_cases a4 : p3 < p1
      · refine s_aload_n dRule_outranks_0 rfl rfl ?_
        refine s_get dRule_outranks_1 gf_Rule_29 (by repeat (first | exact up_self | assumption | rw [up_ne (by first | assumption | (intro q0; cases q0; done) | (intro q0; simp at q0; omega))])) ?_
        refine s_aload_n dRule_outranks_4 rfl rfl ?_
        refine s_get dRule_outranks_5 gf_Rule_29 (by repeat (first | exact up_self | assumption | rw [up_ne (by first | assumption | (intro q0; cases q0; done) | (intro q0; simp at q0; omega))])) ?_
        refine s_icmp_eq dRule_outranks_8 (fun _ => ?_) (fun q => absurd (by rw [a1]) q)
        refine s_aload_n dRule_outranks_28 rfl rfl ?_
        refine s_get dRule_outranks_29 gf_Rule_32 (by repeat (first | exact up_self | assumption | rw [up_ne (by first | assumption | (intro q0; cases q0; done) | (intro q0; simp at q0; omega))])) ?_
        refine s_aload_n dRule_outranks_32 rfl rfl ?_
        refine s_get dRule_outranks_33 gf_Rule_32 (by repeat (first | exact up_self | assumption | rw [up_ne (by first | assumption | (intro q0; cases q0; done) | (intro q0; simp at q0; omega))])) ?_
        refine s_icmp_eq dRule_outranks_36 (fun q => absurd q (nI_ne a2 (by omega) (by omega))) (fun _ => ?_)
        refine s_aload_n dRule_outranks_39 rfl rfl ?_
        refine s_get dRule_outranks_40 gf_Rule_32 (by repeat (first | exact up_self | assumption | rw [up_ne (by first | assumption | (intro q0; cases q0; done) | (intro q0; simp at q0; omega))])) ?_
        refine s_aload_n dRule_outranks_43 rfl rfl ?_
        refine s_get dRule_outranks_44 gf_Rule_32 (by repeat (first | exact up_self | assumption | rw [up_ne (by first | assumption | (intro q0; cases q0; done) | (intro q0; simp at q0; omega))])) ?_
        refine s_icmp_le dRule_outranks_47 (fun q => absurd q (nI_ge a4 (by omega))) (fun _ => ?_)
        refine s_iconst (v := 1) dRule_outranks_50 (by decide) ?_
        refine s_goto dRule_outranks_51 ?_
        refine s_zret dRule_outranks_55 rfl (by first | exact Or.inl rfl | exact Or.inr rfl | assumption) (by first | exact Nat.le_refl _ | decide | omega) (by first | exact Nat.le_refl _ | decide | omega) ?_
        exact ⟨by rw [zi_dec.1 (by rw [k1, k2]; subst a1; omega)], rfl⟩
      · refine s_aload_n dRule_outranks_0 rfl rfl ?_
        refine s_get dRule_outranks_1 gf_Rule_29 (by repeat (first | exact up_self | assumption | rw [up_ne (by first | assumption | (intro q0; cases q0; done) | (intro q0; simp at q0; omega))])) ?_
        refine s_aload_n dRule_outranks_4 rfl rfl ?_
        refine s_get dRule_outranks_5 gf_Rule_29 (by repeat (first | exact up_self | assumption | rw [up_ne (by first | assumption | (intro q0; cases q0; done) | (intro q0; simp at q0; omega))])) ?_
        refine s_icmp_eq dRule_outranks_8 (fun _ => ?_) (fun q => absurd (by rw [a1]) q)
        refine s_aload_n dRule_outranks_28 rfl rfl ?_
        refine s_get dRule_outranks_29 gf_Rule_32 (by repeat (first | exact up_self | assumption | rw [up_ne (by first | assumption | (intro q0; cases q0; done) | (intro q0; simp at q0; omega))])) ?_
        refine s_aload_n dRule_outranks_32 rfl rfl ?_
        refine s_get dRule_outranks_33 gf_Rule_32 (by repeat (first | exact up_self | assumption | rw [up_ne (by first | assumption | (intro q0; cases q0; done) | (intro q0; simp at q0; omega))])) ?_
        refine s_icmp_eq dRule_outranks_36 (fun q => absurd q (nI_ne a2 (by omega) (by omega))) (fun _ => ?_)
        refine s_aload_n dRule_outranks_39 rfl rfl ?_
        refine s_get dRule_outranks_40 gf_Rule_32 (by repeat (first | exact up_self | assumption | rw [up_ne (by first | assumption | (intro q0; cases q0; done) | (intro q0; simp at q0; omega))])) ?_
        refine s_aload_n dRule_outranks_43 rfl rfl ?_
        refine s_get dRule_outranks_44 gf_Rule_32 (by repeat (first | exact up_self | assumption | rw [up_ne (by first | assumption | (intro q0; cases q0; done) | (intro q0; simp at q0; omega))])) ?_
        refine s_icmp_le dRule_outranks_47 (fun _ => ?_) (fun q => absurd (nI_le (by omega) (by omega)) q)
        refine s_iconst (v := 0) dRule_outranks_54 (by decide) ?_
        refine s_zret dRule_outranks_55 rfl (by first | exact Or.inl rfl | exact Or.inr rfl | assumption) (by first | exact Nat.le_refl _ | decide | omega) (by first | exact Nat.le_refl _ | decide | omega) ?_
        exact ⟨by rw [zi_dec.2 (by rw [k1, k2]; subst a1; omega)], rfl⟩
  · by_cases a4 : s1 < s2
    · refine s_aload_n dRule_outranks_0 rfl rfl ?_
      refine s_get dRule_outranks_1 gf_Rule_29 (by repeat (first | exact up_self | assumption | rw [up_ne (by first | assumption | (intro q0; cases q0; done) | (intro q0; simp at q0; omega))])) ?_
      refine s_aload_n dRule_outranks_4 rfl rfl ?_
      refine s_get dRule_outranks_5 gf_Rule_29 (by repeat (first | exact up_self | assumption | rw [up_ne (by first | assumption | (intro q0; cases q0; done) | (intro q0; simp at q0; omega))])) ?_
      refine s_icmp_eq dRule_outranks_8 (fun q => absurd q (nI_ne a1 (by omega) (by omega))) (fun _ => ?_)
      refine s_aload_n dRule_outranks_11 rfl rfl ?_
      refine s_get dRule_outranks_12 gf_Rule_29 (by repeat (first | exact up_self | assumption | rw [up_ne (by first | assumption | (intro q0; cases q0; done) | (intro q0; simp at q0; omega))])) ?_
      refine s_aload_n dRule_outranks_15 rfl rfl ?_
      refine s_get dRule_outranks_16 gf_Rule_29 (by repeat (first | exact up_self | assumption | rw [up_ne (by first | assumption | (intro q0; cases q0; done) | (intro q0; simp at q0; omega))])) ?_
      refine s_icmp_ge dRule_outranks_19 (fun q => absurd q (nI_ge a4 (by omega))) (fun _ => ?_)
      refine s_iconst (v := 1) dRule_outranks_22 (by decide) ?_
      refine s_goto dRule_outranks_23 ?_
      refine s_zret dRule_outranks_27 rfl (by first | exact Or.inl rfl | exact Or.inr rfl | assumption) (by first | exact Nat.le_refl _ | decide | omega) (by first | exact Nat.le_refl _ | decide | omega) ?_
      exact ⟨by rw [zi_dec.1 (by rw [k1, k2]; omega)], rfl⟩
    · refine s_aload_n dRule_outranks_0 rfl rfl ?_
      refine s_get dRule_outranks_1 gf_Rule_29 (by repeat (first | exact up_self | assumption | rw [up_ne (by first | assumption | (intro q0; cases q0; done) | (intro q0; simp at q0; omega))])) ?_
      refine s_aload_n dRule_outranks_4 rfl rfl ?_
      refine s_get dRule_outranks_5 gf_Rule_29 (by repeat (first | exact up_self | assumption | rw [up_ne (by first | assumption | (intro q0; cases q0; done) | (intro q0; simp at q0; omega))])) ?_
      refine s_icmp_eq dRule_outranks_8 (fun q => absurd q (nI_ne a1 (by omega) (by omega))) (fun _ => ?_)
      refine s_aload_n dRule_outranks_11 rfl rfl ?_
      refine s_get dRule_outranks_12 gf_Rule_29 (by repeat (first | exact up_self | assumption | rw [up_ne (by first | assumption | (intro q0; cases q0; done) | (intro q0; simp at q0; omega))])) ?_
      refine s_aload_n dRule_outranks_15 rfl rfl ?_
      refine s_get dRule_outranks_16 gf_Rule_29 (by repeat (first | exact up_self | assumption | rw [up_ne (by first | assumption | (intro q0; cases q0; done) | (intro q0; simp at q0; omega))])) ?_
      refine s_icmp_ge dRule_outranks_19 (fun _ => ?_) (fun q => absurd (nI_le (by omega) (by omega)) q)
      refine s_iconst (v := 0) dRule_outranks_26 (by decide) ?_
      refine s_zret dRule_outranks_27 rfl (by first | exact Or.inl rfl | exact Or.inr rfl | assumption) (by first | exact Nat.le_refl _ | decide | omega) (by first | exact Nat.le_refl _ | decide | omega) ?_
      exact ⟨by rw [zi_dec.2 (by rw [k1, k2]; omega)], rfl⟩
def plX (l : List Nat) (r : Nat) : Int32 := if r ∈ l then nI (l.idxOf r) else -1
theorem l_placeIn {h : Hp} {t : Nm} {l : List Nat} {r : Nat} {Q : Option PV → Hp → Prop} (I : LsT h t (rL l)) (hl : l.length ≤ 73) (hq : Q (some (vI (plX l r))) h) : ∀ (n i : Nat), i + n = l.length → (∀ j x, j < i → l[j]? = some x → x ≠ r) →
    S mBook_placeIn 3 0 0 Q 2 [some (vR t), some (vR (28, r, 0)), some (vI (nI i))] [] h 0 0 := by
  have cs := c_size I
  rw [rL_len] at cs
  obtain ⟨cap, z, f, e2, -⟩ := id I
  intro n
  induction n with
  | zero =>
    intro i hi hx
    have ei : i = l.length := by omega
    subst ei
    refine s_iload_n dBook_placeIn_2 rfl rfl ?_
    refine s_aload_n dBook_placeIn_3 rfl rfl ?_
    refine s_v0 dBook_placeIn_4 cv_Book_50 (by repeat (first | exact up_self | assumption | rw [up_ne (by first | assumption | (intro q0; cases q0; done) | (intro q0; simp at q0; omega))])) (cs) rfl rfl rfl rfl ?_
    refine s_icmp_ge dBook_placeIn_7 (fun _ => ?_) (fun q => absurd (nI_le (Nat.le_refl _) (by omega)) q)
    refine s_iconst (v := (-1)) dBook_placeIn_27 (by decide) ?_
    refine s_iret dBook_placeIn_28 rfl (by first | exact Nat.le_refl _ | decide | omega) (by first | exact Nat.le_refl _ | decide | omega) ?_
    have : r ∉ l := fun q => by
      obtain ⟨j, hj⟩ := List.getElem?_of_mem q
      exact hx j r (List.getElem?_eq_some_iff.mp hj).1 hj rfl
    unfold plX at hq
    rw [if_neg this] at hq
    exact hq
  | succ n ih1 =>
    intro i hi hx
    have hil : i < l.length := by omega
    obtain ⟨y, hy⟩ : ∃ y, l[i]? = some y := ⟨_, List.getElem?_eq_getElem hil⟩
    by_cases c1 : y = r
    · subst c1
      refine s_iload_n dBook_placeIn_2 rfl rfl ?_
      refine s_aload_n dBook_placeIn_3 rfl rfl ?_
      refine s_v0 dBook_placeIn_4 cv_Book_50 (by repeat (first | exact up_self | assumption | rw [up_ne (by first | assumption | (intro q0; cases q0; done) | (intro q0; simp at q0; omega))])) (cs) rfl rfl rfl rfl ?_
      refine s_icmp_ge dBook_placeIn_7 (fun q => absurd q (nI_ge hil (by omega))) (fun _ => ?_)
      refine s_aload_n dBook_placeIn_10 rfl rfl ?_
      refine s_iload_n dBook_placeIn_11 rfl rfl ?_
      refine s_v1 dBook_placeIn_12 cv_Book_54 (by repeat (first | exact up_self | assumption | rw [up_ne (by first | assumption | (intro q0; cases q0; done) | (intro q0; simp at q0; omega))])) (c_get I (rL_get hy)) rfl rfl rfl rfl ?_
      refine s_aload_n dBook_placeIn_15 rfl rfl ?_
      refine s_acmp_ne dBook_placeIn_16 (fun q => absurd rfl q) (fun _ => ?_)
      refine s_iload_n dBook_placeIn_19 rfl rfl ?_
      refine s_iret dBook_placeIn_20 rfl (by first | exact Nat.le_refl _ | decide | omega) (by first | exact Nat.le_refl _ | decide | omega) ?_
      unfold plX at hq
      rw [if_pos (List.mem_of_getElem? hy), idx_at hy hx] at hq
      exact hq
    · refine s_iload_n dBook_placeIn_2 rfl rfl ?_
      refine s_aload_n dBook_placeIn_3 rfl rfl ?_
      refine s_v0 dBook_placeIn_4 cv_Book_50 (by repeat (first | exact up_self | assumption | rw [up_ne (by first | assumption | (intro q0; cases q0; done) | (intro q0; simp at q0; omega))])) (cs) rfl rfl rfl rfl ?_
      refine s_icmp_ge dBook_placeIn_7 (fun q => absurd q (nI_ge hil (by omega))) (fun _ => ?_)
      refine s_aload_n dBook_placeIn_10 rfl rfl ?_
      refine s_iload_n dBook_placeIn_11 rfl rfl ?_
      refine s_v1 dBook_placeIn_12 cv_Book_54 (by repeat (first | exact up_self | assumption | rw [up_ne (by first | assumption | (intro q0; cases q0; done) | (intro q0; simp at q0; omega))])) (c_get I (rL_get hy)) rfl rfl rfl rfl ?_
      refine s_aload_n dBook_placeIn_15 rfl rfl ?_
      refine s_acmp_ne dBook_placeIn_16 (fun _ => ?_) (fun q => absurd q (fun q0 => c1 (by cases q0; rfl)))
      first | refine s_iincN dBook_placeIn_21 rfl rfl ?_ | refine s_iinc dBook_placeIn_21 rfl rfl ?_
      refine s_goto dBook_placeIn_24 ?_
      refine ih1 (i + 1) (by omega) (fun j x hj hjx => ?_)
      by_cases c2 : j = i
      · subst c2
        rw [hy] at hjx
        cases hjx
        exact c1
      · exact hx j x (by omega) hjx
theorem c_placeIn {h : Hp} {t : Nm} {l : List Nat} {r : Nat} (I : LsT h t (rL l)) (hl : l.length ≤ 73) : ConF mBook_placeIn 3 [vR t, vR (28, r, 0)] h (some (vI (plX l r))) h := by
  refine c_enter (by decide +kernel) rfl rfl ?_
  refine s_iconst (v := 0) dBook_placeIn_0 (by decide) ?_
  refine s_istore_n dBook_placeIn_1 rfl rfl ?_
  exact l_placeIn I hl ⟨rfl, rfl⟩ l.length 0 (by omega) (fun j x hj => by omega)
