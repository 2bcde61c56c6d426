/-! the class's and the reference's beginning -/
section CG
variable {M : MD} {lvl mc ms : Nat} {Q : Option PV → Hp → Prop} {pc pc' tgt : Nat} {lv : List (Option PV)} {st : List PV} {h : Hp} {k n : Nat}
theorem s_gen (kk : ∀ h', h' = h → S M lvl mc ms Q pc lv st h' k n) : S M lvl mc ms Q pc lv st h k n := kk h rfl
theorem s_ext2 {nm : Nm} {ci len : Nat} {f f' : Nat → PV} (hc : h nm = some (ci, len, f)) (hci : ci < 14) (h2 : Nat.ble 2 nm.1 = true) (hj : ∀ j, j < cN ci → f' j = f j) (hv : ∀ j, f' j = f j ∨ ∃ x, f' j = vI x) (kk : S M lvl mc ms Q pc lv st (up h nm (ci, len, f')) k n) : S M lvl mc ms Q pc lv st h k n := by
  intro p l e R s m args below meth c g Qf D0 ρ0 C hR ρ ls H locs hK hL hW hw hlo
  have hn : h nm ≠ none := by rw [hc]; exact fun q => by cases q
  obtain ⟨w1, w2⟩ := hw.1 nm _ hc
  have hw' : Wd g ρ (up h nm (ci, len, f')) s H := by
    refine hw.put hn (Nat.le_of_ble_eq_true h2) ?_ (fun j => ?_) rfl (fun _ _ => rfl)
    · unfold cOK at w1 ⊢
      rw [if_pos hci] at w1 ⊢
      exact w1.to fun j q1 => by show tr ρ (f j) = tr ρ (f' j); rw [hj j q1]
    · show wfv h (f' j)
      rcases hv j with q1 | ⟨x, q1⟩
      · rw [q1]; exact w2 j
      · rw [q1]; trivial
  exact kk p l e R s m args below meth c g Qf D0 ρ0 C hR ρ ls H locs (fun x hx => ⟨up_dom (hK x hx).1, (hK x hx).2⟩) (hL.mono fun x hx => ⟨up_dom hx, rfl⟩) (hW.mono fun x hx => up_dom hx) hw' hlo
end CG
theorem mmH_t {h : Hp} {t t2 N M : Nat} (ho : t ≠ t2) (t' i c : Nat) (h1 : t' ≠ t) (h2 : t' ≠ t2) : mmH h (t, 0, 0) t2 N M N (t', i, c) = h (t', i, c) := (mmH_f (o := (t, 0, 0)) ho N).2.2 _ (fun q0 => h1 (by simp at q0; exact q0.1)) (fun j _ q0 => h2 (by simp at q0; exact q0.1))
theorem c_X_init {h : Hp} {σ : Sg} (e1 : h (10, 0, 0) = some (11, 0, fl [vN, vN, vN, vN, vN, vI 0, vN, vI 0, vN, vN, vI 0, vN, vI 0, vN, vN])) (fr : ∀ t i c, 11 ≤ t → t ≤ 47 → h (t, i, c) = none) (h49 : σ 49 0 = 0) (h47 : σ 47 0 = 0) :
    Con mX_init 5 60 1300 [vR (10, 0, 0)] h (fun v h' => v = none ∧ (∀ t i c, t < 10 ∨ 47 < t → h' (t, i, c) = h (t, i, c)) ∧ mnC h' 0 0 0 (-4) ∧ kC h' σ 1 ∧ sC h' σ (σ 4) 0 ∧ brC h' σ 0 0 (fun _ => []) ∧ aC h' σ 0 ∧ vC h' σ 0 ∧ pC h' σ 0 ∧ nC h' σ 0 ∧ fC h' σ 0 ∧ uC h' 0 0 ∧ (∀ d, d < 6 → oC h' d (fun _ => 0) (fun _ => false)) ∧ tC h' (σ 28) 0) := by
  refine c_enter (by decide +kernel) rfl rfl ?_
  refine s_aload_n dX_init_0 rfl rfl ?_
  refine s_objInit dX_init_1 ob_X_1 rfl rfl ?_
  refine s_aload_n dX_init_4 rfl rfl ?_
  refine s_newF ((11, 0, 0)) ([vN, vN, vI 0]) dX_init_5 nw_X_7 rfl (by first | rfl | assumption) (fr 11 0 0 (by omega) (by omega)) rfl rfl ?_
  refine s_dup dX_init_8 rfl ?_
  refine s_callI (As := []) dX_init_9 ci_X_9 (c_Kinds_init up_self (by rw [up_ne (fun q0 => by cases q0)]; exact fr 11 1 0 (by omega) (by omega)) (by rw [up_ne (fun q0 => by cases q0)]; exact fr 11 2 0 (by omega) (by omega))) (by first | rfl | exact Nat.ble_eq_true_of_le (by omega)) (by first | rfl | exact Nat.ble_eq_true_of_le (by omega)) (by first | rfl | exact Nat.ble_eq_true_of_le (by omega)) rfl (fun v0 h1 q0 => ?_)
  obtain ⟨rfl, F1, k0, k1, k2⟩ := q0
  have G1 : ∀ t i c, t ≠ 11 → h1 (t, i, c) = h (t, i, c) := fun t i c a1 => by rw [F1 _ (by simp; exact a1), up_ne (fun q0 => by simp at q0; omega)]
  have M1 : h1 (10, 0, 0) = _ := (G1 _ _ _ (by omega)).trans e1
  refine s_putF dX_init_12 gf_X_10 (by repeat (first | exact up_self | assumption | rw [up_ne (by first | assumption | (intro q0; cases q0; done) | (intro q0; simp at q0; omega))])) (by first | rfl | assumption) rfl (by first | exact Or.inl rfl | exact Or.inr ⟨rfl, rfl⟩) (by first | exact ⟨_, rfl⟩ | exact Or.inl rfl | exact Or.inr rfl | assumption) ?_
  refine s_aload_n dX_init_15 rfl rfl ?_
  refine s_newF ((12, 0, 0)) ([vN, vI 0, vI 0]) dX_init_16 nw_X_16 rfl (by first | rfl | assumption) (by rw [up_ne (fun q0 => by cases q0), G1 _ _ _ (by omega)]; exact fr 12 0 0 (by omega) (by omega)) rfl rfl ?_
  refine s_dup dX_init_19 rfl ?_
  refine s_callI (As := []) dX_init_20 ci_X_18 (c_ALi up_self rfl) (by first | rfl | exact Nat.ble_eq_true_of_le (by omega)) (by first | rfl | exact Nat.ble_eq_true_of_le (by omega)) (by first | rfl | exact Nat.ble_eq_true_of_le (by omega)) rfl (fun v0 h2 q0 => ?_)
  obtain ⟨rfl, rfl⟩ := q0
  refine s_gen (fun h2 eh2 => ?_)
  have G2 : ∀ t i c, t ≠ 12 ∧ t ≠ 10 → h2 (t, i, c) = h1 (t, i, c) := fun t i c a1 => by rw [eh2, up_ne (fun q0 => by simp at q0; omega), up_ne (fun q0 => by simp at q0; omega), up_ne (fun q0 => by simp at q0; omega)]
  have M2 : h2 (10, 0, 0) = some (11, 0, fl [vR (11, 0, 0), vN, vN, vN, vN, vI 0, vN, vI 0, vN, vN, vI 0, vN, vI 0, vN, vN]) := by
    rw [eh2, up_ne (fun q0 => by cases q0), up_ne (fun q0 => by cases q0), up_self]
    rfl
  have L2 : h2 (12, 0, 0) = some (13, 0, fl [vR (1, 0, 0), vI 0, vI 0]) := by rw [eh2, up_self]
  clear eh2
  refine s_putF dX_init_23 gf_X_19 (by repeat (first | exact up_self | assumption | rw [up_ne (by first | assumption | (intro q0; cases q0; done) | (intro q0; simp at q0; omega))])) (by first | rfl | assumption) rfl (by first | exact Or.inl rfl | exact Or.inr ⟨rfl, rfl⟩) (by first | exact ⟨_, rfl⟩ | exact Or.inl rfl | exact Or.inr rfl | assumption) ?_
  refine s_aload_n dX_init_26 rfl rfl ?_
  refine s_newF ((16, 0, 0)) ([vN, vI 0, vI 0]) dX_init_27 nw_X_16 rfl (by first | rfl | assumption) (by rw [up_ne (fun q0 => by cases q0), G2 _ _ _ (by omega), G1 _ _ _ (by omega)]; exact fr 16 0 0 (by omega) (by omega)) rfl rfl ?_
  refine s_dup dX_init_30 rfl ?_
  refine s_callI (As := []) dX_init_31 ci_X_18 (c_ALi up_self rfl) (by first | rfl | exact Nat.ble_eq_true_of_le (by omega)) (by first | rfl | exact Nat.ble_eq_true_of_le (by omega)) (by first | rfl | exact Nat.ble_eq_true_of_le (by omega)) rfl (fun v0 h3 q0 => ?_)
  obtain ⟨rfl, rfl⟩ := q0
  refine s_gen (fun h3 eh3 => ?_)
  have G3 : ∀ t i c, t ≠ 16 ∧ t ≠ 10 → h3 (t, i, c) = h2 (t, i, c) := fun t i c a1 => by rw [eh3, up_ne (fun q0 => by simp at q0; omega), up_ne (fun q0 => by simp at q0; omega), up_ne (fun q0 => by simp at q0; omega)]
  have M3 : h3 (10, 0, 0) = some (11, 0, fl [vR (11, 0, 0), vR (12, 0, 0), vN, vN, vN, vI 0, vN, vI 0, vN, vN, vI 0, vN, vI 0, vN, vN]) := by
    rw [eh3, up_ne (fun q0 => by cases q0), up_ne (fun q0 => by cases q0), up_self]
    rfl
  have L3 : h3 (16, 0, 0) = some (13, 0, fl [vR (1, 0, 0), vI 0, vI 0]) := by rw [eh3, up_self]
  clear eh3
  refine s_putF dX_init_34 gf_X_23 (by repeat (first | exact up_self | assumption | rw [up_ne (by first | assumption | (intro q0; cases q0; done) | (intro q0; simp at q0; omega))])) (by first | rfl | assumption) rfl (by first | exact Or.inl rfl | exact Or.inr ⟨rfl, rfl⟩) (by first | exact ⟨_, rfl⟩ | exact Or.inl rfl | exact Or.inr rfl | assumption) ?_
  refine s_aload_n dX_init_37 rfl rfl ?_
  refine s_newF ((26, 0, 0)) ([vN, vI 0, vI 0]) dX_init_38 nw_X_16 rfl (by first | rfl | assumption) (by rw [up_ne (fun q0 => by cases q0), G3 _ _ _ (by omega), G2 _ _ _ (by omega), G1 _ _ _ (by omega)]; exact fr 26 0 0 (by omega) (by omega)) rfl rfl ?_
  refine s_dup dX_init_41 rfl ?_
  refine s_callI (As := []) dX_init_42 ci_X_18 (c_ALi up_self rfl) (by first | rfl | exact Nat.ble_eq_true_of_le (by omega)) (by first | rfl | exact Nat.ble_eq_true_of_le (by omega)) (by first | rfl | exact Nat.ble_eq_true_of_le (by omega)) rfl (fun v0 h4 q0 => ?_)
  obtain ⟨rfl, rfl⟩ := q0
  refine s_gen (fun h4 eh4 => ?_)
  have G4 : ∀ t i c, t ≠ 26 ∧ t ≠ 10 → h4 (t, i, c) = h3 (t, i, c) := fun t i c a1 => by rw [eh4, up_ne (fun q0 => by simp at q0; omega), up_ne (fun q0 => by simp at q0; omega), up_ne (fun q0 => by simp at q0; omega)]
  have M4 : h4 (10, 0, 0) = some (11, 0, fl [vR (11, 0, 0), vR (12, 0, 0), vR (16, 0, 0), vN, vN, vI 0, vN, vI 0, vN, vN, vI 0, vN, vI 0, vN, vN]) := by
    rw [eh4, up_ne (fun q0 => by cases q0), up_ne (fun q0 => by cases q0), up_self]
    rfl
  have L4 : h4 (26, 0, 0) = some (13, 0, fl [vR (1, 0, 0), vI 0, vI 0]) := by rw [eh4, up_self]
  clear eh4
  refine s_putF dX_init_45 gf_X_26 (by repeat (first | exact up_self | assumption | rw [up_ne (by first | assumption | (intro q0; cases q0; done) | (intro q0; simp at q0; omega))])) (by first | rfl | assumption) rfl (by first | exact Or.inl rfl | exact Or.inr ⟨rfl, rfl⟩) (by first | exact ⟨_, rfl⟩ | exact Or.inl rfl | exact Or.inr rfl | assumption) ?_
  refine s_aload_n dX_init_48 rfl rfl ?_
  refine s_bipush (v := nI 8) dX_init_49 (by decide) ?_
  refine s_bipush (v := nI 6) dX_init_51 (by decide) ?_
  refine s_gen (fun h5 eh5 => ?_)
  have G5 : ∀ t i c, t ≠ 10 → h5 (t, i, c) = h4 (t, i, c) := fun t i c a1 => by rw [eh5, up_ne (fun q0 => by simp at q0; omega)]
  have M5 : h5 (10, 0, 0) = some (11, 0, fl [vR (11, 0, 0), vR (12, 0, 0), vR (16, 0, 0), vR (26, 0, 0), vN, vI 0, vN, vI 0, vN, vN, vI 0, vN, vI 0, vN, vN]) := by
    rw [eh5, up_self]
    rfl
  clear eh5
  have Z5 : ∀ t i c, 32 ≤ t → t ≤ 47 → h5 (t, i, c) = none := fun t i c a1 a2 => by rw [G5 _ _ _ (by omega), G4 _ _ _ (by omega), G3 _ _ _ (by omega), G2 _ _ _ (by omega), G1 _ _ _ (by omega)]; exact fr t i c (by omega) (by omega)
  refine s_multi (32, 0, 0) 33 dX_init_53 cl_X_29 (by decide) (by decide) (by decide) (Z5 _ _ _ (by omega) (by omega)) (fun j => Z5 _ _ _ (by omega) (by omega)) (by omega) (by omega) (by omega) (by decide) (by decide) ?_
  have G6 : ∀ t i c, t ≠ 32 → t ≠ 33 → mmH h5 (32, 0, 0) 33 8 6 8 (t, i, c) = h5 (t, i, c) := fun t i c a1 a2 => mmH_t (by decide) t i c a1 a2
  obtain ⟨m1, m2, m3⟩ := mmH_f (h := h5) (o := (32, 0, 0)) (t2 := 33) (N := 8) (M := 6) (by decide) 8
  generalize mmH h5 (32, 0, 0) 33 8 6 8 = h6 at G6 m1 m2 m3 ⊢
  have M6 : h6 (10, 0, 0) = _ := (G6 _ _ _ (by omega) (by omega)).trans M5
  refine s_putF dX_init_57 gf_X_31 (by repeat (first | exact up_self | assumption | rw [up_ne (by first | assumption | (intro q0; cases q0; done) | (intro q0; simp at q0; omega))])) (by first | rfl | assumption) rfl (by first | exact Or.inl rfl | exact Or.inr ⟨rfl, rfl⟩) (by first | exact ⟨_, rfl⟩ | exact Or.inl rfl | exact Or.inr rfl | assumption) ?_
  refine s_aload_n dX_init_60 rfl rfl ?_
  refine s_bipush (v := nI 6) dX_init_61 (by decide) ?_
  refine s_iconst (v := nI 3) dX_init_63 (by decide) ?_
  refine s_gen (fun h7 eh7 => ?_)
  have G7 : ∀ t i c, t ≠ 10 → h7 (t, i, c) = h6 (t, i, c) := fun t i c a1 => by rw [eh7, up_ne (fun q0 => by simp at q0; omega)]
  have M7 : h7 (10, 0, 0) = some (11, 0, fl [vR (11, 0, 0), vR (12, 0, 0), vR (16, 0, 0), vR (26, 0, 0), vR (32, 0, 0), vI 0, vN, vI 0, vN, vN, vI 0, vN, vI 0, vN, vN]) := by
    rw [eh7, up_self]
    rfl
  clear eh7
  have Z7 : ∀ t i c, 34 ≤ t → t ≤ 47 → h7 (t, i, c) = none := fun t i c a1 a2 => by rw [G7 _ _ _ (by omega), G6 _ _ _ (by omega) (by omega)]; exact Z5 t i c (by omega) (by omega)
  refine s_multi (35, 0, 0) 36 dX_init_64 cl_X_29 (by decide) (by decide) (by decide) (Z7 _ _ _ (by omega) (by omega)) (fun j => Z7 _ _ _ (by omega) (by omega)) (by omega) (by omega) (by omega) (by decide) (by decide) ?_
  have G8 : ∀ t i c, t ≠ 35 → t ≠ 36 → mmH h7 (35, 0, 0) 36 6 3 6 (t, i, c) = h7 (t, i, c) := fun t i c a1 a2 => mmH_t (by decide) t i c a1 a2
  obtain ⟨n1, n2, n3⟩ := mmH_f (h := h7) (o := (35, 0, 0)) (t2 := 36) (N := 6) (M := 3) (by decide) 6
  generalize mmH h7 (35, 0, 0) 36 6 3 6 = h8 at G8 n1 n2 n3 ⊢
  have M8 : h8 (10, 0, 0) = _ := (G8 _ _ _ (by omega) (by omega)).trans M7
  have Z8 : ∀ t i c, 37 ≤ t → t ≤ 47 → h8 (t, i, c) = none := fun t i c a1 a2 => by rw [G8 _ _ _ (by omega) (by omega)]; exact Z7 t i c (by omega) (by omega)
  refine s_putF dX_init_68 gf_X_34 (by repeat (first | exact up_self | assumption | rw [up_ne (by first | assumption | (intro q0; cases q0; done) | (intro q0; simp at q0; omega))])) (by first | rfl | assumption) rfl (by first | exact Or.inl rfl | exact Or.inr ⟨rfl, rfl⟩) (by first | exact ⟨_, rfl⟩ | exact Or.inl rfl | exact Or.inr rfl | assumption) ?_
  refine s_aload_n dX_init_71 rfl rfl ?_
  refine s_iconst (v := nI 4) dX_init_72 (by decide) ?_
  refine s_newa (37, 0, 0) _ dX_init_73 rfl ⟨Or.inl rfl, ac20⟩ rfl rfl (by rw [up_ne (fun q0 => by cases q0)]; exact Z8 _ _ _ (by omega) (by omega)) rfl rfl ?_
  refine s_putF dX_init_75 gf_X_37 (by repeat (first | exact up_self | assumption | rw [up_ne (by first | assumption | (intro q0; cases q0; done) | (intro q0; simp at q0; omega))])) (by first | rfl | assumption) rfl (by first | exact Or.inl rfl | exact Or.inr ⟨rfl, rfl⟩) (by first | exact ⟨_, rfl⟩ | exact Or.inl rfl | exact Or.inr rfl | assumption) ?_
  refine s_aload_n dX_init_78 rfl rfl ?_
  refine s_iconst (v := nI 4) dX_init_79 (by decide) ?_
  refine s_newa (37, 1, 0) _ dX_init_80 rfl ⟨Or.inl rfl, ac20⟩ rfl rfl (by rw [up_ne (fun q0 => by cases q0), up_ne (fun q0 => by cases q0), up_ne (fun q0 => by cases q0)]; exact Z8 _ _ _ (by omega) (by omega)) rfl rfl ?_
  refine s_putF dX_init_82 gf_X_41 (by repeat (first | exact up_self | assumption | rw [up_ne (by first | assumption | (intro q0; cases q0; done) | (intro q0; simp at q0; omega))])) (by first | rfl | assumption) rfl (by first | exact Or.inl rfl | exact Or.inr ⟨rfl, rfl⟩) (by first | exact ⟨_, rfl⟩ | exact Or.inl rfl | exact Or.inr rfl | assumption) ?_
  refine s_gen (fun h9 eh9 => ?_)
  have G9 : ∀ t i c, t ≠ 10 ∧ t ≠ 37 → h9 (t, i, c) = h8 (t, i, c) := fun t i c a1 => by rw [eh9, up_ne (fun q0 => by simp at q0; omega), up_ne (fun q0 => by simp at q0; omega), up_ne (fun q0 => by simp at q0; omega), up_ne (fun q0 => by simp at q0; omega), up_ne (fun q0 => by simp at q0; omega)]
  have M9 : h9 (10, 0, 0) = some (11, 0, fl [vR (11, 0, 0), vR (12, 0, 0), vR (16, 0, 0), vR (26, 0, 0), vR (32, 0, 0), vI 0, vR (35, 0, 0), vI 0, vR (37, 0, 0), vR (37, 1, 0), vI 0, vN, vI 0, vN, vN]) := by
    rw [eh9, up_self]
    rfl
  have o1 : h9 (37, 0, 0) = some (20, 4, fun _ => vI 0) := by rw [eh9, up_ne (fun q0 => by cases q0), up_ne (fun q0 => by cases q0), up_ne (fun q0 => by cases q0), up_self]
  have o2 : h9 (37, 1, 0) = some (20, 4, fun _ => vI 0) := by rw [eh9, up_ne (fun q0 => by cases q0), up_self]
  clear eh9
  have Z9 : ∀ t i c, 38 ≤ t → t ≤ 47 → h9 (t, i, c) = none := fun t i c a1 a2 => by rw [G9 _ _ _ (by omega)]; exact Z8 t i c (by omega) (by omega)
  refine s_aload_n dX_init_85 rfl rfl ?_
  refine s_newF ((38, 0, 0)) ([vN, vN, vN, vI 0, vI 0]) dX_init_86 nw_X_44 rfl (by first | rfl | assumption) (Z9 _ _ _ (by omega) (by omega)) rfl rfl ?_
  refine s_dup dX_init_89 rfl ?_
  refine s_aload_n dX_init_90 rfl rfl ?_
  refine s_get dX_init_91 gf_X_19 (by repeat (first | exact up_self | assumption | rw [up_ne (by first | assumption | (intro q0; cases q0; done) | (intro q0; simp at q0; omega))])) ?_
  refine s_callI (As := [_]) dX_init_94 ci_X_46 (c_Scs_init up_self (by rw [up_ne (fun q0 => by cases q0)]; exact Z9 _ _ _ (by omega) (by omega)) (by rw [up_ne (fun q0 => by cases q0)]; exact Z9 _ _ _ (by omega) (by omega)) (fun c => by rw [up_ne (fun q0 => by cases q0)]; exact Z9 _ _ _ (by omega) (by omega))) (by first | rfl | exact Nat.ble_eq_true_of_le (by omega)) (by first | rfl | exact Nat.ble_eq_true_of_le (by omega)) (by first | rfl | exact Nat.ble_eq_true_of_le (by omega)) rfl (fun v0 h10 q0 => ?_)
  obtain ⟨rfl, F10, x0, x1, x2⟩ := q0
  have G10 : ∀ t i c, t ≠ 38 ∧ t ≠ 39 → h10 (t, i, c) = h9 (t, i, c) := fun t i c a1 => by rw [F10 _ (by simp; omega), up_ne (fun q0 => by simp at q0; omega)]
  have M10 : h10 (10, 0, 0) = _ := (G10 _ _ _ (by omega)).trans M9
  have Z10 : ∀ t i c, 40 ≤ t → t ≤ 47 → h10 (t, i, c) = none := fun t i c a1 a2 => by rw [G10 _ _ _ (by omega)]; exact Z9 t i c (by omega) (by omega)
  refine s_putF dX_init_97 gf_X_49 (by repeat (first | exact up_self | assumption | rw [up_ne (by first | assumption | (intro q0; cases q0; done) | (intro q0; simp at q0; omega))])) (by first | rfl | assumption) rfl (by first | exact Or.inl rfl | exact Or.inr ⟨rfl, rfl⟩) (by first | exact ⟨_, rfl⟩ | exact Or.inl rfl | exact Or.inr rfl | assumption) ?_
  refine s_aload_n dX_init_100 rfl rfl ?_
  refine s_bipush (v := (-4)) dX_init_101 (by decide) ?_
  refine s_putF dX_init_103 gf_X_53 (by repeat (first | exact up_self | assumption | rw [up_ne (by first | assumption | (intro q0; cases q0; done) | (intro q0; simp at q0; omega))])) (by first | rfl | assumption) rfl (by first | exact Or.inl rfl | exact Or.inr ⟨rfl, rfl⟩) (by first | exact ⟨_, rfl⟩ | exact Or.inl rfl | exact Or.inr rfl | assumption) ?_
  refine s_gen (fun h11 eh11 => ?_)
  have G11 : ∀ t i c, t ≠ 10 → h11 (t, i, c) = h10 (t, i, c) := fun t i c a1 => by rw [eh11, up_ne (fun q0 => by simp at q0; omega), up_ne (fun q0 => by simp at q0; omega)]
  have M11 : h11 (10, 0, 0) = some (11, 0, fl [vR (11, 0, 0), vR (12, 0, 0), vR (16, 0, 0), vR (26, 0, 0), vR (32, 0, 0), vI 0, vR (35, 0, 0), vI 0, vR (37, 0, 0), vR (37, 1, 0), vI 0, vR (38, 0, 0), vI (-4), vN, vN]) := by
    rw [eh11, up_self]
    rfl
  clear eh11
  have Z11 : ∀ t i c, 40 ≤ t → t ≤ 47 → h11 (t, i, c) = none := fun t i c a1 a2 => by rw [G11 _ _ _ (by omega)]; exact Z10 t i c (by omega) (by omega)
  refine s_aload_n dX_init_106 rfl rfl ?_
  refine s_newF ((43, 0, 0)) ([vN, vN, vN, vN, vI 0]) dX_init_107 nw_X_57 rfl (by first | rfl | assumption) (Z11 _ _ _ (by omega) (by omega)) rfl rfl ?_
  refine s_dup dX_init_110 rfl ?_
  refine s_aload_n dX_init_111 rfl rfl ?_
  refine s_get dX_init_112 gf_X_10 (by repeat (first | exact up_self | assumption | rw [up_ne (by first | assumption | (intro q0; cases q0; done) | (intro q0; simp at q0; omega))])) ?_
  refine s_callI (As := [_]) dX_init_115 ci_X_59 (c_Phr_init up_self (by rw [up_ne (fun q0 => by cases q0)]; exact Z11 _ _ _ (by omega) (by omega)) (by rw [up_ne (fun q0 => by cases q0)]; exact Z11 _ _ _ (by omega) (by omega)) (by rw [up_ne (fun q0 => by cases q0)]; exact Z11 _ _ _ (by omega) (by omega))) (by first | rfl | exact Nat.ble_eq_true_of_le (by omega)) (by first | rfl | exact Nat.ble_eq_true_of_le (by omega)) (by first | rfl | exact Nat.ble_eq_true_of_le (by omega)) rfl (fun v0 h12 q0 => ?_)
  obtain ⟨rfl, F12, p0, q1, q2, q3⟩ := q0
  have G12 : ∀ t i c, t ≠ 43 → h12 (t, i, c) = h11 (t, i, c) := fun t i c a1 => by rw [F12 _ (by simp; omega), up_ne (fun q0 => by simp at q0; omega)]
  have M12 : h12 (10, 0, 0) = _ := (G12 _ _ _ (by omega)).trans M11
  refine s_putF dX_init_118 gf_X_62 (by repeat (first | exact up_self | assumption | rw [up_ne (by first | assumption | (intro q0; cases q0; done) | (intro q0; simp at q0; omega))])) (by first | rfl | assumption) rfl (by first | exact Or.inl rfl | exact Or.inr ⟨rfl, rfl⟩) (by first | exact ⟨_, rfl⟩ | exact Or.inl rfl | exact Or.inr rfl | assumption) ?_
  refine s_gen (fun h13 eh13 => ?_)
  have G13 : ∀ t i c, t ≠ 10 → h13 (t, i, c) = h12 (t, i, c) := fun t i c a1 => by rw [eh13, up_ne (fun q0 => by simp at q0; omega)]
  have M13 : h13 (10, 0, 0) = some (11, 0, fl [vR (11, 0, 0), vR (12, 0, 0), vR (16, 0, 0), vR (26, 0, 0), vR (32, 0, 0), vI 0, vR (35, 0, 0), vI 0, vR (37, 0, 0), vR (37, 1, 0), vI 0, vR (38, 0, 0), vI (-4), vR (43, 0, 0), vN]) := by
    rw [eh13, up_self]
    rfl
  clear eh13
  have Z13 : ∀ t i c, 44 ≤ t → t ≤ 47 → h13 (t, i, c) = none := fun t i c a1 a2 => by rw [G13 _ _ _ (by omega), G12 _ _ _ (by omega)]; exact Z11 t i c (by omega) (by omega)
  refine s_aload_n dX_init_121 rfl rfl ?_
  refine s_newF ((44, 0, 0)) ([vN, vN, vN, vN, vN, vI 0, vI 0]) dX_init_122 nw_X_66 rfl (by first | rfl | assumption) (Z13 _ _ _ (by omega) (by omega)) rfl rfl ?_
  refine s_dup dX_init_125 rfl ?_
  refine s_aload_n dX_init_126 rfl rfl ?_
  refine s_get dX_init_127 gf_X_10 (by repeat (first | exact up_self | assumption | rw [up_ne (by first | assumption | (intro q0; cases q0; done) | (intro q0; simp at q0; omega))])) ?_
  refine s_aload_n dX_init_130 rfl rfl ?_
  refine s_get dX_init_131 gf_X_23 (by repeat (first | exact up_self | assumption | rw [up_ne (by first | assumption | (intro q0; cases q0; done) | (intro q0; simp at q0; omega))])) ?_
  refine s_aload_n dX_init_134 rfl rfl ?_
  refine s_get dX_init_135 gf_X_49 (by repeat (first | exact up_self | assumption | rw [up_ne (by first | assumption | (intro q0; cases q0; done) | (intro q0; simp at q0; omega))])) ?_
  refine s_callI (As := [_, _, _]) dX_init_138 ci_X_68 (c_Run_init up_self (by rw [up_ne (fun q0 => by cases q0)]; exact Z13 _ _ _ (by omega) (by omega)) (fun j => by rw [up_ne (fun q0 => by cases q0)]; exact Z13 _ _ _ (by omega) (by omega)) (fun i => ⟨by rw [up_ne (fun q0 => by cases q0)]; exact Z13 _ _ _ (by omega) (by omega), by rw [up_ne (fun q0 => by cases q0)]; exact Z13 _ _ _ (by omega) (by omega)⟩)) (by first | rfl | exact Nat.ble_eq_true_of_le (by omega)) (by first | rfl | exact Nat.ble_eq_true_of_le (by omega)) (by first | rfl | exact Nat.ble_eq_true_of_le (by omega)) rfl (fun v0 h14 q0 => ?_)
  obtain ⟨rfl, F14, U14, O14, T14⟩ := q0
  have G14 : ∀ t i c, t ≠ 44 ∧ t ≠ 45 ∧ t ≠ 46 ∧ t ≠ 47 → h14 (t, i, c) = h13 (t, i, c) := fun t i c a1 => by rw [F14 _ (by simp; omega), up_ne (fun q0 => by simp at q0; omega)]
  have M14 : h14 (10, 0, 0) = _ := (G14 _ _ _ (by omega)).trans M13
  refine s_putF dX_init_141 gf_X_71 (by repeat (first | exact up_self | assumption | rw [up_ne (by first | assumption | (intro q0; cases q0; done) | (intro q0; simp at q0; omega))])) (by first | rfl | assumption) rfl (by first | exact Or.inl rfl | exact Or.inr ⟨rfl, rfl⟩) (by first | exact ⟨_, rfl⟩ | exact Or.inl rfl | exact Or.inr rfl | assumption) ?_
  refine s_gen (fun h15 eh15 => ?_)
  have F15 : fT [10] h14 h15 := by rw [eh15]; exact fT.rf.v
  have M15 : h15 (10, 0, 0) = some (11, 0, fl (mnL 0 0 0 (-4))) := by
    rw [eh15, up_self]
    rfl
  clear eh15
  have A : ∀ t i c, t ≠ 10 ∧ t < 44 → h15 (t, i, c) = h13 (t, i, c) := fun t i c a1 => by rw [F15 _ (by simp; omega), G14 _ _ _ (by omega)]
  have A12 : ∀ t i c, t ≠ 10 ∧ t < 43 → h15 (t, i, c) = h10 (t, i, c) := fun t i c a1 => by rw [A _ _ _ (by omega), G13 _ _ _ (by omega), G12 _ _ _ (by omega), G11 _ _ _ (by omega)]
  have A9 : ∀ t i c, t ≠ 10 ∧ t < 38 → h15 (t, i, c) = h9 (t, i, c) := fun t i c a1 => by rw [A12 _ _ _ (by omega), G10 _ _ _ (by omega)]
  have A8 : ∀ t i c, t ≠ 10 ∧ t < 37 → h15 (t, i, c) = h8 (t, i, c) := fun t i c a1 => by rw [A9 _ _ _ (by omega), G9 _ _ _ (by omega)]
  have A6 : ∀ t i c, t ≠ 10 ∧ t < 35 → h15 (t, i, c) = h6 (t, i, c) := fun t i c a1 => by rw [A8 _ _ _ (by omega), G8 _ _ _ (by omega) (by omega), G7 _ _ _ (by omega)]
  have A4 : ∀ t i c, t ≠ 10 ∧ t < 32 → h15 (t, i, c) = h4 (t, i, c) := fun t i c a1 => by rw [A6 _ _ _ (by omega), G6 _ _ _ (by omega) (by omega), G5 _ _ _ (by omega)]
  have A1 : ∀ t i c, t ≠ 10 ∧ t < 32 ∧ t ≠ 26 ∧ t ≠ 16 ∧ t ≠ 12 → h15 (t, i, c) = h1 (t, i, c) := fun t i c a1 => by rw [A4 _ _ _ (by omega), G4 _ _ _ (by omega), G3 _ _ _ (by omega), G2 _ _ _ (by omega)]
  have A0 : ∀ t i c, 13 ≤ t ∧ t < 32 ∧ t ≠ 26 ∧ t ≠ 16 → h15 (t, i, c) = none := fun t i c a1 => by rw [A1 _ _ _ (by omega), G1 _ _ _ (by omega)]; exact fr t i c (by omega) (by omega)
  refine s_vret dX_init_144 rfl (by first | exact Nat.le_refl _ | decide | omega) (by first | exact Nat.le_refl _ | decide | omega) ?_
  refine ⟨rfl, fun t i c a1 => ?_, M15, ⟨?_, fun _ => vI 0, fun _ => vI 0, ?_, ?_, fun j _ _ => by omega, fun j q1 => ?_⟩, ⟨?_, fun s q1 => by omega, fun s _ => ⟨A0 _ _ _ (by omega), A0 _ _ _ (by omega)⟩⟩, ⟨⟨?_, fun b q1 => by omega, fun b _ t a1 a2 c => A0 _ _ _ (by omega)⟩, ?_, fun r q1 => by omega, fun r _ t a1 a2 c => A0 _ _ _ (by omega)⟩, ⟨fun j => if j < 8 then vR (33, j, 0) else vN, 8, ?_, fun i q1 => ?_, Nat.le_refl _, fun a q1 => ⟨if_pos q1, fun _ => vI 0, ?_, fun q2 => by omega⟩⟩, ⟨fun j => if j < 6 then vR (36, j, 0) else vN, 6, ?_, fun i q1 => ?_, Nat.le_refl _, fun a q1 => ⟨if_pos q1, fun _ => vI 0, ?_, fun q2 => by omega⟩⟩, ⟨fun _ => vI 0, fun _ => vI 0, ?_, ?_, fun i q1 => by omega⟩, ⟨⟨?_, fun _ => vI 0, ?_, fun i q1 => ?_⟩, ?_, fun s q1 => by omega, fun s _ c => ⟨?_, ?_⟩⟩, ⟨?_, fun _ => vI 0, fun _ => vI 0, fun _ => vI 0, ?_, ?_, ?_, fun i q1 => by omega⟩, U14.fr (F15.ag (by decide)), fun d q1 => (O14 d q1).fr (F15.a 45 d 0) (F15.a 46 d 0), ?_⟩
  · by_cases c1 : t < 10
    · rw [A1 _ _ _ (by omega), G1 _ _ _ (by omega)]
    · rw [F15 _ (by simp; omega), G14 _ _ _ (by omega), G13 _ _ _ (by omega), G12 _ _ _ (by omega), G11 _ _ _ (by omega), G10 _ _ _ (by omega), G9 _ _ _ (by omega), G8 _ _ _ (by omega) (by omega), G7 _ _ _ (by omega), G6 _ _ _ (by omega) (by omega), G5 _ _ _ (by omega), G4 _ _ _ (by omega), G3 _ _ _ (by omega), G2 _ _ _ (by omega), G1 _ _ _ (by omega)]
  · rw [A1 _ _ _ (by omega)]; exact k0
  · rw [A1 _ _ _ (by omega)]; exact k1
  · rw [A1 _ _ _ (by omega)]; exact k2
  · have ej : j = 0 := by omega
    subst ej
    rfl
  · refine LsT.nil ?_ (fun c => ?_)
    · rw [A4 _ _ _ (by omega), G4 _ _ _ (by omega), G3 _ _ _ (by omega)]; exact L2
    · show h15 (13, 0, c) = none
      exact A0 _ _ _ (by omega)
  · refine LsT.nil ?_ (fun c => ?_)
    · rw [A4 _ _ _ (by omega), G4 _ _ _ (by omega)]; exact L3
    · show h15 (17, 0, c) = none
      exact A0 _ _ _ (by omega)
  · refine LsT.nil ?_ (fun c => ?_)
    · rw [A4 _ _ _ (by omega)]; exact L4
    · show h15 (27, 0, c) = none
      exact A0 _ _ _ (by omega)
  · rw [A6 _ _ _ (by omega)]; exact m1
  · rw [A6 _ _ _ (by omega), m3 _ (fun q0 => by simp at q0) (fun j a1 q0 => by simp at q0; omega)]
    exact Z5 _ _ _ (by omega) (by omega)
  · rw [A6 _ _ _ (by omega)]; exact m2 a q1
  · rw [A8 _ _ _ (by omega)]; exact n1
  · rw [A8 _ _ _ (by omega), n3 _ (fun q0 => by simp at q0) (fun j a1 q0 => by simp at q0; omega)]
    exact Z7 _ _ _ (by omega) (by omega)
  · rw [A8 _ _ _ (by omega)]; exact n2 a q1
  · rw [A9 _ _ _ (by omega)]; exact o1
  · rw [A9 _ _ _ (by omega)]; exact o2
  · rw [A12 _ _ _ (by omega), x0, h49, h47]
  · rw [A12 _ _ _ (by omega)]; exact x1
  · rw [h49, show nt 0 = 0 from rfl] at q1
    omega
  · exact x2.at (A12 _ _ _ (by omega)) (fun c => A12 _ _ _ (by omega))
  · rw [A12 _ _ _ (by omega)]; exact Z10 _ _ _ (by omega) (by omega)
  · rw [A12 _ _ _ (by omega)]; exact Z10 _ _ _ (by omega) (by omega)
  · rw [A _ _ _ (by omega), G13 _ _ _ (by omega)]; exact p0
  · rw [A _ _ _ (by omega), G13 _ _ _ (by omega)]; assumption
  · rw [A _ _ _ (by omega), G13 _ _ _ (by omega)]; assumption
  · rw [A _ _ _ (by omega), G13 _ _ _ (by omega)]; assumption
  · obtain ⟨y0, g1, g2, g3, y1, y2, y3, y4⟩ := T14.fr (F15.ag (by decide))
    exact ⟨y0, g1, g2, g3, y1, y2, y3, fun i q1 => by omega⟩

/-! the reference's beginning -/
def pF (p : Nat) : Nat → PV := fun k => if mArr k = true then (if k < p then vR (101, k, 0) else vN) else vI 0
def hI (p : Nat) (h : Hp) : Hp := fun n => if n = (100, 0, 0) then some (12, 0, pF p) else if n.1 = 101 ∧ n.2.2 = 0 ∧ mArr n.2.1 = true ∧ n.2.1 < p then some (mKd n.2.1, mLn n.2.1, fun _ => vI 0) else h n
theorem mArr_lt {k : Nat} (h1 : mArr k = true) : k < 52 := Nat.not_le.mp fun z1 => by
  have e1 : mLn k = 0 := by
    unfold mLn
    split <;> first | omega | rfl
  rw [mArr, e1] at h1
  cases h1
theorem hI_n {p k : Nat} {h : Hp} (fr : ∀ k, h (101, k, 0) = none) (h1 : ¬ k < p) : hI p h (101, k, 0) = none := by
  unfold hI
  rw [if_neg (fun q => by cases q), if_neg (fun q => h1 q.2.2.2)]
  exact fr k
theorem hI_oo {p k : Nat} {h : Hp} {c : PC} (h1 : k < 52) : up (hI p h) (101, k, 0) c (100, 0, 0) = some (12, 0, pF p) := by
  rw [up_ne (fun q => by cases q)]
  exact if_pos rfl
theorem i_arr {p k : Nat} {h : Hp} (ha : mArr k = true) (hp : p ≤ k) (hb : ∀ j, j < k → p ≤ j → mArr j = false) : up (up (hI p h) (101, k, 0) (mKd k, mLn k, fun _ => vI 0)) (100, 0, 0) (12, 0, upf (pF p) k (vR (101, k, 0))) = hI (k + 1) h := by
  have lt : ∀ j, mArr j = true → j ≠ k → (j < p ↔ j < k + 1) := fun j h1 h2 => by
    constructor
    · intro h3; omega
    · intro h3
      refine Nat.not_le.mp fun h4 => ?_
      rw [hb j (by omega) h4] at h1
      cases h1
  funext n
  by_cases c1 : n = (100, 0, 0)
  · subst c1
    rw [up_self]
    unfold hI
    rw [if_pos rfl]
    congr 3
    funext j
    unfold upf pF
    by_cases c2 : j = k
    · subst c2
      rw [if_pos rfl, if_pos ha, if_pos (by omega)]
    · rw [if_neg c2]
      by_cases c3 : mArr j = true
      · rw [if_pos c3, if_pos c3]
        by_cases c4 : j < p
        · rw [if_pos c4, if_pos ((lt j c3 c2).mp c4)]
        · rw [if_neg c4, if_neg (fun z => c4 ((lt j c3 c2).mpr z))]
      · rw [if_neg c3, if_neg c3]
  · rw [up_ne c1]
    by_cases c2 : n = (101, k, 0)
    · subst c2
      rw [up_self]
      unfold hI
      rw [if_neg (fun q => by cases q), if_pos ⟨rfl, rfl, ha, by show k < k + 1; omega⟩]
    · rw [up_ne c2]
      unfold hI
      rw [if_neg c1, if_neg c1]
      by_cases c3 : n.1 = 101 ∧ n.2.2 = 0 ∧ mArr n.2.1 = true
      · have nk : n.2.1 ≠ k := fun z => c2 (by obtain ⟨a, b, c⟩ := n; obtain ⟨z1, z2, -⟩ := c3; simp at z1 z2 z; subst z1; subst z2; subst z; rfl)
        by_cases c4 : n.2.1 < p
        · rw [if_pos ⟨c3.1, c3.2.1, c3.2.2, c4⟩, if_pos ⟨c3.1, c3.2.1, c3.2.2, (lt _ c3.2.2 nk).mp c4⟩]
        · rw [if_neg (fun z => c4 z.2.2.2), if_neg (fun z => c4 ((lt _ c3.2.2 nk).mpr z.2.2.2))]
      · rw [if_neg (fun z => c3 ⟨z.1, z.2.1, z.2.2.1⟩), if_neg (fun z => c3 ⟨z.1, z.2.1, z.2.2.1⟩)]
theorem hI_end {p : Nat} {h : Hp} (hp : 52 ≤ p) : hI p h = hM (fun _ _ => 0) h := by
  funext n
  unfold hI hM
  by_cases c1 : n = (100, 0, 0)
  · rw [if_pos c1, if_pos c1]
    congr 3
    funext k
    unfold pF mF
    by_cases c2 : mArr k = true
    · rw [if_pos c2, if_pos c2, if_pos (by have := mArr_lt c2; omega)]
    · rw [if_neg c2, if_neg c2]
  · rw [if_neg c1, if_neg c1]
    by_cases c2 : n.1 = 101 ∧ n.2.2 = 0 ∧ mArr n.2.1 = true
    · rw [if_pos ⟨c2.1, c2.2.1, c2.2.2, by have := mArr_lt c2.2.2; omega⟩, if_pos c2]
    · rw [if_neg (fun z => c2 ⟨z.1, z.2.1, z.2.2.1⟩), if_neg c2]
def tgV : PV → Nat
  | .inl x => if x = 0 then 1 else 0
  | .inr (.inr none) => 2
  | _ => 0
theorem tgV_eq {a b : PV} (h1 : tgV a = tgV b) (h0 : tgV a ≠ 0) : a = b := by
  match a, b with
  | .inl x, .inl y =>
    simp only [tgV] at h1 h0
    by_cases c1 : x = 0
    · by_cases c2 : y = 0
      · rw [c1, c2]
      · rw [if_pos c1, if_neg c2] at h1; omega
    · rw [if_neg c1] at h0; exact absurd rfl h0
  | .inl x, .inr (.inr none) =>
    simp only [tgV] at h1
    by_cases c1 : x = 0
    · rw [if_pos c1] at h1; omega
    · rw [if_neg c1] at h1; omega
  | .inr (.inr none), .inl x =>
    simp only [tgV] at h1
    by_cases c1 : x = 0
    · rw [if_pos c1] at h1; omega
    · rw [if_neg c1] at h1; omega
  | .inr (.inr none), .inr (.inr none) => rfl
  | .inr (.inl _), _ => exact absurd rfl h0
  | .inr (.inr (some _)), _ => exact absurd rfl h0
  | .inl x, .inr (.inl _) =>
    rw [h1] at h0
    exact absurd rfl h0
  | .inl x, .inr (.inr (some _)) =>
    rw [h1] at h0
    exact absurd rfl h0
  | .inr (.inr none), .inr (.inl _) => cases h1
  | .inr (.inr none), .inr (.inr (some _)) => cases h1
theorem pF0 {j : Nat} (hj : j < 52) : pF 0 j = fl (dL 12) j := by
  have h1 : ∀ i : Fin 52, tgV (pF 0 i.1) = tgV (fl (dL 12) i.1) ∧ tgV (pF 0 i.1) ≠ 0 := by decide +kernel
  exact tgV_eq (h1 ⟨j, hj⟩).1 (h1 ⟨j, hj⟩).2
def sI : Sg := us (us (us (fun _ _ => 0) 1 0 (-4)) 0 0 1) 46 0 (-4)
set_option maxRecDepth 100000 in
theorem c_M_init {h : Hp} (e1 : h (100, 0, 0) = some (12, 0, fl (dL 12))) (fr : ∀ k, h (101, k, 0) = none) : Con mM_init 1 40 6000 [vR (100, 0, 0)] h (fun v h' => v = none ∧ h' = hM sI h) := by
  refine c_enter (by decide +kernel) rfl rfl ?_
  refine s_aload_n dM_init_0 rfl rfl ?_
  refine s_objInit dM_init_1 ob_M_1 rfl rfl ?_
  refine s_ext2 (f' := pF 0) e1 (by decide) rfl (fun j hj => pF0 hj) (fun j => ?_) ?_
  · by_cases c1 : j < 52
    · exact Or.inl (pF0 c1)
    · refine Or.inr ⟨0, ?_⟩
      unfold pF
      rw [if_neg (fun z => c1 (mArr_lt z))]
  refine s_hp (h' := hI 0 h) (by
    funext n
    unfold hI
    by_cases c1 : n = (100, 0, 0)
    · subst c1
      rw [up_self, if_pos rfl]
    · rw [up_ne c1, if_neg c1, if_neg (fun z => by omega)]) ?_
  refine s_aload_n dM_init_4 rfl rfl ?_
  refine s_bipush (v := nI 20) dM_init_5 (by decide) ?_
  refine s_newa (101, 1, 0) _ dM_init_7 rfl ⟨Or.inl rfl, ac20⟩ rfl rfl (hI_n fr (by decide)) rfl rfl ?_
  refine s_put dM_init_9 gf_M_7 (hI_oo (by decide)) rfl (Or.inr ⟨rfl, rfl⟩) ⟨_, rfl⟩ ?_
  refine s_hp (i_arr (p := 0) (k := 1) rfl (by decide) (by decide)) ?_
  refine s_aload_n dM_init_12 rfl rfl ?_
  refine s_bipush (v := nI 20) dM_init_13 (by decide) ?_
  refine s_newa (101, 3, 0) _ dM_init_15 rfl ⟨Or.inl rfl, ac20⟩ rfl rfl (hI_n fr (by decide)) rfl rfl ?_
  refine s_put dM_init_17 gf_M_13 (hI_oo (by decide)) rfl (Or.inr ⟨rfl, rfl⟩) ⟨_, rfl⟩ ?_
  refine s_hp (i_arr (p := 2) (k := 3) rfl (by decide) (by decide)) ?_
  refine s_aload_n dM_init_20 rfl rfl ?_
  refine s_bipush (v := nI 80) dM_init_21 (by decide) ?_
  refine s_newa (101, 4, 0) _ dM_init_23 rfl ⟨Or.inl rfl, ac20⟩ rfl rfl (hI_n fr (by decide)) rfl rfl ?_
  refine s_put dM_init_25 gf_M_16 (hI_oo (by decide)) rfl (Or.inr ⟨rfl, rfl⟩) ⟨_, rfl⟩ ?_
  refine s_hp (i_arr (p := 4) (k := 4) rfl (by decide) (by decide)) ?_
  refine s_aload_n dM_init_28 rfl rfl ?_
  refine s_bipush (v := nI 12) dM_init_29 (by decide) ?_
  refine s_newa (101, 6, 0) _ dM_init_31 rfl ⟨Or.inl rfl, ac20⟩ rfl rfl (hI_n fr (by decide)) rfl rfl ?_
  refine s_put dM_init_33 gf_M_19 (hI_oo (by decide)) rfl (Or.inr ⟨rfl, rfl⟩) ⟨_, rfl⟩ ?_
  refine s_hp (i_arr (p := 5) (k := 6) rfl (by decide) (by decide)) ?_
  refine s_aload_n dM_init_36 rfl rfl ?_
  refine s_bipush (v := nI 48) dM_init_37 (by decide) ?_
  refine s_newa (101, 7, 0) _ dM_init_39 rfl ⟨Or.inl rfl, ac20⟩ rfl rfl (hI_n fr (by decide)) rfl rfl ?_
  refine s_put dM_init_41 gf_M_22 (hI_oo (by decide)) rfl (Or.inr ⟨rfl, rfl⟩) ⟨_, rfl⟩ ?_
  refine s_hp (i_arr (p := 7) (k := 7) rfl (by decide) (by decide)) ?_
  refine s_aload_n dM_init_44 rfl rfl ?_
  refine s_bipush (v := nI 60) dM_init_45 (by decide) ?_
  refine s_newa (101, 9, 0) _ dM_init_47 rfl ⟨Or.inl rfl, ac20⟩ rfl rfl (hI_n fr (by decide)) rfl rfl ?_
  refine s_put dM_init_49 gf_M_25 (hI_oo (by decide)) rfl (Or.inr ⟨rfl, rfl⟩) ⟨_, rfl⟩ ?_
  refine s_hp (i_arr (p := 8) (k := 9) rfl (by decide) (by decide)) ?_
  refine s_aload_n dM_init_52 rfl rfl ?_
  refine s_bipush (v := nI 60) dM_init_53 (by decide) ?_
  refine s_newa (101, 10, 0) _ dM_init_55 rfl ⟨Or.inl rfl, ac20⟩ rfl rfl (hI_n fr (by decide)) rfl rfl ?_
  refine s_put dM_init_57 gf_M_28 (hI_oo (by decide)) rfl (Or.inr ⟨rfl, rfl⟩) ⟨_, rfl⟩ ?_
  refine s_hp (i_arr (p := 10) (k := 10) rfl (by decide) (by decide)) ?_
  refine s_aload_n dM_init_60 rfl rfl ?_
  refine s_bipush (v := nI 60) dM_init_61 (by decide) ?_
  refine s_newa (101, 11, 0) _ dM_init_63 rfl ⟨Or.inl rfl, ac20⟩ rfl rfl (hI_n fr (by decide)) rfl rfl ?_
  refine s_put dM_init_65 gf_M_31 (hI_oo (by decide)) rfl (Or.inr ⟨rfl, rfl⟩) ⟨_, rfl⟩ ?_
  refine s_hp (i_arr (p := 11) (k := 11) rfl (by decide) (by decide)) ?_
  refine s_aload_n dM_init_68 rfl rfl ?_
  refine s_sipush (v := nI 720) dM_init_69 (by decide) ?_
  refine s_newa (101, 12, 0) _ dM_init_72 rfl ⟨Or.inl rfl, ac20⟩ rfl rfl (hI_n fr (by decide)) rfl rfl ?_
  refine s_put dM_init_74 gf_M_34 (hI_oo (by decide)) rfl (Or.inr ⟨rfl, rfl⟩) ⟨_, rfl⟩ ?_
  refine s_hp (i_arr (p := 12) (k := 12) rfl (by decide) (by decide)) ?_
  refine s_aload_n dM_init_77 rfl rfl ?_
  refine s_bipush (v := nI 60) dM_init_78 (by decide) ?_
  refine s_newa (101, 13, 0) _ dM_init_80 rfl ⟨Or.inl rfl, ac20⟩ rfl rfl (hI_n fr (by decide)) rfl rfl ?_
  refine s_put dM_init_82 gf_M_37 (hI_oo (by decide)) rfl (Or.inr ⟨rfl, rfl⟩) ⟨_, rfl⟩ ?_
  refine s_hp (i_arr (p := 13) (k := 13) rfl (by decide) (by decide)) ?_
  refine s_aload_n dM_init_85 rfl rfl ?_
  refine s_sipush (v := nI 180) dM_init_86 (by decide) ?_
  refine s_newa (101, 14, 0) _ dM_init_89 rfl ⟨Or.inl rfl, ac20⟩ rfl rfl (hI_n fr (by decide)) rfl rfl ?_
  refine s_put dM_init_91 gf_M_40 (hI_oo (by decide)) rfl (Or.inr ⟨rfl, rfl⟩) ⟨_, rfl⟩ ?_
  refine s_hp (i_arr (p := 14) (k := 14) rfl (by decide) (by decide)) ?_
  refine s_aload_n dM_init_94 rfl rfl ?_
  refine s_bipush (v := nI 60) dM_init_95 (by decide) ?_
  refine s_newa (101, 15, 0) _ dM_init_97 rfl ⟨Or.inl rfl, ac20⟩ rfl rfl (hI_n fr (by decide)) rfl rfl ?_
  refine s_put dM_init_99 gf_M_43 (hI_oo (by decide)) rfl (Or.inr ⟨rfl, rfl⟩) ⟨_, rfl⟩ ?_
  refine s_hp (i_arr (p := 15) (k := 15) rfl (by decide) (by decide)) ?_
  refine s_aload_n dM_init_102 rfl rfl ?_
  refine s_bipush (v := nI 60) dM_init_103 (by decide) ?_
  refine s_newa (101, 16, 0) _ dM_init_105 rfl ⟨Or.inl rfl, ac20⟩ rfl rfl (hI_n fr (by decide)) rfl rfl ?_
  refine s_put dM_init_107 gf_M_46 (hI_oo (by decide)) rfl (Or.inr ⟨rfl, rfl⟩) ⟨_, rfl⟩ ?_
  refine s_hp (i_arr (p := 16) (k := 16) rfl (by decide) (by decide)) ?_
  refine s_aload_n dM_init_110 rfl rfl ?_
  refine s_bipush (v := nI 60) dM_init_111 (by decide) ?_
  refine s_newa (101, 17, 0) _ dM_init_113 rfl ⟨Or.inl rfl, ac20⟩ rfl rfl (hI_n fr (by decide)) rfl rfl ?_
  refine s_put dM_init_115 gf_M_49 (hI_oo (by decide)) rfl (Or.inr ⟨rfl, rfl⟩) ⟨_, rfl⟩ ?_
  refine s_hp (i_arr (p := 17) (k := 17) rfl (by decide) (by decide)) ?_
  refine s_aload_n dM_init_118 rfl rfl ?_
  refine s_bipush (v := nI 60) dM_init_119 (by decide) ?_
  refine s_newa (101, 19, 0) _ dM_init_121 rfl ⟨Or.inl rfl, ac20⟩ rfl rfl (hI_n fr (by decide)) rfl rfl ?_
  refine s_put dM_init_123 gf_M_52 (hI_oo (by decide)) rfl (Or.inr ⟨rfl, rfl⟩) ⟨_, rfl⟩ ?_
  refine s_hp (i_arr (p := 18) (k := 19) rfl (by decide) (by decide)) ?_
  refine s_aload_n dM_init_126 rfl rfl ?_
  refine s_sipush (v := nI 360) dM_init_127 (by decide) ?_
  refine s_newa (101, 22, 0) _ dM_init_130 rfl ⟨Or.inl rfl, ac20⟩ rfl rfl (hI_n fr (by decide)) rfl rfl ?_
  refine s_put dM_init_132 gf_M_55 (hI_oo (by decide)) rfl (Or.inr ⟨rfl, rfl⟩) ⟨_, rfl⟩ ?_
  refine s_hp (i_arr (p := 20) (k := 22) rfl (by decide) (by decide)) ?_
  refine s_aload_n dM_init_135 rfl rfl ?_
  refine s_bipush (v := nI 6) dM_init_136 (by decide) ?_
  refine s_newa (101, 23, 0) _ dM_init_138 rfl ⟨Or.inl rfl, ac20⟩ rfl rfl (hI_n fr (by decide)) rfl rfl ?_
  refine s_put dM_init_140 gf_M_58 (hI_oo (by decide)) rfl (Or.inr ⟨rfl, rfl⟩) ⟨_, rfl⟩ ?_
  refine s_hp (i_arr (p := 23) (k := 23) rfl (by decide) (by decide)) ?_
  refine s_aload_n dM_init_143 rfl rfl ?_
  refine s_bipush (v := nI 6) dM_init_144 (by decide) ?_
  refine s_newa (101, 24, 0) _ dM_init_146 rfl ⟨Or.inl rfl, ac20⟩ rfl rfl (hI_n fr (by decide)) rfl rfl ?_
  refine s_put dM_init_148 gf_M_61 (hI_oo (by decide)) rfl (Or.inr ⟨rfl, rfl⟩) ⟨_, rfl⟩ ?_
  refine s_hp (i_arr (p := 24) (k := 24) rfl (by decide) (by decide)) ?_
  refine s_aload_n dM_init_151 rfl rfl ?_
  refine s_bipush (v := nI 24) dM_init_152 (by decide) ?_
  refine s_newa (101, 25, 0) _ dM_init_154 rfl ⟨Or.inl rfl, ac20⟩ rfl rfl (hI_n fr (by decide)) rfl rfl ?_
  refine s_put dM_init_156 gf_M_64 (hI_oo (by decide)) rfl (Or.inr ⟨rfl, rfl⟩) ⟨_, rfl⟩ ?_
  refine s_hp (i_arr (p := 25) (k := 25) rfl (by decide) (by decide)) ?_
  refine s_aload_n dM_init_159 rfl rfl ?_
  refine s_sipush (v := nI 360) dM_init_160 (by decide) ?_
  refine s_newa (101, 26, 0) _ dM_init_163 rfl ⟨Or.inr rfl, ac21⟩ rfl rfl (hI_n fr (by decide)) rfl rfl ?_
  refine s_put dM_init_165 gf_M_67 (hI_oo (by decide)) rfl (Or.inr ⟨rfl, rfl⟩) ⟨_, rfl⟩ ?_
  refine s_hp (i_arr (p := 26) (k := 26) rfl (by decide) (by decide)) ?_
  refine s_aload_n dM_init_168 rfl rfl ?_
  refine s_bipush (v := nI 6) dM_init_169 (by decide) ?_
  refine s_newa (101, 27, 0) _ dM_init_171 rfl ⟨Or.inr rfl, ac21⟩ rfl rfl (hI_n fr (by decide)) rfl rfl ?_
  refine s_put dM_init_173 gf_M_71 (hI_oo (by decide)) rfl (Or.inr ⟨rfl, rfl⟩) ⟨_, rfl⟩ ?_
  refine s_hp (i_arr (p := 27) (k := 27) rfl (by decide) (by decide)) ?_
  refine s_aload_n dM_init_176 rfl rfl ?_
  refine s_sipush (v := nI 900) dM_init_177 (by decide) ?_
  refine s_newa (101, 28, 0) _ dM_init_180 rfl ⟨Or.inl rfl, ac20⟩ rfl rfl (hI_n fr (by decide)) rfl rfl ?_
  refine s_put dM_init_182 gf_M_74 (hI_oo (by decide)) rfl (Or.inr ⟨rfl, rfl⟩) ⟨_, rfl⟩ ?_
  refine s_hp (i_arr (p := 28) (k := 28) rfl (by decide) (by decide)) ?_
  refine s_aload_n dM_init_185 rfl rfl ?_
  refine s_bipush (v := nI 48) dM_init_186 (by decide) ?_
  refine s_newa (101, 34, 0) _ dM_init_188 rfl ⟨Or.inl rfl, ac20⟩ rfl rfl (hI_n fr (by decide)) rfl rfl ?_
  refine s_put dM_init_190 gf_M_77 (hI_oo (by decide)) rfl (Or.inr ⟨rfl, rfl⟩) ⟨_, rfl⟩ ?_
  refine s_hp (i_arr (p := 29) (k := 34) rfl (by decide) (by decide)) ?_
  refine s_aload_n dM_init_193 rfl rfl ?_
  refine s_bipush (v := nI 18) dM_init_194 (by decide) ?_
  refine s_newa (101, 36, 0) _ dM_init_196 rfl ⟨Or.inl rfl, ac20⟩ rfl rfl (hI_n fr (by decide)) rfl rfl ?_
  refine s_put dM_init_198 gf_M_80 (hI_oo (by decide)) rfl (Or.inr ⟨rfl, rfl⟩) ⟨_, rfl⟩ ?_
  refine s_hp (i_arr (p := 35) (k := 36) rfl (by decide) (by decide)) ?_
  refine s_aload_n dM_init_201 rfl rfl ?_
  refine s_iconst (v := nI 4) dM_init_202 (by decide) ?_
  refine s_newa (101, 38, 0) _ dM_init_203 rfl ⟨Or.inl rfl, ac20⟩ rfl rfl (hI_n fr (by decide)) rfl rfl ?_
  refine s_put dM_init_205 gf_M_83 (hI_oo (by decide)) rfl (Or.inr ⟨rfl, rfl⟩) ⟨_, rfl⟩ ?_
  refine s_hp (i_arr (p := 37) (k := 38) rfl (by decide) (by decide)) ?_
  refine s_aload_n dM_init_208 rfl rfl ?_
  refine s_iconst (v := nI 4) dM_init_209 (by decide) ?_
  refine s_newa (101, 39, 0) _ dM_init_210 rfl ⟨Or.inl rfl, ac20⟩ rfl rfl (hI_n fr (by decide)) rfl rfl ?_
  refine s_put dM_init_212 gf_M_86 (hI_oo (by decide)) rfl (Or.inr ⟨rfl, rfl⟩) ⟨_, rfl⟩ ?_
  refine s_hp (i_arr (p := 39) (k := 39) rfl (by decide) (by decide)) ?_
  refine s_aload_n dM_init_215 rfl rfl ?_
  refine s_bipush (v := nI 8) dM_init_216 (by decide) ?_
  refine s_newa (101, 41, 0) _ dM_init_218 rfl ⟨Or.inl rfl, ac20⟩ rfl rfl (hI_n fr (by decide)) rfl rfl ?_
  refine s_put dM_init_220 gf_M_89 (hI_oo (by decide)) rfl (Or.inr ⟨rfl, rfl⟩) ⟨_, rfl⟩ ?_
  refine s_hp (i_arr (p := 40) (k := 41) rfl (by decide) (by decide)) ?_
  refine s_aload_n dM_init_223 rfl rfl ?_
  refine s_bipush (v := nI 8) dM_init_224 (by decide) ?_
  refine s_newa (101, 42, 0) _ dM_init_226 rfl ⟨Or.inr rfl, ac21⟩ rfl rfl (hI_n fr (by decide)) rfl rfl ?_
  refine s_put dM_init_228 gf_M_92 (hI_oo (by decide)) rfl (Or.inr ⟨rfl, rfl⟩) ⟨_, rfl⟩ ?_
  refine s_hp (i_arr (p := 42) (k := 42) rfl (by decide) (by decide)) ?_
  refine s_aload_n dM_init_231 rfl rfl ?_
  refine s_bipush (v := nI 8) dM_init_232 (by decide) ?_
  refine s_newa (101, 43, 0) _ dM_init_234 rfl ⟨Or.inl rfl, ac20⟩ rfl rfl (hI_n fr (by decide)) rfl rfl ?_
  refine s_put dM_init_236 gf_M_95 (hI_oo (by decide)) rfl (Or.inr ⟨rfl, rfl⟩) ⟨_, rfl⟩ ?_
  refine s_hp (i_arr (p := 43) (k := 43) rfl (by decide) (by decide)) ?_
  refine s_aload_n dM_init_239 rfl rfl ?_
  refine s_bipush (v := nI 16) dM_init_240 (by decide) ?_
  refine s_newa (101, 44, 0) _ dM_init_242 rfl ⟨Or.inl rfl, ac20⟩ rfl rfl (hI_n fr (by decide)) rfl rfl ?_
  refine s_put dM_init_244 gf_M_98 (hI_oo (by decide)) rfl (Or.inr ⟨rfl, rfl⟩) ⟨_, rfl⟩ ?_
  refine s_hp (i_arr (p := 44) (k := 44) rfl (by decide) (by decide)) ?_
  refine s_aload_n dM_init_247 rfl rfl ?_
  refine s_bipush (v := nI 16) dM_init_248 (by decide) ?_
  refine s_newa (101, 45, 0) _ dM_init_250 rfl ⟨Or.inl rfl, ac20⟩ rfl rfl (hI_n fr (by decide)) rfl rfl ?_
  refine s_put dM_init_252 gf_M_101 (hI_oo (by decide)) rfl (Or.inr ⟨rfl, rfl⟩) ⟨_, rfl⟩ ?_
  refine s_hp (i_arr (p := 45) (k := 45) rfl (by decide) (by decide)) ?_
  refine s_aload_n dM_init_255 rfl rfl ?_
  refine s_bipush (v := nI 16) dM_init_256 (by decide) ?_
  refine s_newa (101, 48, 0) _ dM_init_258 rfl ⟨Or.inl rfl, ac20⟩ rfl rfl (hI_n fr (by decide)) rfl rfl ?_
  refine s_put dM_init_260 gf_M_104 (hI_oo (by decide)) rfl (Or.inr ⟨rfl, rfl⟩) ⟨_, rfl⟩ ?_
  refine s_hp (i_arr (p := 46) (k := 48) rfl (by decide) (by decide)) ?_
  refine s_aload_n dM_init_263 rfl rfl ?_
  refine s_bipush (v := nI 120) dM_init_264 (by decide) ?_
  refine s_newa (101, 51, 0) _ dM_init_266 rfl ⟨Or.inl rfl, ac20⟩ rfl rfl (hI_n fr (by decide)) rfl rfl ?_
  refine s_put dM_init_268 gf_M_107 (hI_oo (by decide)) rfl (Or.inr ⟨rfl, rfl⟩) ⟨_, rfl⟩ ?_
  refine s_hp (i_arr (p := 49) (k := 51) rfl (by decide) (by decide)) ?_
  refine s_hp (hI_end (p := 52) (by decide)) ?_
  refine s_aload_n dM_init_271 rfl rfl ?_
  refine s_mga dM_init_272 gf_M_7 rfl ?_
  refine s_iconst (v := 0) dM_init_275 (by decide) ?_
  refine s_top (show (0 : Int32) = nI 0 from rfl) ?_
  refine s_bipush (v := (-4)) dM_init_276 (by decide) ?_
  refine s_mast dM_init_278 rfl rfl (show _ < 20 by omega) rfl ?_
  refine s_aload_n dM_init_279 rfl rfl ?_
  refine s_iconst (v := 1) dM_init_280 (by decide) ?_
  refine s_mpi dM_init_281 gf_M_110 rfl rfl (by first | exact ⟨_, rfl⟩ | exact Or.inl rfl | exact Or.inr rfl) ?_
  refine s_aload_n dM_init_284 rfl rfl ?_
  refine s_bipush (v := (-4)) dM_init_285 (by decide) ?_
  refine s_mpi dM_init_287 gf_M_114 rfl rfl (by first | exact ⟨_, rfl⟩ | exact Or.inl rfl | exact Or.inr rfl) ?_
  refine s_vret dM_init_290 rfl (by first | exact Nat.le_refl _ | decide | omega) (by first | exact Nat.le_refl _ | decide | omega) ?_
  exact ⟨rfl, rfl⟩

