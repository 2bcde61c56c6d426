/-! the law's beginning -/
theorem sI_z {k i : Nat} (h1 : i ≠ 0 ∨ (k ≠ 0 ∧ k ≠ 1 ∧ k ≠ 46)) : sI k i = 0 := by
  unfold sI
  rw [us_o (by omega), us_o (by omega), us_o (by omega)]
theorem GI0 : GI sI (fun _ => []) 1 0 0 0 0 0 0 0 0 0 0 := by
  have z : ∀ k, k ≠ 0 → k ≠ 1 → k ≠ 46 → ∀ i, sI k i = 0 := fun k a b c i => sI_z (by omega)
  refine ⟨⟨⟨by omega, by omega, rfl, fun i a b => by omega⟩, rfl⟩, ⟨⟨by omega, fun s q1 => by omega⟩, rfl, fun i _ => z 4 (by decide) (by decide) (by decide) i⟩, ⟨by omega, rfl, fun b q1 => by omega, fun i _ => z 7 (by decide) (by decide) (by decide) i⟩, ⟨⟨by omega, fun r q1 => by omega⟩, rfl, fun r q1 => by omega, fun r q1 => by omega, fun r q1 => by omega, fun r _ => z 13 (by decide) (by decide) (by decide) r, fun i _ => z 14 (by decide) (by decide) (by decide) i, fun r q1 => by omega⟩, ⟨fun b => ⟨(fun r q1 => by cases q1), List.nodup_nil⟩, fun r q1 => by omega, fun r r' q1 => by omega, rfl, fun r q1 => by omega, fun b _ => ⟨(fun r q1 => by cases q1), fun r q1 => by omega, List.Pairwise.nil⟩⟩, ⟨⟨by omega, fun a k q1 => by omega⟩, rfl⟩, ⟨⟨by omega, fun a k q1 => by omega⟩, rfl⟩, ⟨by omega, rfl, fun i q1 => by omega⟩, ⟨by omega, rfl, fun s q1 => by omega, ⟨by omega, by omega, fun a q1 => by omega⟩, fun a q1 => by omega, ⟨fun _ => 0, fun x q1 => by omega, fun x x' q1 => by omega⟩, fun s _ => ⟨z 42 (by decide) (by decide) (by decide) s, z 43 (by decide) (by decide) (by decide) s⟩, fun i _ => ⟨z 44 (by decide) (by decide) (by decide) i, z 45 (by decide) (by decide) (by decide) i⟩, Or.inl rfl, 0, by omega, rfl⟩, ⟨⟨by omega, fun p q1 => by omega⟩, fun p q q1 q2 => by omega, rfl⟩, rfl, by omega⟩
/-- the heap at the law's beginning: the empty row of lists, the script -/
def hB (L : Nat) (xs : Nat → Int32) : Hp := fun n => if n = (1, 0, 0) then some (28, 0, fun _ => vN) else if n = (0, 0, 0) then some (29, L, fun j => vI (xs j)) else none
theorem hB_n {L : Nat} {xs : Nat → Int32} {t i c : Nat} (h1 : 2 ≤ t) : hB L xs (t, i, c) = none := by
  unfold hB
  rw [if_neg (fun q => by simp at q; omega), if_neg (fun q => by simp at q; omega)]
theorem hB_s {L : Nat} {xs : Nat → Int32} : hB L xs (0, 0, 0) = some (29, L, fun j => vI (xs j)) := by
  unfold hB
  rw [if_neg (fun q => by cases q), if_pos rfl]
theorem s_law {nm : String} {L : Nat} {xs : Nat → Int32} (hL : L ≤ 3584) : S (mLx nm) 40 600000 7302250 (fun v _ => v = some (vI 1)) 0 [some (vR (0, 0, 0)), none, none, none] [] (hB L xs) 0 0 := by
  refine s_newF (10, 0, 0) [vN, vN, vN, vN, vN, vI 0, vN, vI 0, vN, vN, vI 0, vN, vI 0, vN, vN] dL_law_0 nw_L_7 rfl rfl (hB_n (by omega)) rfl rfl ?_
  refine s_dup dL_law_3 rfl ?_
  refine s_callI (As := []) dL_law_4 ci_L_9 (c_X_init (σ := sI) up_self (fun t i c a b => by rw [up_ne (fun q => by simp at q; omega)]; exact hB_n (by omega)) rfl rfl) rfl (Nat.ble_eq_true_of_le (by decide)) (Nat.ble_eq_true_of_le (by show 0 + 15 + 1300 ≤ 7302250; omega)) rfl (fun v0 h1 q0 => ?_)
  obtain ⟨rfl, F1, c1, c2, c3, c4, c5, c6, c7, c8, c9, c10, c11, c12⟩ := q0
  have Z1 : ∀ t i c, 48 ≤ t → h1 (t, i, c) = none := fun t i c a => by rw [F1 _ _ _ (by omega), up_ne (fun q => by simp at q; omega)]; exact hB_n (by omega)
  have S1 : h1 (0, 0, 0) = some (29, L, fun j => vI (xs j)) := by rw [F1 _ _ _ (by omega), up_ne (fun q => by cases q)]; exact hB_s
  refine s_astore_n dL_law_7 rfl rfl ?_
  refine s_newF (100, 0, 0) (dL 12) dL_law_8 nw_L_10 rfl rfl (Z1 _ _ _ (by omega)) (Nat.ble_eq_true_of_le (by decide)) (Nat.ble_eq_true_of_le (by show 0 + 15 + 1300 + 52 ≤ 7302250; omega)) ?_
  refine s_dup dL_law_11 rfl ?_
  refine s_callI (As := []) dL_law_12 ci_L_12 (c_M_init up_self (fun k => by rw [up_ne (fun q => by cases q)]; exact Z1 _ _ _ (by omega))) rfl (Nat.ble_eq_true_of_le (by decide)) (Nat.ble_eq_true_of_le (by show 0 + 15 + 1300 + 52 + 6000 ≤ 7302250; omega)) rfl (fun v0 h2 q0 => ?_)
  obtain ⟨rfl, rfl⟩ := q0
  refine s_astore_n dL_law_15 rfl rfl ?_
  refine s_iconst (v := 0) dL_law_16 (by decide) ?_
  refine s_istore_n dL_law_17 rfl rfl ?_
  have ag : ∀ lo hi, Nat.blt hi 100 = true → agT lo hi h1 (up h1 (100, 0, 0) (12, 0, fl (dL 12))) := fun lo hi a n b d => up_ne (fun q => by
    have e1 : n.1 = 100 := (by rw [q])
    have e2 := Nat.le_of_ble_eq_true a
    omega)
  have K0 : KI (up h1 (100, 0, 0) (12, 0, fl (dL 12))) sI (fun _ => []) 1 0 0 0 0 0 0 0 0 0 := ⟨c1.fr (ag _ _ rfl), c2.fr (ag _ _ rfl) (fun _ => rfl), c3.fr (ag _ _ rfl) (fun _ => rfl), c4.cg (ag _ _ rfl) GI0.2.2.2.1.1 GI0.2.2.2.2.1.1 (fun _ => rfl) (fun _ _ _ _ _ => rfl), c5.fr (ag _ _ rfl) (fun _ => rfl), c6.fr (ag _ _ rfl) (fun _ => rfl), c7.fr (ag _ _ rfl) (fun _ => rfl) (fun _ => rfl), c8.fr (ag _ _ rfl) (fun _ _ _ _ _ => rfl), c9.fr (ag _ _ rfl) (fun _ => rfl), c12.fr (ag _ _ rfl), c10.fr (ag _ _ rfl), fun d q1 => ⟨_, _, (c11 d q1).fr (up_ne (fun q => by cases q)) (up_ne (fun q => by cases q))⟩⟩
  have I0 : LI 0 L xs (hM sI (up h1 (100, 0, 0) (12, 0, fl (dL 12)))) := ⟨sI, fun _ => [], 1, 0, 0, 0, 0, 0, 0, 0, 0, 0, 0, _, rfl, K0.hM GI0.2.2.2.1.1 GI0.2.2.2.2.1.1, GI0, Nat.le_refl _, by rw [hM_ag (lo := 0) (hi := 0) rfl _ (Nat.le_refl _) (Nat.le_refl _), up_ne (fun q => by cases q)]; exact S1⟩
  exact l_law hL 513 0 _ _ _ (by omega) I0 (by decide) (by show 0 + 15 + 1300 + 52 + 6000 ≤ _; omega)
