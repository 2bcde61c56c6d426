theorem aK.of {g : Gl} {s : State} (hk : KB g s) {a : Nat} (h1 : Nat.ble 20 a = true) (h2 : Nat.ble a 24 = true) : aK s (gA g a) (aY a) := hk.2.1 a (Nat.le_of_ble_eq_true h1) (Nat.lt_succ_of_le (Nat.le_of_ble_eq_true h2))
theorem aK.is {s : State} {cA : ClassId} {ty : FieldType} (h : aK s cA ty) (n : Nat) (z : Nat → Value) : s.isArrayOf (arrV cA n z) ty := by
  obtain ⟨kA, comp, h1, h2, -⟩ := h
  exact ⟨fun q h => (by cases h), kA, h1, comp, h2⟩
theorem arr_in {cA : ClassId} {n : Nat} {z : Nat → Value} {i : Int32} (h : vp_in i n) : ¬ (i < 0 ∨ (arrV cA n z).slots.size ≤ i.toNatClampNeg) := by rw [arrV_size]; exact h
theorem vp_lt {i : Int32} {n : Nat} (h : vp_in i n) : i.toNatClampNeg < n := Nat.not_le.mp fun q => h (Or.inr q)
theorem upf_tr (ρ : Nm → Nat) (f : Nat → PV) (j : Nat) (v : PV) : (fun q => tr ρ (upf f j v q)) = updV (fun q => tr ρ (f q)) j (tr ρ v) := by
  funext q
  unfold upf updV
  split <;> rfl
section AR
variable {M : MD} {lvl mc ms : Nat} {Q : Option PV → Hp → Prop} {pc pc' tgt : Nat} {lv : List (Option PV)} {st : List PV} {h : Hp} {k n : Nat}
theorem s_ald0 {a len : Nat} {f : Nat → PV} {nm : Nm} {i : Int32} {ins : Instr} (hc : h nm = some (a, len, f)) (h1 : Nat.ble 20 a = true) (h2 : Nat.ble a 24 = true)
    (step : ∀ {p : Program} {l : Launch} {e : Env} {R : Room} {s : State} {m : MethodId} {args : Array Value} {below : List Frame} {meth : Method} {c : Code} {H : Heap} {locs : List Loc} {Qf : State → Prop} {ls : Array Slot} {rest : List Value} {x : Nat} {cell : Cell} {v : Value}, p.tables.exec = Jvm.exec → c.code = M.2.1 → H[x]? = some cell → s.isArrayOf cell (aY a) → cell.vm ≠ .unknown → ¬ (i < 0 ∨ cell.slots.size ≤ i.toNatClampNeg) → cell.slots[i.toNatClampNeg]? = some v → W p l e R s m args below meth c H locs k n Qf (F0 m (pc + 1) ls (v :: rest)) → W p l e R s m args below meth c H locs k n Qf (F0 m pc ls (.int i :: .ref x :: rest)))
    (hi : vp_in i len) (kk : S M lvl mc ms Q (pc + 1) lv (f i.toNatClampNeg :: st) h k n) : S M lvl mc ms Q pc lv (vI i :: vR nm :: st) h k n := by
  intro p l e R s m args below meth c g Qf D0 ρ0 C hR ρ ls H locs hK hL hW hw hlo
  have k1 := kk p l e R s m args below meth c g Qf D0 ρ0 C hR ρ ls H locs hK hL (hW.tl.tl.cons ((hw.1 nm _ hc).2 _)) hw hlo
  have hcell := (hw.1 nm _ hc).1.ar (Nat.not_lt.mpr (Nat.le_trans (by decide) (Nat.le_of_ble_eq_true h1))) (Nat.lt_succ_of_le (Nat.le_of_ble_eq_true h2))
  exact step C.1 C.2.1 hcell ((aK.of C.2.2.2.2.2.1 h1 h2).is _ _) (fun q => by cases q) (arr_in hi) (by rw [arrV_read _ _ (vp_lt hi)]) k1
theorem s_iald {len : Nat} {f : Nat → PV} {nm : Nm} {i : Int32} (d : Dc M pc .iaload 1 pc') (hc : h nm = some (20, len, f)) (hi : vp_in i len) (kk : S M lvl mc ms Q pc' lv (f i.toNatClampNeg :: st) h k n) : S M lvl mc ms Q pc lv (vI i :: vR nm :: st) h k n := by
  obtain ⟨d, rfl⟩ := d
  exact s_ald0 (ins := .iaload) hc rfl rfl (fun a1 a2 a3 a4 a5 a6 a7 a8 => W.iald a1 a2 a3 a4 a5 a6 a7 rfl rfl d a8) hi kk
theorem s_zald {len : Nat} {f : Nat → PV} {nm : Nm} {i : Int32} (d : Dc M pc .baload 1 pc') (hc : h nm = some (21, len, f)) (hi : vp_in i len) (kk : S M lvl mc ms Q pc' lv (f i.toNatClampNeg :: st) h k n) : S M lvl mc ms Q pc lv (vI i :: vR nm :: st) h k n := by
  obtain ⟨d, rfl⟩ := d
  exact s_ald0 (ins := .baload) hc rfl rfl (fun a1 a2 a3 a4 a5 a6 a7 a8 => W.zald a1 a2 a3 a4 a5 a6 a7 rfl rfl d a8) hi kk
theorem s_aald {a len : Nat} {f : Nat → PV} {nm : Nm} {i : Int32} (d : Dc M pc .aaload 1 pc') (hc : h nm = some (a, len, f)) (h1 : Nat.ble 22 a = true) (h2 : Nat.ble a 24 = true) (hi : vp_in i len) (kk : S M lvl mc ms Q pc' lv (f i.toNatClampNeg :: st) h k n) : S M lvl mc ms Q pc lv (vI i :: vR nm :: st) h k n := by
  obtain ⟨d, rfl⟩ := d
  have hy : (aY a).isReference = true := by
    have h3 := Nat.le_of_ble_eq_true h1
    have h4 := Nat.le_of_ble_eq_true h2
    rcases (show a = 22 ∨ a = 23 ∨ a = 24 by omega) with rfl | rfl | rfl <;> rfl
  exact s_ald0 (ins := .aaload) hc (Nat.ble_eq.mpr (Nat.le_trans (by decide) (Nat.le_of_ble_eq_true h1))) h2 (fun a1 a2 a3 a4 a5 a6 a7 a8 => W.aald a1 a2 a3 a4 hy a5 a6 a7 rfl rfl d a8) hi kk
/-- the script -/
theorem s_sald {len : Nat} {f : Nat → PV} {nm : Nm} {i : Int32} (d : Dc M pc .iaload 1 pc') (hc : h nm = some (29, len, f)) (hi : vp_in i len) (kk : S M lvl mc ms Q pc' lv (f i.toNatClampNeg :: st) h k n) : S M lvl mc ms Q pc lv (vI i :: vR nm :: st) h k n := by
  intro p l e R s m args below meth c g Qf D0 ρ0 C hR ρ ls H locs hK hL hW hw hlo
  obtain ⟨d, rfl⟩ := d
  have k1 := kk p l e R s m args below meth c g Qf D0 ρ0 C hR ρ ls H locs hK hL (hW.tl.tl.cons ((hw.1 nm _ hc).2 _)) hw hlo
  have hcell := (hw.1 nm _ hc).1
  unfold cOK at hcell
  rw [if_neg (show ¬ (29 < 14) by decide), if_neg (show ¬ (29 < 25) by decide)] at hcell
  obtain ⟨cell, q1, q2, q3, q4, q5, q6⟩ := hcell
  obtain ⟨kA, comp, r1, r2⟩ := C.2.2.2.2.2.1.2.2.2.1
  exact W.iald C.1 C.2.1 q1 ⟨q4, kA, by rw [q2]; exact r1, comp, r2⟩ q3 (by rw [q5]; exact hi) (q6 _ (vp_lt hi)) rfl rfl d k1
theorem s_alen {a len : Nat} {f : Nat → PV} {nm : Nm} (d : Dc M pc .arraylength 1 pc') (hc : h nm = some (a, len, f)) (h1 : Nat.ble 20 a = true) (h2 : Nat.ble a 24 = true ∨ a = 28 ∨ a = 29) (kk : S M lvl mc ms Q pc' lv (vI (nI len) :: st) h k n) : S M lvl mc ms Q pc lv (vR nm :: st) h k n := by
  intro p l e R s m args below meth c g Qf D0 ρ0 C hR ρ ls H locs hK hL hW hw hlo
  obtain ⟨d, rfl⟩ := d
  have k1 := kk p l e R s m args below meth c g Qf D0 ρ0 C hR ρ ls H locs hK hL (hW.tl.cons trivial) hw hlo
  have hcell := (hw.1 nm _ hc).1
  rcases h2 with h2 | h2
  · exact W.alen C.1 C.2.1 (hcell.ar (Nat.not_lt.mpr (Nat.le_trans (by decide) (Nat.le_of_ble_eq_true h1))) (Nat.lt_succ_of_le (Nat.le_of_ble_eq_true h2))) ((aK.of C.2.2.2.2.2.1 h1 h2).is _ _) (by rw [arrV_size]; rfl) rfl rfl d k1
  · unfold cOK at hcell
    rw [if_neg (show ¬ a < 14 by omega), if_neg (show ¬ a < 25 by omega)] at hcell
    obtain ⟨cell, q1, q2, q3, q4, q5, q6⟩ := hcell
    rcases h2 with rfl | rfl
    · obtain ⟨kA, comp, r1, r2, -⟩ := aK.of (a := 22) C.2.2.2.2.2.1 rfl rfl
      exact W.alen (ty := aY 22) C.1 C.2.1 q1 ⟨q4, kA, by rw [q2]; show s.vm.classes[gA g 28]? = _; rw [C.2.2.2.2.2.1.2.2.1]; exact r1, comp, r2⟩ (by rw [q5]; rfl) rfl rfl d k1
    · obtain ⟨kA, comp, r1, r2⟩ := C.2.2.2.2.2.1.2.2.2.1
      exact W.alen (ty := .int) C.1 C.2.1 q1 ⟨q4, kA, by rw [q2]; exact r1, comp, r2⟩ (by rw [q5]; rfl) rfl rfl d k1
theorem s_ast0 {a len : Nat} {f : Nat → PV} {nm : Nm} {i : Int32} {v w : PV} (hc : h nm = some (a, len, f)) (h1 : Nat.ble 20 a = true) (h2 : Nat.ble a 24 = true) (h3 : Nat.ble 2 nm.1 = true)
    (step : ∀ {p : Program} {l : Launch} {e : Env} {R : Room} {s : State} {m : MethodId} {args : Array Value} {below : List Frame} {meth : Method} {c : Code} {g : Gl} {ρ : Nm → Nat} {H : Heap} {locs : List Loc} {Qf : State → Prop} {ls : Array Slot} {rest : List Value} {x : Nat} {cell : Cell}, Cx M lvl mc ms p R s m args meth c g → Wd g ρ h s H → wfv h v → H[x]? = some cell → cell.cls = gA g a → cell.vm = .none → s.isArrayOf cell (aY a) → ¬ (i < 0 ∨ cell.slots.size ≤ i.toNatClampNeg) → (∀ H' : Heap, H'[x]? = some (cell.setSlot i.toNatClampNeg (tr ρ w)) → H'.size = H.size → (∀ q, q ≠ x → H'[q]? = H[q]?) → W p l e R s m args below meth c H' (locs ++ [⟨x, i.toNatClampNeg⟩]) k n Qf (F0 m (pc + 1) ls rest)) → W p l e R s m args below meth c H locs k n Qf (F0 m pc ls (tr ρ v :: .int i :: .ref x :: rest)))
    (hww : wfv h v → wfv h w) (hi : vp_in i len) (kk : S M lvl mc ms Q (pc + 1) lv st (up h nm (a, len, upf f i.toNatClampNeg w)) k n) : S M lvl mc ms Q pc lv (v :: vI i :: vR nm :: st) h k n := by
  intro p l e R s m args below meth c g Qf D0 ρ0 C hR ρ ls H locs hK hL hW hw hlo
  have hn : h nm ≠ none := by rw [hc]; exact fun q => by cases q
  have h3 : 2 ≤ nm.1 := Nat.le_of_ble_eq_true h3
  have a1 : ¬ a < 14 := Nat.not_lt.mpr (Nat.le_trans (by decide) (Nat.le_of_ble_eq_true h1))
  have a2 : a < 25 := Nat.lt_succ_of_le (Nat.le_of_ble_eq_true h2)
  have hcell := (hw.1 nm _ hc).1.ar a1 a2
  refine step (x := ρ nm) C hw hW.hd hcell rfl rfl ((aK.of C.2.2.2.2.2.1 h1 h2).is _ _) (arr_in hi) fun H' e1 e2 e3 => ?_
  refine kk p l e R s m args below meth c g Qf D0 ρ0 C hR ρ ls H' _ (fun x hx => ⟨up_dom (hK x hx).1, (hK x hx).2⟩) (hL.mono fun x hx => ⟨up_dom hx, rfl⟩) (hW.tl.tl.tl.mono fun x hx => up_dom hx) (hw.put hn h3 (cOK.mkAr a1 a2 ?_) (fun j => ?_) e2 e3) (t_lc hlo (hw.2.2.1 nm hn h3))
  · rw [e1, arrV_store]
    show some _ = some (arrV (gA g a) len (fun q => tr ρ (upf f i.toNatClampNeg w q)))
    rw [upf_tr]
  · show wfv h (upf f _ w j)
    unfold upf
    split
    · exact hww hW.hd
    · exact (hw.1 nm _ hc).2 j
theorem s_iast {len : Nat} {f : Nat → PV} {nm : Nm} {i x : Int32} (d : Dc M pc .iastore 1 pc') (hc : h nm = some (20, len, f)) (h3 : Nat.ble 2 nm.1 = true) (hi : vp_in i len) (kk : S M lvl mc ms Q pc' lv st (up h nm (20, len, upf f i.toNatClampNeg (vI x))) k n) : S M lvl mc ms Q pc lv (vI x :: vI i :: vR nm :: st) h k n := by
  obtain ⟨d, rfl⟩ := d
  exact s_ast0 (v := vI x) (w := vI x) hc rfl rfl h3 (fun C _ _ a3 _ a5 a6 a7 a8 => W.iast C.1 C.2.1 a3 a6 (by rw [a5]; exact fun q => by cases q) a7 rfl rfl d a8) id hi kk
theorem s_zast {len : Nat} {f : Nat → PV} {nm : Nm} {i x : Int32} (d : Dc M pc .bastore 1 pc') (hc : h nm = some (21, len, f)) (h3 : Nat.ble 2 nm.1 = true) (hx : x = 0 ∨ x = 1) (hi : vp_in i len) (kk : S M lvl mc ms Q pc' lv st (up h nm (21, len, upf f i.toNatClampNeg (vI x))) k n) : S M lvl mc ms Q pc lv (vI x :: vI i :: vR nm :: st) h k n := by
  obtain ⟨d, rfl⟩ := d
  have hb : narrow .boolean (.int x) = .int x := by rcases hx with rfl | rfl <;> decide +kernel
  exact s_ast0 (v := vI x) (w := vI x) hc rfl rfl h3 (fun C _ _ a3 _ a5 a6 a7 a8 => W.zast C.1 C.2.1 a3 a6 (by rw [a5]; exact fun q => by cases q) a7 rfl rfl d (fun H' q1 q2 q3 => a8 H' (by rw [q1]; show some (Cell.setSlot _ _ _) = some (Cell.setSlot _ _ (.int x)); first | rw [hb] | (congr 2)) q2 q3)) id hi kk
end AR
