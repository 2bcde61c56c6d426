/-- a run of a row copied into a row -/
def cpy (f g : Nat → PV) (sp dp n : Nat) : Nat → PV := fun j => if dp ≤ j ∧ j < dp + n then f (sp + (j - dp)) else g j
theorem cpy_tr (ρ : Nm → Nat) (f g : Nat → PV) (sp dp n : Nat) : (fun j => tr ρ (cpy f g sp dp n j)) = va_cpy (fun j => tr ρ (f j)) (fun j => tr ρ (g j)) sp dp n := by
  funext j
  unfold cpy va_cpy
  split <;> rfl
theorem cl_int (z : Int32) (hz : ¬ z < 0) : z.toInt = (z.toNatClampNeg : Int) := by
  have hz0 : (0 : Int) ≤ z.toInt := by
    have := Int32.not_lt.mp hz
    simpa using Int32.le_iff_toInt_le.mp this
  show z.toInt = ((z.toInt.toNat : Nat) : Int)
  omega
/-- an element of a row of objects -/
def isOb (h : Hp) (v : PV) : Prop := v = vN ∨ ∃ (y : Nm) (ci ln : Nat) (fv : Nat → PV), v = vR y ∧ h y = some (ci, ln, fv) ∧ ci < 14 ∧ Cond.castable (cS ci) "java/lang/Object" ∈ NT
section CP
variable {M : MD} {lvl mc ms : Nat} {Q : Option PV → Hp → Prop} {pc pc' tgt : Nat} {lv : List (Option PV)} {st : List PV} {h : Hp} {k n : Nat}
def CY (own : String) (idx : Nat) : Prop := Cond.methodLink own idx arraycopyName ∈ TB ∧ Cond.native arraycopyName ∈ TB ∧ Cond.static arraycopyName ∈ TB ∧ Cond.initialized "java/lang/System" ∈ TB
theorem s_copy0 {idx a ns nd : Nat} {f g0 : Nat → PV} {src dst : Nm} {sp dp m0 : Int32} (d : Dc M pc (.invokestatic idx) 3 pc') (Y : CY M.1.cls idx) (hs : h src = some (a, ns, f)) (hd : h dst = some (a, nd, g0)) (ha : a = 20 ∨ a = 22) (h3 : Nat.ble 2 dst.1 = true)
    (b1 : ¬ sp < 0) (b2 : ¬ dp < 0) (b3 : ¬ m0 < 0) (b4 : sp.toNatClampNeg + m0.toNatClampNeg ≤ ns) (b5 : dp.toNatClampNeg + m0.toNatClampNeg ≤ nd) (hel : ∀ i, i < m0.toNatClampNeg → (a = 20 → ∃ x, f (sp.toNatClampNeg + i) = vI x) ∧ (a = 22 → isOb h (f (sp.toNatClampNeg + i)))) (hl : Nat.ble 1 lvl = true) (h8 : rest8 st = true)
    (kk : S M lvl mc ms Q pc' lv st (up h dst (a, nd, cpy f g0 sp.toNatClampNeg dp.toNatClampNeg m0.toNatClampNeg)) k n) : S M lvl mc ms Q pc lv (vI m0 :: vI dp :: vR dst :: vI sp :: vR src :: st) h k n := by
  intro p l e R s m args below meth c g Qf D0 ρ0 C hR ρ ls H locs hK hL hW hw hlo
  obtain ⟨d, rfl⟩ := d
  have hn : h dst ≠ none := by rw [hd]; exact fun q => by cases q
  have h3 : 2 ≤ dst.1 := Nat.le_of_ble_eq_true h3
  have a1 : ¬ a < 14 := by omega
  have a2 : a < 25 := by omega
  have h20 : Nat.ble 20 a = true := by rcases ha with rfl | rfl <;> rfl
  have h24 : Nat.ble a 24 = true := by rcases ha with rfl | rfl <;> rfl
  obtain ⟨hx, hb, hml, hown, hts, hkb, -, hlv, h9, h10⟩ := id C
  obtain ⟨kA, comp, r1, r2, r3, r4, -⟩ := aK.of hkb h20 h24
  have hc0 := (hw.1 src _ hs).1.ar a1 a2
  have hc1 := (hw.1 dst _ hd).1.ar a1 a2
  have hl' := Nat.le_of_ble_eq_true hl
  have h8' := rest_ok (ρ := ρ) h8 (m := m) (pc := pc) (ls := ls) (r0 := st.map (tr ρ))
  have h9' : (F0 m pc ls (st.map (tr ρ))).monitorRoom = 0 := rfl
  rw [h9'] at h8'
  have hnf : nativeFrameWords "java/lang/System" "arraycopy" 5 ≤ 20 := by decide +kernel
  intro T hT X
  obtain ⟨vm', X', step⟩ := X.arraycopy hx hown (hts _ Y.1) (hts _ Y.2.1) (hts _ Y.2.2.1) (hts _ Y.2.2.2) (src := ρ src) (dst := ρ dst) (srcPos := sp) (destPos := dp) (n := m0) (by rw [hT]; exact hc0) (by rw [hT]; exact hc1)
    (fun _ h => by cases h) (fun _ h => by cases h) (fun h => by cases h) (fun h => by cases h) r1 r1 r2 r2 (by rcases ha with rfl | rfl <;> rfl) b1 b2 b3
    (by rw [cl_int sp b1, cl_int m0 b3, arrV_size]; show ¬ _ > (ns : Int); omega)
    (by rw [cl_int dp b2, cl_int m0 b3, arrV_size]; show ¬ _ > (nd : Int); omega)
    (fun vm₁ hal i hi => by
      have e0 : (arrV (gA g a) ns (fun j => tr ρ (f j))).slots.getD (sp.toNatClampNeg + i) .null = tr ρ (f (sp.toNatClampNeg + i)) := by
        rw [Array.getD_eq_getD_getElem?, arrV_read _ _ (by omega)]
        rfl
      rw [e0]
      rcases ha with rfl | rfl
      · obtain ⟨x, hx0⟩ := (hel i hi).1 rfl
        rw [hx0]
        exact ⟨rfl, trivial⟩
      · rcases (hel i hi).2 rfl with hv | ⟨y, ci, ln, fv, hv, hy, hci, hca⟩
        · rw [hv]
          exact ⟨rfl, trivial⟩
        · rw [hv]
          obtain ⟨cv, q1, q2, q3, -⟩ := (hw.1 y _ hy).1.ob hci
          obtain ⟨-, hfc, kC, hkC, hkind⟩ := hkb.1 ci hci
          have f0 := r4 _ rfl
          obtain ⟨kE, hkE, -⟩ := Vm.findClass_spec f0
          obtain ⟨c0, t0, f1, f2, f3⟩ := Cond.castable_spec (nw_use (args := args) hkb hca)
          cases hfc.symm.trans f1
          cases f0.symm.trans f2
          obtain ⟨kC', hkC', -⟩ := hal.2.2 _ _ hkC
          obtain ⟨kE', hkE', -⟩ := hal.2.2 _ _ hkE
          refine ⟨rfl, cv, (show T.heap[ρ y]? = some cv by rw [hT]; exact q1), (fun q h => by rw [q3] at h; cases h), ⟨kC', by rw [q2]; exact hkC'⟩, ⟨kE', hkE'⟩, ?_⟩
          show vm₁.assignable _ _ = true
          rw [hal.assignable, q2]
          exact f3)
    (g := F0 m pc ls (.int m0 :: .int dp :: .ref (ρ dst) :: .int sp :: .ref (ρ src) :: st.map (tr ρ))) rfl (by rw [hml]; exact hL.1) (rest := st.map (tr ρ)) rfl (by rw [hb]; exact d) (Nat.le_trans hl' hlv.1) (by show 2 * 0 + _ + _ ≤ _; omega)
  have e1 : copied (arrV (gA g a) ns (fun j => tr ρ (f j))) (arrV (gA g a) nd (fun j => tr ρ (g0 j))) sp dp m0 = arrV (gA g a) nd (fun j => tr ρ (cpy f g0 sp.toNatClampNeg dp.toNatClampNeg m0.toNatClampNeg j)) := by
    rw [cpy_tr]
    exact va_copied (fun z => z) (gA g a) (gA g a) (fun j => tr ρ (f j)) (fun j => tr ρ (g0 j)) b4
  have e1' : copied (arrV (gA g ((a, ns, f) : PC).1) ((a, ns, f) : PC).2.1 (fun j => tr ρ (((a, ns, f) : PC).2.2 j))) (arrV (gA g ((a, nd, g0) : PC).1) ((a, nd, g0) : PC).2.1 (fun j => tr ρ (((a, nd, g0) : PC).2.2 j))) sp dp m0 = _ := e1
  rw [e1'] at X' step
  have hlt : ρ dst < H.size := (Array.getElem?_eq_some_iff.mp hc1).1
  generalize hN : arrV (gA g a) nd (fun j => tr ρ (cpy f g0 sp.toNatClampNeg dp.toNatClampNeg m0.toNatClampNeg j)) = N0 at X' step
  have hheap : ((T.setVm vm').setCell (ρ dst) N0).heap = H.setIfInBounds (ρ dst) N0 := by rw [← hT]; rfl
  have oq : ∀ q : Nat, q ≠ ρ dst → (H.setIfInBounds (ρ dst) N0)[q]? = H[q]? := fun q hq => by simp [Array.getElem?_setIfInBounds, Ne.symm hq]
  have hw' : Wd g ρ (up h dst (a, nd, cpy f g0 sp.toNatClampNeg dp.toNatClampNeg m0.toNatClampNeg)) s (H.setIfInBounds (ρ dst) N0) := hw.put hn h3 (cOK.mkAr a1 a2 (by rw [← hN]; simp [Array.getElem?_setIfInBounds, hlt])) (fun j => by
      show wfv h (cpy _ _ _ _ _ j)
      unfold cpy
      split
      · exact (hw.1 src _ hs).2 _
      · exact (hw.1 dst _ hd).2 _) (by simp) oq
  obtain ⟨t, t1, t2⟩ := kk p l e R s m args below meth c g Qf D0 ρ0 C hR ρ ls _ _ (fun x hx => ⟨up_dom (hK x hx).1, (hK x hx).2⟩) (hL.mono fun x hx => ⟨up_dom hx, rfl⟩) (hW.tl.tl.tl.tl.tl.mono fun x hx => up_dom hx) hw' (fun q hq => by
      rcases List.mem_append.mp hq with h | h
      · exact hlo q h
      · obtain ⟨z, -, hz⟩ := List.mem_map.mp h
        rw [← hz]
        exact hw.2.2.1 dst hn h3) _ hheap X'
  exact ⟨t, step t t1, t2⟩
theorem s_ldcI {idx : Nat} {v : Int32} (d : Dc M pc (.ldc idx) 2 pc') (hc : Cond.constant M.1.cls idx v ∈ TB) (kk : S M lvl mc ms Q pc' lv (vI v :: st) h k n) : S M lvl mc ms Q pc lv st h k n := by
  intro p l e R s m args below meth c g Qf D0 ρ0 C hR ρ ls H locs hK hL hW hw hlo
  obtain ⟨d, rfl⟩ := d
  exact lv_ldc C.1 C.2.1 C.2.2.2.1 (C.2.2.2.2.1 _ hc) d (kk p l e R s m args below meth c g Qf D0 ρ0 C hR ρ ls H locs hK hL (hW.cons trivial) hw hlo)
end CP
