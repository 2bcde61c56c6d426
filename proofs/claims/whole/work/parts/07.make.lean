section MK
variable {M : MD} {lvl mc ms : Nat} {Q : Option PV → Hp → Prop} {pc pc' tgt : Nat} {lv : List (Option PV)} {st : List PV} {h : Hp} {k n : Nat}
/-- an object of class ci may lie in a row of kind a -/
def asT (a ci : Nat) : Prop := (a = 22 ∧ Cond.castable (cS ci) "java/lang/Object" ∈ NT) ∨ (a = 24 ∧ ci = 3)
theorem s_aast {a len : Nat} {f : Nat → PV} {nm vn : Nm} {ci ln : Nat} {fv : Nat → PV} {i : Int32} (d : Dc M pc .aastore 1 pc') (hc : h nm = some (a, len, f)) (h3 : Nat.ble 2 nm.1 = true) (hv : h vn = some (ci, ln, fv)) (hci : ci < 14) (ha : asT a ci) (hi : vp_in i len) (kk : S M lvl mc ms Q pc' lv st (up h nm (a, len, upf f i.toNatClampNeg (vR vn))) k n) : S M lvl mc ms Q pc lv (vR vn :: vI i :: vR nm :: st) h k n := by
  obtain ⟨d, rfl⟩ := d
  have h1 : Nat.ble 20 a = true := by rcases ha with ⟨rfl, -⟩ | ⟨rfl, -⟩ <;> rfl
  have h2 : Nat.ble a 24 = true := by rcases ha with ⟨rfl, -⟩ | ⟨rfl, -⟩ <;> rfl
  refine s_ast0 (v := vR vn) (w := vR vn) hc h1 h2 h3 (fun {p l e R s m args below meth c g ρ H locs Qf ls rest x cell} C hw _ a3 a4 a5 a6 a7 a8 => ?_) id hi kk
  obtain ⟨cv, q1, q2, q3, -⟩ := (hw.1 vn _ hv).1.ob hci
  obtain ⟨-, hfc, kC, hkC, hkind⟩ := C.2.2.2.2.2.1.1 ci hci
  obtain ⟨kA, comp, r1, r2, r3, r4, r5⟩ := aK.of C.2.2.2.2.2.1 h1 h2
  have hcls : s.vm.findClass (cS ci) = some cv.cls := by rw [q2]; exact hfc
  have key : ∃ E kE, aY a = .object E ∧ s.vm.findClass E = some comp ∧ s.vm.classes[comp]? = some kE ∧ s.vm.assignable cv.cls comp = true := by
    rcases ha with ⟨rfl, hca⟩ | ⟨rfl, rfl⟩
    · have f0 := r4 _ rfl
      obtain ⟨kE, hkE, -⟩ := Vm.findClass_spec f0
      obtain ⟨c0, t0, f1, f2, f3⟩ := Cond.castable_spec (nw_use (args := args) C.2.2.2.2.2.1 hca)
      cases hcls.symm.trans f1
      cases f0.symm.trans f2
      exact ⟨_, kE, rfl, f0, hkE, f3⟩
    · have f0 := r4 _ rfl
      have e0 : comp = cv.cls := Option.some.inj (f0.symm.trans hcls)
      subst e0
      refine ⟨_, kC, rfl, f0, by rw [q2]; exact hkC, ?_⟩
      exact va_assign (C := cS 3) ⟨hcls, kC, by rw [q2]; exact hkC, hkind⟩
  obtain ⟨E, kE, hE, f0, hkE, hasg⟩ := key
  exact W.aast C.1 C.2.1 a3 (by rw [a5]; exact fun q h => by cases h) (by rw [a5]; exact fun h => by cases h) (by rw [a4]; exact r1) r2 (by rw [hE]; rfl) hkE ⟨fun q => a7 (Or.inl q), Nat.not_le.mp fun q => a7 (Or.inr q)⟩ q1 (fun q h => by rw [q3] at h; cases h) (by rw [q2]; exact hkC) hasg rfl rfl d a8
theorem s_aastN {len : Nat} {f : Nat → PV} {nm : Nm} {i : Int32} (d : Dc M pc .aastore 1 pc') (hc : h nm = some (22, len, f)) (h3 : Nat.ble 2 nm.1 = true) (hi : vp_in i len) (kk : S M lvl mc ms Q pc' lv st (up h nm (22, len, upf f i.toNatClampNeg vN)) k n) : S M lvl mc ms Q pc lv (vN :: vI i :: vR nm :: st) h k n := by
  obtain ⟨d, rfl⟩ := d
  exact s_ast0 (v := vN) (w := vN) hc rfl rfl h3 (fun C hw _ a3 a4 a5 a6 a7 a8 => va_WaastN (C := "java/lang/Object") C.1 C.2.1 a3 a6 (by rw [a5]; exact fun q => by cases q) a7 rfl rfl d a8) id hi kk
/-- a row of ints into a row of rows of ints -/
theorem s_aastA {len ln : Nat} {f fv : Nat → PV} {nm vn : Nm} {i : Int32} (d : Dc M pc .aastore 1 pc') (hc : h nm = some (23, len, f)) (h3 : Nat.ble 2 nm.1 = true) (hv : h vn = some (20, ln, fv)) (hi : vp_in i len) (kk : S M lvl mc ms Q pc' lv st (up h nm (23, len, upf f i.toNatClampNeg (vR vn))) k n) : S M lvl mc ms Q pc lv (vR vn :: vI i :: vR nm :: st) h k n := by
  obtain ⟨d, rfl⟩ := d
  refine s_ast0 (v := vR vn) (w := vR vn) hc rfl rfl h3 (fun {p l e R s m args below meth c g ρ H locs Qf ls rest x cell} C hw _ a3 a4 a5 a6 a7 a8 => ?_) id hi kk
  have q1 := (hw.1 vn _ hv).1.ar (show ¬ (20 : Nat) < 14 by decide) (show (20 : Nat) < 25 by decide)
  obtain ⟨kA, comp, r1, r2, r3, r4, r5⟩ := aK.of (a := 23) C.2.2.2.2.2.1 rfl rfl
  obtain ⟨kB, comB, t1, t2, t3, -⟩ := aK.of (a := 20) C.2.2.2.2.2.1 rfl rfl
  have f0 := r5 _ rfl
  have e0 : gA g 20 = comp := Option.some.inj (t3.symm.trans f0)
  subst e0
  exact W.aast C.1 C.2.1 a3 (by rw [a5]; exact fun q h => by cases h) (by rw [a5]; exact fun h => by cases h) (by rw [a4]; exact r1) r2 rfl t1 ⟨fun q => a7 (Or.inl q), Nat.not_le.mp fun q => a7 (Or.inr q)⟩ q1 (fun q h => by cases h) t1 (show s.vm.assignable (gA g 20) (gA g 20) = true by show s.vm.assignableAux (255 + 1) _ _ = true; rw [Vm.assignableAux, beq_self_eq_true, Bool.true_or]) rfl rfl d a8
/-- new: a name is chosen -/
def dfl (ci : Nat) : Nat → PV := fun j => match cY ci j with
  | .int => vI 0
  | .boolean => vI 0
  | .long => vL 0
  | _ => vN
theorem cls_df : ∀ ci, ci < 14 → ∀ j, j < cN ci → ∀ ρ : Nm → Nat, tr ρ (dfl ci j) = defaultValue (cY ci j) := by
  have h : ∀ ci, ci < 14 → ∀ j, j < cN ci → (cY ci j = .int ∨ cY ci j = .boolean ∨ cY ci j = .long ∨ (∃ C, cY ci j = .object C) ∨ ∃ t, cY ci j = .array t) := by
    have h0 : ∀ ci, ci < 14 → ∀ j, j < cN ci → (match cY ci j with | .int => true | .boolean => true | .long => true | .object _ => true | .array _ => true | _ => false) = true := by decide +kernel
    intro ci hc j hj
    have h1 := h0 ci hc j hj
    cases hy : cY ci j <;> simp [hy] at h1 ⊢
  intro ci hc j hj ρ
  unfold dfl
  rcases h ci hc j hj with e | e | e | ⟨C, e⟩ | ⟨t, e⟩ <;> rw [e] <;> rfl
theorem dfl_wf (ci j : Nat) (h : Hp) : wfv h (dfl ci j) := by
  unfold dfl
  split <;> trivial
def NW (own : String) (idx ci : Nat) : Prop := ci < 14 ∧ Cond.classLink own idx (cS ci) ∈ TB ∧ Cond.instantiable (cS ci) (cN ci) ∈ TB ∧ Cond.initialized (cS ci) ∈ TB
theorem s_new {idx ci : Nat} (nm : Nm) (d : Dc M pc (.new idx) 3 pc') (N : NW M.1.cls idx ci) (hn : h nm = none) (h1 : Nat.ble (k + 1) mc = true) (h2 : Nat.ble (n + cN ci) ms = true) (kk : S M lvl mc ms Q pc' lv (vR nm :: st) (up h nm (ci, 0, dfl ci)) (k + 1) (n + cN ci)) : S M lvl mc ms Q pc lv st h k n := by
  intro p l e R s m args below meth c g Qf D0 ρ0 C hR ρ ls H locs hK hL hW hw hlo
  obtain ⟨d, rfl⟩ := d
  obtain ⟨n1, n2, n3, n4⟩ := N
  have re : ∀ m, h m ≠ none → upr ρ nm H.size m = ρ m := fun m hm => if_neg fun q => hm (by rw [q]; exact hn)
  obtain ⟨hx, hb, -, hown, hts, hkb, -, -, h9, h10⟩ := id C
  have hKn := hkb.1 ci n1
  refine W.newcK hx hb hown (hts _ n2) (hts _ n3) (hts _ n4) rfl d (Nat.le_trans (Nat.le_of_ble_eq_true h1) h9) (Nat.le_trans (Nat.le_of_ble_eq_true h2) h10) hKn.2.1 rfl fun H1 kC hkC e1 z1 o1 => ?_
  have hw' : Wd g (upr ρ nm H.size) (up h nm (ci, 0, dfl ci)) s H1 := hw.mk hn (cOK.mkOb n1 ((u_born (cY ci) hts (cls_in ci n1) hKn hkC e1 (cls_ty ci n1)).to fun j hj => (cls_df ci n1 j hj _).symm)) (fun j => dfl_wf ci j h) (by omega) o1
  have k1 := kk p l e R s m args below meth c g Qf D0 ρ0 C hR (upr ρ nm H.size) ls H1 locs (fun x hx => ⟨up_dom (hK x hx).1, by rw [re x (hK x hx).1]; exact (hK x hx).2⟩) (hL.mono fun x hx => ⟨up_dom hx, re x hx⟩) ((hW.mono fun x hx => up_dom hx).cons (show up h nm _ nm ≠ none by rw [up_self]; exact fun q => by cases q)) hw' hlo
  have e2 : (vR nm :: st).map (tr (upr ρ nm H.size)) = .ref H.size :: st.map (tr ρ) := by
    show tr _ (vR nm) :: _ = _
    rw [hW.trs re]
    show Value.ref (upr ρ nm H.size nm) :: _ = _
    unfold upr
    rw [if_pos rfl]
  rw [e2] at k1
  exact k1
theorem s_newa {a : Nat} {at0 : ArrayType} {x : Int32} (nm : Nm) (N : Nat) (d : Dc M pc (.newarray at0) 2 pc') (hy : newarray.typeOf at0 = aY a) (ha : (a = 20 ∨ a = 21) ∧ Cond.arrayClass (aY a) ∈ TB) (hx0 : x = nI N) (hN : Nat.ble N 10000 = true) (hn : h nm = none) (h1 : Nat.ble (k + 1) mc = true) (h2 : Nat.ble (n + N) ms = true) (kk : S M lvl mc ms Q pc' lv (vR nm :: st) (up h nm (a, N, fun _ => vI 0)) (k + 1) (n + N)) : S M lvl mc ms Q pc lv (vI x :: st) h k n := by
  intro p l e R s m args below meth c g Qf D0 ρ0 C hR ρ ls H locs hK hL hW hw hlo
  obtain ⟨d, rfl⟩ := d
  obtain ⟨a1, a2⟩ := ha
  have re : ∀ m, h m ≠ none → upr ρ nm H.size m = ρ m := fun m hm => if_neg fun q => hm (by rw [q]; exact hn)
  obtain ⟨hx, hb, -, hown, hts, hkb, -, -, h9, h10⟩ := id C
  have hN' : N ≤ 10000 := Nat.le_of_ble_eq_true hN
  have hcl : x.toNatClampNeg = N := by rw [hx0]; exact nI_clamp (by omega)
  have hcb : N * componentBytes (newarray.typeOf at0) ≤ 536870912 := by
    rw [hy]
    rcases a1 with rfl | rfl
    · show N * componentBytes .int ≤ _
      rw [show componentBytes .int = 4 by decide]
      omega
    · show N * componentBytes .boolean ≤ _
      rw [show componentBytes .boolean = 1 by decide]
      omega
  have h20 : Nat.ble 20 a = true := by rcases a1 with rfl | rfl <;> rfl
  have h24 : Nat.ble a 24 = true := by rcases a1 with rfl | rfl <;> rfl
  obtain ⟨kA, comp, r1, r2, r3, -⟩ := aK.of hkb h20 h24
  refine va_newaK hx hb (by rw [hy]; exact hts _ a2) rfl d rfl (by rw [hx0]; exact nI_pos (by omega)) hcl hcb (Nat.le_trans (Nat.le_of_ble_eq_true h1) h9) (Nat.le_trans (Nat.le_of_ble_eq_true h2) h10) rfl fun H1 cA e1 z1 o1 _ hNm => ?_
  rw [hy] at hNm e1
  have ecA : cA = gA g a := Option.some.inj (hNm.symm.trans r3)
  subst ecA
  have hdv : defaultValue (aY a) = .int 0 := by rcases a1 with rfl | rfl <;> rfl
  rw [hdv] at e1
  have hw' : Wd g (upr ρ nm H.size) (up h nm (a, N, fun _ => vI 0)) s H1 := hw.mk hn (cOK.mkAr (by show ¬ a < 14; omega) (by show a < 25; omega) e1) (fun j => trivial) (by omega) o1
  have k1 := kk p l e R s m args below meth c g Qf D0 ρ0 C hR (upr ρ nm H.size) ls H1 locs (fun x hx => ⟨up_dom (hK x hx).1, by rw [re x (hK x hx).1]; exact (hK x hx).2⟩) (hL.mono fun x hx => ⟨up_dom hx, re x hx⟩) ((hW.tl.mono fun x hx => up_dom hx).cons (show up h nm _ nm ≠ none by rw [up_self]; exact fun q => by cases q)) hw' hlo
  have e2 : (vR nm :: st).map (tr (upr ρ nm H.size)) = .ref H.size :: st.map (tr ρ) := by
    show tr _ (vR nm) :: _ = _
    rw [hW.tl.trs re]
    show Value.ref (upr ρ nm H.size nm) :: _ = _
    unfold upr
    rw [if_pos rfl]
  rw [e2] at k1
  exact k1
theorem s_anew {a idx : Nat} {C0 : String} {x : Int32} (nm : Nm) (N : Nat) (d : Dc M pc (.anewarray idx) 3 pc') (ha : (a = 22 ∨ a = 24) ∧ aY a = .object C0 ∧ Cond.classLink M.1.cls idx C0 ∈ TB) (hx0 : x = nI N) (hN : N ≤ 10000) (hn : h nm = none) (h1 : k + 1 ≤ mc) (h2 : n + N ≤ ms) (kk : S M lvl mc ms Q pc' lv (vR nm :: st) (up h nm (a, N, fun _ => vN)) (k + 1) (n + N)) : S M lvl mc ms Q pc lv (vI x :: st) h k n := by
  intro p l e R s m args below meth c g Qf D0 ρ0 C hR ρ ls H locs hK hL hW hw hlo
  obtain ⟨d, rfl⟩ := d
  obtain ⟨a1, a2, a3⟩ := ha
  have re : ∀ m, h m ≠ none → upr ρ nm H.size m = ρ m := fun m hm => if_neg fun q => hm (by rw [q]; exact hn)
  obtain ⟨hx, hb, -, hown, hts, hkb, -, -, h9, h10⟩ := id C
  have hcl : x.toNatClampNeg = N := by rw [hx0]; exact nI_clamp (by omega)
  have h20 : Nat.ble 20 a = true := by rcases a1 with rfl | rfl <;> rfl
  have h24 : Nat.ble a 24 = true := by rcases a1 with rfl | rfl <;> rfl
  obtain ⟨kA, comp, r1, r2, r3, -⟩ := aK.of hkb h20 h24
  have hov : va_AO C0 s := by
    rcases a1 with rfl | rfl
    · have e0 : FieldType.object "java/lang/Object" = .object C0 := a2
      cases e0
      exact hkb.2.2.2.2.2.1
    · have e0 : FieldType.object "RuleBooks$OwnState" = .object C0 := a2
      cases e0
      exact hkb.2.2.2.2.2.2.1
  refine W.anew hx hb hown (hts _ a3) (va_AO.use hov) rfl d rfl (by rw [hx0]; exact nI_pos (by omega)) (by rw [hcl]; omega) (Nat.le_trans h1 h9) (by rw [hcl]; exact Nat.le_trans h2 h10) fun cA kA' comp' f1 f2 f3 f4 => ?_
  rw [hcl]
  rw [← a2] at f1
  have ecA : cA = gA g a := Option.some.inj (f1.symm.trans r3)
  subst ecA
  generalize hH1 : H.push ({ cls := gA g a, slots := Array.replicate N .null, vm := .none } : Cell) = H1
  have z1 : H1.size = H.size + 1 := by rw [← hH1, Array.size_push]
  have e1 : H1[H.size]? = some (arrV (gA g a) N (fun _ => .null)) := by rw [← hH1, Array.getElem?_push_size, ← arrV_new]
  have o1 : ∀ q : Nat, q < H.size → H1[q]? = H[q]? := fun q hq => by rw [← hH1, Array.getElem?_push, if_neg (Nat.ne_of_lt hq)]
  have hw' : Wd g (upr ρ nm H.size) (up h nm (a, N, fun _ => vN)) s H1 := hw.mk hn (cOK.mkAr (by show ¬ a < 14; omega) (by show a < 25; omega) e1) (fun j => trivial) (by omega) o1
  have k1 := kk p l e R s m args below meth c g Qf D0 ρ0 C hR (upr ρ nm H.size) ls H1 locs (fun x hx => ⟨up_dom (hK x hx).1, by rw [re x (hK x hx).1]; exact (hK x hx).2⟩) (hL.mono fun x hx => ⟨up_dom hx, re x hx⟩) ((hW.tl.mono fun x hx => up_dom hx).cons (show up h nm _ nm ≠ none by rw [up_self]; exact fun q => by cases q)) hw' hlo
  have e2 : (vR nm :: st).map (tr (upr ρ nm H.size)) = .ref H.size :: st.map (tr ρ) := by
    show tr _ (vR nm) :: _ = _
    rw [hW.tl.trs re]
    show Value.ref (upr ρ nm H.size nm) :: _ = _
    unfold upr
    rw [if_pos rfl]
  rw [e2] at k1
  exact k1
/-- a cast of an object to its own class, or of null -/
theorem s_cast {idx ci ln : Nat} {nm : Nm} {f : Nat → PV} (d : Dc M pc (.checkcast idx) 3 pc') (hci : ci < 14) (hl : Cond.classLink M.1.cls idx (cS ci) ∈ TB) (hc : h nm = some (ci, ln, f)) (kk : S M lvl mc ms Q pc' lv (vR nm :: st) h k n) : S M lvl mc ms Q pc lv (vR nm :: st) h k n := by
  intro p l e R s m args below meth c g Qf D0 ρ0 C hR ρ ls H locs hK hL hW hw hlo
  obtain ⟨d, rfl⟩ := d
  obtain ⟨cv, q1, q2, q3, -⟩ := (hw.1 nm _ hc).1.ob hci
  obtain ⟨-, hfc⟩ := C.2.2.2.2.2.1.1 ci hci
  exact va_castS C.1 C.2.1 C.2.2.2.1 (C.2.2.2.2.1 _ hl) hfc ⟨cv, q1, by rw [q3]; rfl, by rw [q2]; exact hfc.1⟩ d (kk p l e R s m args below meth c g Qf D0 ρ0 C hR ρ ls H locs hK hL hW hw hlo)
end MK
