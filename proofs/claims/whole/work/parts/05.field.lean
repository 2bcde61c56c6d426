theorem cOK.ob {g : Gl} {ρ : Nm → Nat} {H : Heap} {a : Nat} {c : PC} (hc : cOK g ρ H a c) (h : c.1 < 14) : t_OB a (gC g c.1) (cN c.1) (gI g c.1) H (fun j => tr ρ (c.2.2 j)) := by
  unfold cOK at hc
  rw [if_pos h] at hc
  exact hc
theorem cOK.mkOb {g : Gl} {ρ : Nm → Nat} {H : Heap} {a : Nat} {c : PC} (h : c.1 < 14) (hc : t_OB a (gC g c.1) (cN c.1) (gI g c.1) H (fun j => tr ρ (c.2.2 j))) : cOK g ρ H a c := by
  unfold cOK
  rw [if_pos h]
  exact hc
theorem cOK.ar {g : Gl} {ρ : Nm → Nat} {H : Heap} {a : Nat} {c : PC} (hc : cOK g ρ H a c) (h : ¬ c.1 < 14) (h' : c.1 < 25) : H[a]? = some (arrV (gA g c.1) c.2.1 (fun j => tr ρ (c.2.2 j))) := by
  unfold cOK at hc
  rw [if_neg h, if_pos h'] at hc
  exact hc
theorem cOK.mkAr {g : Gl} {ρ : Nm → Nat} {H : Heap} {a : Nat} {c : PC} (h : ¬ c.1 < 14) (h' : c.1 < 25) (hc : H[a]? = some (arrV (gA g c.1) c.2.1 (fun j => tr ρ (c.2.2 j)))) : cOK g ρ H a c := by
  unfold cOK
  rw [if_neg h, if_pos h']
  exact hc
theorem nw_use {g : Gl} {s : State} {args : Array Value} (hk : KB g s) {w : Cond} (hw : w ∈ NT) : w.before args s = true := va_Nw.use (nt_tab (List.mem_filter.mp hw).2) (hk.2.2.2.2.1 w hw)
section FR
variable {M : MD} {lvl mc ms : Nat} {Q : Option PV → Hp → Prop} {pc pc' tgt : Nat} {lv : List (Option PV)} {st : List PV} {h : Hp} {k n : Nat}
theorem s_get {idx ci kf : Nat} {nm : Nm} {len : Nat} {f : Nat → PV} (d : Dc M pc (.getfield idx) 3 pc') (G : GF M.1.cls idx ci kf) (hc : h nm = some (ci, len, f)) (kk : S M lvl mc ms Q pc' lv (f kf :: st) h k n) : S M lvl mc ms Q pc lv (vR nm :: st) h k n := by
  intro p l e R s m args below meth c g Qf D0 ρ0 C hR ρ ls H locs hK hL hW hw hlo
  obtain ⟨d, rfl⟩ := d
  obtain ⟨c1, c2, c3⟩ := G
  have k1 := kk p l e R s m args below meth c g Qf D0 ρ0 C hR ρ ls H locs hK hL (hW.tl.cons ((hw.1 nm _ hc).2 kf)) hw hlo
  obtain ⟨hx, hb, -, hown, hts, hkb, -⟩ := C
  obtain ⟨cell, q1, q2, q3, q4⟩ := (hw.1 nm _ hc).1.ob c1
  obtain ⟨hS, hfc, kC, hkC, hkind⟩ := hkb.1 ci c1
  obtain ⟨cf, kf', fi, fd, hi, hsl⟩ := hS kf c2
  have hst := (u_facts hfc hkC (u_lays hts (cls_in ci c1) c2) hi).1
  have hsl' : cell.slots[fd.slot]? = some (tr ρ (f kf)) := by rw [hsl]; exact q4 kf c2
  have hvm : cell.vm ≠ .unknown := by rw [q3]; exact fun h => by cases h
  rcases c3 with ⟨ref, l1, l2⟩ | ⟨host, l1⟩
  · refine W.getf hx hb hown (hts _ l1) (cf := cf) (k := kf') (i := fi) (f := fd) ?_ hst q1 hvm hsl' rfl rfl d k1
    rcases l2 with rfl | l2
    · exact hi
    · exact u_same (hts _ l2) _ hi
  · exact va_Wgetf hx hb hown (nw_use hkb l1) hi hst q1 hvm hsl' rfl rfl d k1
/-- which values a field takes -/
def fitV (ty : FieldType) (v : PV) : Prop := match ty with
  | .int => ∃ x, v = vI x
  | .boolean => v = vI 0 ∨ v = vI 1
  | .long => ∃ x, v = vL x
  | .object _ => ∃ o, v = vO o
  | .array _ => ∃ o, v = vO o
  | _ => False
theorem fitV.narrow {ty : FieldType} {v : PV} {ρ : Nm → Nat} (h : fitV ty v) : Jvm.narrow ty (tr ρ v) = tr ρ v ∧ fits ty (tr ρ v) = true := by
  cases ty with
  | int => obtain ⟨x, rfl⟩ := h; exact ⟨rfl, rfl⟩
  | boolean => 
    rcases h with rfl | rfl
    · exact ⟨(show Jvm.narrow .boolean (.int 0) = .int 0 by decide +kernel), (show fits .boolean (.int 0) = true by decide +kernel)⟩
    · exact ⟨(show Jvm.narrow .boolean (.int 1) = .int 1 by decide +kernel), (show fits .boolean (.int 1) = true by decide +kernel)⟩
  | long => obtain ⟨x, rfl⟩ := h; exact ⟨rfl, rfl⟩
  | object C => obtain ⟨o, rfl⟩ := h; cases o <;> exact ⟨rfl, rfl⟩
  | array t => obtain ⟨o, rfl⟩ := h; cases o <;> exact ⟨rfl, rfl⟩
  | _ => exact h.elim
theorem s_put {idx ci kf : Nat} {nm : Nm} {len : Nat} {f : Nat → PV} {v : PV} (d : Dc M pc (.putfield idx) 3 pc') (G : GF M.1.cls idx ci kf) (hc : h nm = some (ci, len, f)) (h2 : Nat.ble 2 nm.1 = true) (hf : (cT ci kf).2.2.2 = false ∨ (M.1.name = "<init>" ∧ (cT ci kf).1 = M.1.cls)) (hv : fitV (cY ci kf) v)
    (kk : S M lvl mc ms Q pc' lv st (up h nm (ci, len, upf f kf v)) k n) : S M lvl mc ms Q pc lv (v :: vR nm :: st) h k n := by
  intro p l e R s m args below meth c g Qf D0 ρ0 C hR ρ ls H locs hK hL hW hw hlo
  obtain ⟨d, rfl⟩ := d
  obtain ⟨c1, c2, c3⟩ := G
  have hn : h nm ≠ none := by rw [hc]; exact fun q => by cases q
  have h2 : 2 ≤ nm.1 := Nat.le_of_ble_eq_true h2
  have k1 : ∀ (H' : Heap) (i : Nat), cOK g ρ H' (ρ nm) (ci, len, upf f kf v) → H'.size = H.size → (∀ q, q ≠ ρ nm → H'[q]? = H[q]?) → W p l e R s m args below meth c H' (locs ++ [⟨ρ nm, i⟩]) k n Qf (F0 m (pc + 3) ls (st.map (tr ρ))) := fun H' i o1 o2 o3 =>
    kk p l e R s m args below meth c g Qf D0 ρ0 C hR ρ ls H' _ (fun x hx => ⟨up_dom (hK x hx).1, (hK x hx).2⟩) (hL.mono fun x hx => ⟨up_dom hx, rfl⟩) (hW.tl.tl.mono fun x hx => up_dom hx)
      (hw.put hn h2 o1 (fun j => by
        show wfv h (upf f kf v j)
        unfold upf
        split
        · exact hW.hd
        · exact (hw.1 nm _ hc).2 j) o2 o3) (t_lc hlo (hw.2.2.1 nm hn h2))
  obtain ⟨hx, hb, -, hown, hts, hkb, hnm, -⟩ := C
  obtain ⟨cell, q1, q2, q3, q4⟩ := (hw.1 nm _ hc).1.ob c1
  have hkb1 := hkb.1 ci c1
  obtain ⟨hS, hfc, kC, hkC, hkind⟩ := id hkb1
  obtain ⟨cf, kf', fi, fd, hi, hsl⟩ := hS kf c2
  have hla := u_lays hts (cls_in ci c1) c2
  have hst := (u_facts hfc hkC hla hi).1
  have hap : ∀ x y, x < cN ci → y < cN ci → x ≠ y → gI g ci x ≠ gI g ci y := by
    intro x y hx' hy hne
    obtain ⟨_, _, _, fa, hia, ea⟩ := hS x hx'
    obtain ⟨_, _, _, fb, hib, eb⟩ := hS y hy
    rw [← ea, ← eb]
    refine u_apart (u_lays hts (cls_in ci c1) hx') (u_lays hts (cls_in ci c1) hy) hia hib ?_
    rw [(State.fieldFound?_type hia (cls_ty ci c1 x hx')).1, (State.fieldFound?_type hib (cls_ty ci c1 y hy)).1]
    exact cls_nm ci c1 x hx' y hy hne
  have h6 := u_fits hfc hkC hkind hla hi (cls_ty ci c1 kf c2) (hv.narrow (ρ := ρ)).1 (hv.narrow (ρ := ρ)).2
  have hlay := hts _ (cls_in ci c1 _ (u_in_lay c2))
  unfold u_lay at hlay
  have hfin : hasFlag fd.accessFlags Acc.final = false ∨ (m.cls = cf ∧ meth.name = "<init>") := by
    rcases hf with hf | ⟨hf1, hf2⟩
    · rw [if_neg (by rw [hf]; decide)] at hlay
      exact Or.inl (u_store hfc hkC hkind hlay hi (cls_ty ci c1 kf c2) (hv.narrow (ρ := ρ)).1 (hv.narrow (ρ := ρ)).2).1
    · cases hb2 : (cT ci kf).2.2.2 with
      | false =>
        rw [if_neg (by rw [hb2]; decide)] at hlay
        exact Or.inl (u_store hfc hkC hkind hlay hi (cls_ty ci c1 kf c2) (hv.narrow (ρ := ρ)).1 (hv.narrow (ρ := ρ)).2).1
      | true =>
        rw [if_pos hb2] at hlay
        refine Or.inr ⟨?_, hnm.trans hf1⟩
        obtain ⟨_, _, c', _, _, _, -, -, hf', -, -, -, hown2, -⟩ := Cond.laysFinal_spec hlay
        have e1 : c' = cf := by have := hi.symm.trans hf'; simp at this; exact this.1.symm
        rw [hf2] at hown2
        rw [← e1]; exact Option.some.inj (hown.symm.trans hown2)
  have hvm : cell.vm ≠ .unknown := by rw [q3]; exact fun h => by cases h
  have hlt : fd.slot < cell.slots.size := by rw [hsl]; exact k2_hasslot (q4 kf c2)
  have ha : ρ nm < H.size := (Array.getElem?_eq_some_iff.mp q1).1
  have fin : W p l e R s m args below meth c (H.setIfInBounds (ρ nm) (cell.setSlot fd.slot (tr ρ v))) (locs ++ [⟨ρ nm, fd.slot⟩]) k n Qf (F0 m (pc + 3) ls (st.map (tr ρ))) := by
    refine k1 _ fd.slot (cOK.mkOb c1 ?_) (by simp) (fun q hq => by simp [Array.getElem?_setIfInBounds, Ne.symm hq])
    refine t_OB.to (V := updV (fun j => tr ρ (f j)) kf (tr ρ v)) ⟨cell.setSlot fd.slot (tr ρ v), by simp [Array.getElem?_setIfInBounds, ha], q2, q3, ?_⟩ (fun j _ => ?_)
    · rw [hsl]; exact t_set q4 hap c2 (tr ρ v)
    · show (if j = kf then tr ρ v else tr ρ (f j)) = tr ρ (upf f kf v j)
      unfold upf
      split <;> rfl
  rcases c3 with ⟨ref, l1, l2⟩ | ⟨host, l1⟩
  · refine W.putf hx hb hown (hts _ l1) (cf := cf) (k := kf') (i := fi) (f := fd) ?_ hst hfin q1 hvm hlt h6.1 (by rw [q2, q3]; exact h6.2) rfl rfl d fin
    rcases l2 with rfl | l2
    · exact hi
    · exact u_same (hts _ l2) _ hi
  · exact va_Wputf hx hb hown (nw_use hkb l1) hi hst hfin q1 hvm hlt h6.1 (by rw [q2, q3]; exact h6.2) rfl rfl d fin
/-- the empty row of ArrayList -/
theorem s_gets {idx : Nat} (d : Dc M pc (.getstatic idx) 3 pc') (G : Cond.fieldLink M.1.cls idx "java/util/ArrayList" "DEFAULTCAPACITY_EMPTY_ELEMENTDATA" "[Ljava/lang/Object;" ∈ TB) (kk : S M lvl mc ms Q pc' lv (vR (1, 0, 0) :: st) h k n) : S M lvl mc ms Q pc lv st h k n := by
  intro p l e R s m args below meth c g Qf D0 ρ0 C hR ρ ls H locs hK hL hW hw hlo
  obtain ⟨d, rfl⟩ := d
  have k1 := kk p l e R s m args below meth c g Qf D0 ρ0 C hR ρ ls H locs hK hL (hW.cons (show h (1, 0, 0) ≠ none by rw [hw.2.2.2.2.1]; exact fun q => by cases q)) hw hlo
  obtain ⟨hx, hb, -, hown, hts, hkb, -⟩ := C
  obtain ⟨cf, kf, fi, f, a, cell, h1, h2, h3, h4, h5, h6, h7, h8⟩ := hw.2.2.2.2.2
  exact W.gets hx hb hown (hts _ G) h1 h2 h3 h4 h5 (fun e => by rw [e] at h6; cases h6) h7 rfl d k1
end FR
