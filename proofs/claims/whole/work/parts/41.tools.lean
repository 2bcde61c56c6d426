/-! tools for the class -/
theorem fl_upf {l : List PV} {k : Nat} {v : PV} (hk : k < l.length) : upf (fl l) k v = fl (l.set k v) := by
  funext j
  unfold upf fl
  rw [List.getD_eq_getElem?_getD, List.getD_eq_getElem?_getD, List.getElem?_set]
  by_cases c1 : j = k
  · subst c1
    rw [if_pos rfl, if_pos rfl, if_pos hk]
    rfl
  · rw [if_neg c1, if_neg (fun z1 => c1 z1.symm)]
set_option maxRecDepth 100000 in
theorem ac20 : Cond.arrayClass (aY 20) ∈ TB := tb_1 48 rfl rfl
set_option maxRecDepth 100000 in
theorem ac21 : Cond.arrayClass (aY 21) ∈ TB := tb_5 81 rfl rfl
section CT
variable {M : MD} {lvl mc ms : Nat} {Q : Option PV → Hp → Prop} {pc pc' tgt : Nat} {lv : List (Option PV)} {st : List PV} {h : Hp} {k n : Nat}
theorem s_tv {v w : PV} (e : v = w) (kk : S M lvl mc ms Q pc lv (w :: st) h k n) : S M lvl mc ms Q pc lv (v :: st) h k n := by rw [e]; exact kk
theorem s_hp {h' : Hp} (e : h = h') (kk : S M lvl mc ms Q pc lv st h' k n) : S M lvl mc ms Q pc lv st h k n := by rw [e]; exact kk
theorem s_lv {lv' : List (Option PV)} (e : lv = lv') (kk : S M lvl mc ms Q pc lv' st h k n) : S M lvl mc ms Q pc lv st h k n := by rw [e]; exact kk
/-- what every heap has -/
theorem s_wd (kk : h (1, 0, 0) = some (28, 0, fun _ => vN) → S M lvl mc ms Q pc lv st h k n) : S M lvl mc ms Q pc lv st h k n := by
  intro p l e R s m args below meth c g Qf D0 ρ0 C hR ρ ls H locs hK hL hW hw hlo
  exact kk hw.2.2.2.2.1 p l e R s m args below meth c g Qf D0 ρ0 C hR ρ ls H locs hK hL hW hw hlo
/-- what stands behind an object's last field is nothing -/
theorem s_ext {nm : Nm} {ci len : Nat} {f f' : Nat → PV} (hc : h nm = some (ci, len, f)) (hci : ci < 14) (h2 : Nat.ble 2 nm.1 = true) (hj : ∀ j, j < cN ci → f' j = f j) (hv : ∀ j, f' j = f j ∨ f' j = vN) (kk : S M lvl mc ms Q pc lv st (up h nm (ci, len, f')) k n) : S M lvl mc ms Q pc lv st h k n := by
  intro p l e R s m args below meth c g Qf D0 ρ0 C hR ρ ls H locs hK hL hW hw hlo
  have hn : h nm ≠ none := by rw [hc]; exact fun q => by cases q
  obtain ⟨w1, w2⟩ := hw.1 nm _ hc
  have hw' : Wd g ρ (up h nm (ci, len, f')) s H := by
    refine hw.put hn (Nat.le_of_ble_eq_true h2) ?_ (fun j => ?_) rfl (fun _ _ => rfl)
    · unfold cOK at w1 ⊢
      rw [if_pos hci] at w1 ⊢
      exact w1.to fun j q1 => by show tr ρ (f j) = tr ρ (f' j); rw [hj j q1]
    · show wfv h (f' j)
      rcases hv j with q1 | q1
      · rw [q1]; exact w2 j
      · rw [q1]; trivial
  exact kk p l e R s m args below meth c g Qf D0 ρ0 C hR ρ ls H locs (fun x hx => ⟨up_dom (hK x hx).1, (hK x hx).2⟩) (hL.mono fun x hx => ⟨up_dom hx, rfl⟩) (hW.mono fun x hx => up_dom hx) hw' hlo
theorem up_up {h : Hp} {n : Nm} {a b : PC} : up (up h n a) n b = up h n b := by
  funext m
  unfold up
  split <;> rfl
theorem up_cm {h : Hp} {n m : Nm} {a b : PC} (hne : n ≠ m) : up (up h n a) m b = up (up h m b) n a := by
  funext x
  unfold up
  by_cases c1 : x = m
  · subst c1
    rw [if_pos rfl, if_neg (fun z1 => hne z1.symm), if_pos rfl]
  · rw [if_neg c1]
    by_cases c2 : x = n
    · rw [if_pos c2, if_pos c2]
    · rw [if_neg c2, if_neg c2, if_neg c1]
def dL (ci : Nat) : List PV := (List.range (cN ci)).map (dfl ci)
theorem s_newF {idx ci : Nat} (nm : Nm) (L : List PV) (d : Dc M pc (.new idx) 3 pc') (N : NW M.1.cls idx ci) (hL : L = dL ci) (hb : Nat.ble 2 nm.1 = true) (hn : h nm = none) (h1 : Nat.ble (k + 1) mc = true) (h2 : Nat.ble (n + cN ci) ms = true) (kk : S M lvl mc ms Q pc' lv (vR nm :: st) (up h nm (ci, 0, fl L)) (k + 1) (n + cN ci)) : S M lvl mc ms Q pc lv st h k n := by
  subst hL
  have e1 : ∀ j, j < cN ci → fl (dL ci) j = dfl ci j := fun j q1 => by
    unfold fl dL
    rw [List.getD_eq_getElem?_getD, List.getElem?_map, List.getElem?_range q1]
    rfl
  refine s_new nm d N hn h1 h2 (s_ext up_self N.1 hb e1 (fun j => ?_) ?_)
  · by_cases c1 : j < cN ci
    · exact Or.inl (e1 j c1)
    · right
      unfold fl dL
      rw [List.getD_eq_getElem?_getD, List.getElem?_eq_none (by simp; omega)]
      rfl
  · rw [up_up]
    exact kk
theorem s_ialdN {len j : Nat} {f : Nat → PV} {nm : Nm} (d : Dc M pc .iaload 1 pc') (hc : h nm = some (20, len, f)) (hj : j < len) (hb : len ≤ 1000) (kk : S M lvl mc ms Q pc' lv (f j :: st) h k n) : S M lvl mc ms Q pc lv (vI (nI j) :: vR nm :: st) h k n := by
  refine s_iald d hc (vp_in_nI hj (by omega)) ?_
  rw [nI_clamp (by omega)]
  exact kk
theorem s_iastN {len j : Nat} {f : Nat → PV} {nm : Nm} {x : Int32} (d : Dc M pc .iastore 1 pc') (hc : h nm = some (20, len, f)) (h3 : Nat.ble 2 nm.1 = true) (hj : j < len) (hb : len ≤ 1000) (kk : S M lvl mc ms Q pc' lv st (up h nm (20, len, upf f j (vI x))) k n) : S M lvl mc ms Q pc lv (vI x :: vI (nI j) :: vR nm :: st) h k n := by
  refine s_iast d hc h3 (vp_in_nI hj (by omega)) ?_
  rw [nI_clamp (by omega)]
  exact kk
theorem s_aaldN {a len j : Nat} {f : Nat → PV} {nm : Nm} (d : Dc M pc .aaload 1 pc') (hc : h nm = some (a, len, f)) (h1 : Nat.ble 22 a = true) (h2 : Nat.ble a 24 = true) (hj : j < len) (hb : len ≤ 1000) (kk : S M lvl mc ms Q pc' lv (f j :: st) h k n) : S M lvl mc ms Q pc lv (vI (nI j) :: vR nm :: st) h k n := by
  refine s_aald d hc h1 h2 (vp_in_nI hj (by omega)) ?_
  rw [nI_clamp (by omega)]
  exact kk
end CT
/-! class objects in copyOf -/
def PcM (g : Gl) (ρ : Nm → Nat) (h : Hp) (as : List PV) : Array Value → State → Prop := fun a U => a = (as.map (tr ρ) ++ [Value.ref (gm g)]).toArray ∧ Wd g ρ h U U.heap ∧ KB g U
theorem pcM_blind {g : Gl} {ρ : Nm → Nat} {h : Hp} {as : List PV} : FrameBlind (PcM g ρ h as) := fun a U gg mk q => ⟨q.1, Wd.moved (u := U) (U := U.calling gg mk a) (Vm.Alike.refl U.vm) q.2.1, KB.same (s := U) (U := U.calling gg mk a) rfl q.2.2⟩
set_option maxRecDepth 100000 in
theorem met_copyOf1 {lvl mc ms : Nat} {Q : Option PV → Hp → Prop} {src : Nm} {x : Int32} {h : Hp} (K6 : S mArrs_copyOf1 lvl mc ms Q 6 [some (vR src), some (vI x), none, none] [] h 0 0) (l : Launch) (g : Gl) (ρ : Nm → Nat) (hws : Ws h [vR src, vI x]) :
    Met l mArrs_copyOf1.1 (Cond.code mArrs_copyOf1.1 mArrs_copyOf1.2.1 mArrs_copyOf1.2.2.1 mArrs_copyOf1.2.2.2 :: TB) (rmL lvl mc ms) (PcM g ρ h [vR src, vI x]) (QcL g ρ h Q) mc ms (fun q => gz g ≤ q) := by
  refine Met.ofW (cc := mArrs_copyOf1.2.1) (maxL := mArrs_copyOf1.2.2.1) (ret := mArrs_copyOf1.2.2.2) (by decide +kernel) rfl ?_
  intro p e s m args below meth c s₁ B hml hv
  obtain ⟨rfl, hw, hkb⟩ := hv
  have hts0 := atoms_spec (ws := Cond.code mArrs_copyOf1.1 mArrs_copyOf1.2.1 mArrs_copyOf1.2.2.1 mArrs_copyOf1.2.2.2 :: TB) B.pre
  have C : Cx mArrs_copyOf1 lvl mc ms p (headSpec (Cond.code mArrs_copyOf1.1 mArrs_copyOf1.2.1 mArrs_copyOf1.2.2.1 mArrs_copyOf1.2.2.2 :: TB) (rmL lvl mc ms)).room s m ([vR src, vI x].map (tr ρ) ++ [Value.ref (gm g)]).toArray meth c g :=
    ⟨B.exec, B.bytes, hml, findClass_of_methodNamed B.named, fun w hw => hts0 w (List.mem_cons_of_mem _ hw), hkb, (name_of_methodNamed B.named B.method).1, ⟨Nat.le_refl _, Nat.le_refl _⟩, Nat.le_refl _, Nat.le_refl _⟩
  have hent := lv_entry [Value.ref (ρ src), Value.int x, Value.ref (gm g)] (n := 4) (Nat.le_of_ble_eq_true rfl)
  rw [lg_entry_eq]
  have C2 := C
  obtain ⟨hx, hb, hml2, hown, hts, hkb2, -, hlv, h9, h10⟩ := C2
  have hM : va_Mi "[Ljava/lang/Object;" (gm g) s := hkb.2.2.2.2.2.2.2
  refine lv_aload_n hx hb dArrs_copyOf1_0.1 (i := 2) rfl (hent.2.2 (2, .ref (gm g)) (by simp [lv_args, Value.category])) ?_
  refine va_ldcM hx hb hown (hts _ cl_Arrs_110) hM dArrs_copyOf1_1.1 ?_
  obtain ⟨off, d3, ht3, -⟩ := dArrs_copyOf1_3
  refine lv_acmp_ne (rx := some (gm g)) (ry := some (gm g)) hx hb d3 ht3 (fun q => absurd rfl q) (fun _ => ?_)
  refine K6 p l e _ s m _ below meth c g _ (fun n => h n ≠ none) ρ C ?_ ρ _ s.heap [] (fun n hn => ⟨hn, rfl⟩) ⟨hent.1, hent.2.1, fun k v hk => ?_⟩ Ws.nil hw (fun q hq => by cases hq)
  · intro ri v ρ' h' H locs pc ls hro hd hK hw' hwf hlo hq
    have hQ : ∀ t : State, t.heap = H → s.WarmedH t.vm → QcL g ρ h Q ([vR src, vI x].map (tr ρ) ++ [Value.ref (gm g)]).toArray s (.returned (v.map (tr ρ'))) t := fun t ht hW => ⟨ρ', v, h', hK, rfl, by rw [ht]; exact hw'.moved hW.alike, hwf, hq⟩
    rcases hro with ⟨rfl, x, rfl, hr | ⟨hr, hx⟩⟩ | ⟨rfl, o, rfl, rt, hr, hrt⟩ | ⟨rfl, rfl, hr⟩
    · exact W.iret B.exec B.bytes (B.returns.trans hr) hQ hlo hd B.notSynchronized
    · exact W.zret B.exec B.bytes (B.returns.trans hr) (ret_narrow hx) hQ hlo hd B.notSynchronized
    · exact W.aret B.exec B.bytes (B.returns.trans hr) hrt (by cases o with | none => exact Or.inl rfl | some a => exact Or.inr ⟨_, rfl⟩) hQ hlo hd B.notSynchronized
    · exact W.vret B.exec B.bytes (B.returns.trans hr) hQ hlo hd B.notSynchronized
  · match k, hk with
    | 0, hk =>
      simp at hk
      subst hk
      exact ⟨hent.2.2 (0, .ref (ρ src)) (by simp [lv_args, Value.category]), hws.hd, rfl⟩
    | 1, hk =>
      simp at hk
      subst hk
      exact ⟨hent.2.2 (1, .int x) (by simp [lv_args, Value.category]), trivial, rfl⟩
    | k + 2, hk =>
      have : k = 0 ∨ k = 1 ∨ 2 ≤ k := by omega
      rcases this with rfl | rfl | h2
      · simp at hk
      · simp at hk
      · rw [List.getElem?_eq_none (by simp; omega)] at hk
        cases hk
