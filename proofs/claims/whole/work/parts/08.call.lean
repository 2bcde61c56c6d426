/-- the room of a method -/
abbrev rmL (lvl mc ms : Nat) : Room := { frames := lvl, cells := mc, slots := ms, locals := 40 * lvl }
def PcL (g : Gl) (ρ : Nm → Nat) (h : Hp) (as : List PV) : Array Value → State → Prop := fun a U => a = (as.map (tr ρ)).toArray ∧ Wd g ρ h U U.heap ∧ KB g U
def QcL (g : Gl) (ρ : Nm → Nat) (h : Hp) (Q : Option PV → Hp → Prop) : Array Value → State → Outcome → State → Prop := fun _ _ o t => ∃ (ρ' : Nm → Nat) (v : Option PV) (h' : Hp), (∀ n, h n ≠ none → h' n ≠ none ∧ ρ' n = ρ n) ∧ o = .returned (v.map (tr ρ')) ∧ Wd g ρ' h' t t.heap ∧ (∀ w, v = some w → wfv h' w) ∧ Q v h'
/-- A CONTRACT: from the heap h, with these arguments, the method comes back, with Q of its answer and the heap -/
def Con (M : MD) (lvl mc ms : Nat) (as : List PV) (h : Hp) (Q : Option PV → Hp → Prop) : Prop :=
  ∀ (l : Launch) (g : Gl) (ρ : Nm → Nat), Ws h as → Met l M.1 (Cond.code M.1 M.2.1 M.2.2.1 M.2.2.2 :: TB) (rmL lvl mc ms) (PcL g ρ h as) (QcL g ρ h Q) mc ms (fun q => gz g ≤ q)
theorem Con.mono {M : MD} {lvl mc ms : Nat} {as : List PV} {h : Hp} {Q Q' : Option PV → Hp → Prop} (H : Con M lvl mc ms as h Q) (hq : ∀ v h', Q v h' → Q' v h') : Con M lvl mc ms as h Q' := by
  intro l g ρ hw
  have H1 := H l g ρ hw
  unfold Met at H1 ⊢
  intro p e ha hc hk s m args below hf happ hpre hK
  obtain ⟨k, o, h1, h2, h3, ⟨⟨ρ', v, h', q1, q2, q3, q4, q5⟩, hL⟩⟩ := H1 p e ha hc hk s m args below hf happ hpre hK
  exact ⟨k, o, h1, h2, h3, ⟨ρ', v, h', q1, q2, q3, q4, hq v h' q5⟩, hL⟩
theorem ret_narrow {x : Int32} (h : x = 0 ∨ x = 1) : narrow .boolean (.int x) = .int x := by rcases h with rfl | rfl <;> decide +kernel
theorem argsLo {ρ : Nm → Nat} {h : Hp} : ∀ (as : List PV) (i : Nat), (∀ v ∈ as, isL v = false) → ∀ (k : Nat) (v : PV), as[k]? = some v → (i + k, tr ρ v) ∈ lv_args i (as.map (tr ρ))
  | [], i, _, k, v, hk => by simp at hk
  | a :: as, i, ha, k, v, hk => by
    have hc : (tr ρ a).category = 1 := cat1 (ha a List.mem_cons_self)
    show (i + k, tr ρ v) ∈ (i, tr ρ a) :: lv_args (if (tr ρ a).category = 2 then i + 2 else i + 1) (as.map (tr ρ))
    rw [hc, if_neg (by decide)]
    cases k with
    | zero =>
      simp at hk
      subst hk
      exact List.mem_cons_self
    | succ k =>
      refine List.mem_cons_of_mem _ ?_
      have := argsLo (ρ := ρ) (h := h) as (i + 1) (fun v hv => ha v (List.mem_cons_of_mem _ hv)) k v (by simpa using hk)
      rw [show i + (k + 1) = i + 1 + k by omega]
      exact this
theorem argsLen {ρ : Nm → Nat} : ∀ (as : List PV), (∀ v ∈ as, isL v = false) → (lg_sl (as.map (tr ρ))).length = as.length
  | [], _ => rfl
  | a :: as, ha => by
    have hc : (tr ρ a).category = 1 := cat1 (ha a List.mem_cons_self)
    have ih := argsLen (ρ := ρ) as (fun v hv => ha v (List.mem_cons_of_mem _ hv))
    unfold lg_sl at ih ⊢
    simp [hc, ih]
def noL (as : List PV) : Bool := as.all fun v => !isL v
/-- the locals at the start -/
def lv0 (as : List PV) (nL : Nat) : List (Option PV) := as.map some ++ List.replicate (nL - as.length) none
theorem c_enter {M : MD} {lvl mc ms : Nat} {as : List PV} {h : Hp} {Q : Option PV → Hp → Prop} (hp : plainName M.1.cls = true) (hn : noL as = true) (hl : Nat.ble as.length M.2.2.1 = true) (kk : S M lvl mc ms Q 0 (lv0 as M.2.2.1) [] h 0 0) : Con M lvl mc ms as h Q := by
  intro l g ρ hws
  have hn' : ∀ v ∈ as, isL v = false := fun v hv => by
    have := List.all_eq_true.mp hn v hv
    simpa using this
  have hl' := Nat.le_of_ble_eq_true hl
  refine Met.ofW (cc := M.2.1) (maxL := M.2.2.1) (ret := M.2.2.2) hp rfl ?_
  intro p e s m args below meth c s₁ B hml hv
  obtain ⟨rfl, hw, hkb⟩ := hv
  have hts0 := atoms_spec (ws := Cond.code M.1 M.2.1 M.2.2.1 M.2.2.2 :: TB) B.pre
  have C : Cx M lvl mc ms p (headSpec (Cond.code M.1 M.2.1 M.2.2.1 M.2.2.2 :: TB) (rmL lvl mc ms)).room s m (as.map (tr ρ)).toArray meth c g :=
    ⟨B.exec, B.bytes, hml, findClass_of_methodNamed B.named, fun w hw => hts0 w (List.mem_cons_of_mem _ hw), hkb, (name_of_methodNamed B.named B.method).1, ⟨Nat.le_refl _, Nat.le_refl _⟩, Nat.le_refl _, Nat.le_refl _⟩
  have hlen := argsLen (ρ := ρ) as hn'
  have hent := lv_entry (as.map (tr ρ)) (n := M.2.2.1) (by rw [hlen]; exact hl')
  rw [lg_entry_eq]
  refine kk p l e _ s m _ below meth c g _ (fun n => h n ≠ none) ρ C ?_ ρ _ s.heap [] (fun n hn => ⟨hn, rfl⟩) ⟨hent.1, hent.2.1, fun k v hk => ?_⟩ Ws.nil hw (fun q hq => by cases hq)
  · intro ri v ρ' h' H locs pc ls hro hd hK hw' hwf hlo hq
    have hQ : ∀ t : State, t.heap = H → s.WarmedH t.vm → QcL g ρ h Q (as.map (tr ρ)).toArray s (.returned (v.map (tr ρ'))) t := fun t ht hW => ⟨ρ', v, h', hK, rfl, by rw [ht]; exact hw'.moved hW.alike, hwf, hq⟩
    rcases hro with ⟨rfl, x, rfl, hr | ⟨hr, hx⟩⟩ | ⟨rfl, o, rfl, rt, hr, hrt⟩ | ⟨rfl, rfl, hr⟩
    · exact W.iret B.exec B.bytes (B.returns.trans hr) hQ hlo hd B.notSynchronized
    · exact W.zret B.exec B.bytes (B.returns.trans hr) (ret_narrow hx) hQ hlo hd B.notSynchronized
    · exact W.aret B.exec B.bytes (B.returns.trans hr) hrt (by cases o with | none => exact Or.inl rfl | some a => exact Or.inr ⟨_, rfl⟩) hQ hlo hd B.notSynchronized
    · exact W.vret B.exec B.bytes (B.returns.trans hr) hQ hlo hd B.notSynchronized
  · have hka : as[k]? = some v := by
      unfold lv0 at hk
      by_cases hkl : k < as.length
      · rw [List.getElem?_append_left (by simpa using hkl), List.getElem?_map] at hk
        cases hv : as[k]? with
        | none => rw [hv] at hk; cases hk
        | some w => rw [hv] at hk; simp at hk; rw [hk]
      · rw [List.getElem?_append_right (by simpa using Nat.not_lt.mp hkl), List.getElem?_replicate] at hk
        split at hk <;> cases hk
    have hm := List.mem_of_getElem? hka
    refine ⟨?_, hws v hm, hn' v hm⟩
    have := hent.2.2 _ (argsLo (ρ := ρ) (h := h) as 0 hn' k v hka)
    simpa using this
/-- what a call needs of the tables -/
def CB (M' : MD) (na : Nat) : Prop := Cond.code M'.1 M'.2.1 M'.2.2.1 M'.2.2.2 ∈ TB ∧ Cond.initialized M'.1.cls ∈ TB ∧ (M'.1.cls ≠ "java/lang/invoke/MethodHandle" ∧ M'.1.cls ≠ "java/lang/invoke/VarHandle" ∧ (parseMethodDescriptor M'.1.desc).map (fun d => d.parameters.length) = some na) ∧ Nat.ble M'.2.2.1 21 = true
theorem tb_good : ∀ w ∈ TB, goodWord w = true := fun w hw => (List.mem_filter.mp hw).2
theorem cb_good {M' : MD} {na : Nat} (B : CB M' na) : GoodIn TB (Cond.code M'.1 M'.2.1 M'.2.2.1 M'.2.2.2 :: TB) := fun w hw => by
  have hm : w ∈ TB := by
    rcases List.mem_cons.mp hw with rfl | h
    · exact B.1
    · exact h
  exact ⟨hm, good_of_word (tb_good w hm)⟩
section CL
variable {M M' : MD} {lvl lvl' mc ms mc' ms' : Nat} {Q P : Option PV → Hp → Prop} {pc pc' tgt : Nat} {lv : List (Option PV)} {st : List PV} {h : Hp} {k n : Nat}
theorem pcL_blind {g : Gl} {ρ : Nm → Nat} {h : Hp} {as : List PV} : FrameBlind (PcL g ρ h as) := fun a U gg mk q => ⟨q.1, Wd.moved (u := U) (U := U.calling gg mk a) (Vm.Alike.refl U.vm) q.2.1, KB.same (s := U) (U := U.calling gg mk a) rfl q.2.2⟩
theorem pcL_pre {g : Gl} {ρ : Nm → Nat} {h : Hp} {as : List PV} {s : State} {H : Heap} (hw : Wd g ρ h s H) (hkb : KB g s) : ∀ U : State, U.heap = H → s.WarmedH U.vm → PcL g ρ h as (as.map (tr ρ)).toArray U := fun U hU hW => ⟨rfl, by rw [hU]; exact hw.moved hW.alike, hkb.moved hW⟩
/-- behind a call -/
theorem s_back {p : Program} {l : Launch} {e : Env} {R : Room} {s : State} {m : MethodId} {args : Array Value} {below : List Frame} {meth : Method} {c : Code} {g : Gl} {Qf : State → Prop} {D0 : Nm → Prop} {ρ0 ρ : Nm → Nat} {ls : Array Slot} {H : Heap} {locs : List Loc} {st0 : List Value} {a : Array Value}
    (C : Cx M lvl mc ms p R s m args meth c g) (hR : RetOK M mc ms Q p l e R s m args below meth c g Qf D0 ρ0) (hK : Kp D0 ρ0 h ρ) (hL : Lo M.2.2.1 ρ h ls lv) (hW : Ws h st) (hlo : ∀ q ∈ locs, gz g ≤ q.base)
    (hr : va_Run p l e R s m args below meth c H locs k n mc' ms' (F0 m pc ls st0) (st.map (tr ρ)) (QcL g ρ h P a) (fun q => gz g ≤ q)) (kk : ∀ v h', P v h' → S M lvl mc ms Q (pc + 3) lv (v.toList ++ st) h' (k + mc') (n + ms')) :
    W p l e R s m args below meth c H locs k n Qf (F0 m pc ls st0) := by
  intro T hT X
  obtain ⟨v, st₀, t, T', L, h0, X', hLq, e1, e2, ⟨ρ', v', h', q1, q2, q3, q4, q5⟩, go⟩ := hr T hT X
  cases q2
  have hvm : s.vm.Alike t.vm := by rw [← e2]; exact X'.warmed.alike
  have k1 := kk v' h' q5 p l e R s m args below meth c g Qf D0 ρ0 C hR ρ' ls T'.heap (locs ++ L) (fun x hx => ⟨(q1 x (hK x hx).1).1, by rw [(q1 x (hK x hx).1).2]; exact (hK x hx).2⟩) (hL.mono q1)
    (Ws.app (fun x hx => by cases v' with | none => cases hx | some w => rw [List.mem_singleton.mp hx]; exact q4 w rfl) (hW.mono fun x hx => (q1 x hx).1)) (by rw [e1]; exact q3.moved hvm.symm) (fun q hq => by
      rcases List.mem_append.mp hq with a | a
      · exact hlo q a
      · exact hLq q a)
  have e3 : (v'.toList ++ st).map (tr ρ') = (v'.map (tr ρ')).toList ++ st.map (tr ρ) := by
    rw [List.map_append, hW.trs fun x hx => (q1 x hx).2]
    cases v' <;> rfl
  rw [e3] at k1
  obtain ⟨t2, a1, b1⟩ := k1 T' rfl X'
  exact ⟨t2, go t2 a1, b1⟩
def rest8 (st : List PV) : Bool := Nat.ble ((st.map fun v => if isL v then 2 else 1).sum) 8
theorem rest_ok {ρ : Nm → Nat} {st : List PV} (h : rest8 st = true) {m : MethodId} {pc : Nat} {ls : Array Slot} {r0 : List Value} : 2 * (F0 m pc ls r0).monitorRoom + ((st.map (tr ρ)).map fun v => v.category).sum ≤ 8 := by
  refine lv_room ?_
  have e : (st.map (tr ρ)).map (fun v => v.category) = st.map fun v => if isL v then 2 else 1 := by
    rw [List.map_map]
    refine List.map_congr_left fun v _ => ?_
    match v with
    | .inl _ => rfl
    | .inr (.inl _) => rfl
    | .inr (.inr none) => rfl
    | .inr (.inr (some _)) => rfl
  rw [e]
  exact Nat.le_of_ble_eq_true h
def CV (own : String) (idx ci : Nat) (M' : MD) (na : Nat) : Prop := CB M' na ∧ ci < 14 ∧ M'.1.cls = cS ci ∧ Cond.instanceMethod M'.1 ∈ TB ∧ Cond.selects (cS ci) M'.1 M'.1 ∈ TB ∧ (Cond.methodLink own idx M'.1 ∈ TB ∨ ∃ host, Cond.methodLinkNest own idx M'.1 host ∈ NT)
def CS (own : String) (idx : Nat) (M' : MD) (na : Nat) : Prop := CB M' na ∧ Cond.static M'.1 ∈ TB ∧ (Cond.methodLink own idx M'.1 ∈ TB ∨ ∃ host, Cond.methodLinkNest own idx M'.1 host ∈ NT)
def CI (own : String) (idx : Nat) (M' : MD) (na : Nat) : Prop := CB M' na ∧ M'.1.name = "<init>" ∧ M'.2.2.2 = none ∧ Cond.instanceMethod M'.1 ∈ TB ∧ (Cond.methodLink own idx M'.1 ∈ TB ∨ ∃ host, Cond.methodLinkNest own idx M'.1 host ∈ NT)
theorem lvl_room {R : Room} {mL : Nat} (h : lvl ≤ R.frames ∧ 40 * lvl ≤ R.locals) (hl : lvl' < lvl) (hm : Nat.ble mL 21 = true) : (rmL lvl' mc' ms').frames + 1 ≤ R.frames ∧ 8 + (mL + 11) + (rmL lvl' mc' ms').locals ≤ R.locals := by
  have := Nat.le_of_ble_eq_true hm
  constructor
  · show lvl' + 1 ≤ _
    omega
  · show 8 + (mL + 11) + 40 * lvl' ≤ _
    omega
theorem s_callV {idx ci len : Nat} {As : List PV} {nm : Nm} {f : Nat → PV} (d : Dc M pc (.invokevirtual idx) 3 pc') (V : CV M.1.cls idx ci M' As.length) (hc : h nm = some (ci, len, f)) (K : Con M' lvl' mc' ms' (vR nm :: As) h P) (hl : Nat.blt lvl' lvl = true) (h1 : Nat.ble (k + mc') mc = true) (h2 : Nat.ble (n + ms') ms = true) (h8 : rest8 st = true)
    (kk : ∀ v h', P v h' → S M lvl mc ms Q pc' lv (v.toList ++ st) h' (k + mc') (n + ms')) : S M lvl mc ms Q pc lv (As.reverse ++ vR nm :: st) h k n := by
  intro p l e R s m args below meth c g Qf D0 ρ0 C hR ρ ls H locs hK hL hW hw hlo
  obtain ⟨d, rfl⟩ := d
  obtain ⟨vB, v1, v2, v3, v4, v5⟩ := V
  have hWa : Ws h As := (Ws.left hW).rev
  have hWr := (Ws.right hW)
  have hM := K l g ρ (hWa.cons hWr.hd)
  obtain ⟨hx, hb, hml, hown, hts, hkb, -, hlv, h9, h10⟩ := id C
  obtain ⟨cv, q1, q2, q3, -⟩ := (hw.1 nm _ hc).1.ob v1
  have hrec : ∃ cellB : Cell, H[ρ nm]? = some cellB ∧ cellB.vm.isStatics = false ∧ s.vm.findClass (cS ci) = some cellB.cls := ⟨cv, q1, by rw [q3]; rfl, by rw [q2]; exact (hkb.1 ci v1).2.1⟩
  have hpre : PreV s H (cS ci) (ρ nm) (PcL g ρ h (vR nm :: As)) (As.map (tr ρ)) := ⟨pcL_blind, hrec, fun U a b => pcL_pre hw hkb U a b⟩
  have hst : (As.reverse ++ vR nm :: st).map (tr ρ) = (As.map (tr ρ)).reverse ++ .ref (ρ nm) :: st.map (tr ρ) := by simp [List.map_reverse]; rfl
  rw [hst]
  have hrm := lvl_room (mc' := mc') (ms' := ms') hlv (Nat.le_of_ble_eq_true hl) vB.2.2.2
  have hf : k + mc' ≤ R.cells ∧ n + ms' ≤ R.slots := ⟨Nat.le_trans (Nat.le_of_ble_eq_true h1) h9, Nat.le_trans (Nat.le_of_ble_eq_true h2) h10⟩
  refine s_back (P := P) C hR hK hL hWr.tl hlo (a := (Value.ref (ρ nm) :: As.map (tr ρ)).toArray) ?_ kk
  rcases v5 with v5 | ⟨host, v5⟩
  · refine va_runV (Ts := TB) (own := M.1.cls) (n := As.length) ⟨hx, hb, hml, hown, hts⟩ hM ⟨callB_of _ hts (cb_good vB) rfl rfl rfl (hts _ vB.2.1) (hts _ v5) vB.2.2.1 hrm, hts _ v3, hts _ v4⟩ hpre rfl (by simp) hL.1 rfl (rest_ok h8) d hf
  · refine va_runVN (Ts := TB) (own := M.1.cls) (n := As.length) ⟨hx, hb, hml, hown, hts⟩ hM ⟨va_cnB _ hts (cb_good vB) rfl rfl rfl (hkb.2.2.2.2.1 _ v5) (hts _ vB.2.1) vB.2.2.1 hrm, hts _ v3, hts _ v4⟩ hpre rfl (by simp) hL.1 rfl (rest_ok h8) d hf
theorem s_callS {idx : Nat} {As : List PV} (d : Dc M pc (.invokestatic idx) 3 pc') (V : CS M.1.cls idx M' As.length) (K : Con M' lvl' mc' ms' As h P) (hl : Nat.blt lvl' lvl = true) (h1 : Nat.ble (k + mc') mc = true) (h2 : Nat.ble (n + ms') ms = true) (h8 : rest8 st = true)
    (kk : ∀ v h', P v h' → S M lvl mc ms Q pc' lv (v.toList ++ st) h' (k + mc') (n + ms')) : S M lvl mc ms Q pc lv (As.reverse ++ st) h k n := by
  intro p l e R s m args below meth c g Qf D0 ρ0 C hR ρ ls H locs hK hL hW hw hlo
  obtain ⟨d, rfl⟩ := d
  obtain ⟨vB, v3, v5⟩ := V
  have hWa : Ws h As := (Ws.left hW).rev
  have hWr := (Ws.right hW)
  have hM := K l g ρ hWa
  obtain ⟨hx, hb, hml, hown, hts, hkb, -, hlv, h9, h10⟩ := id C
  have hpre : PreS s H (PcL g ρ h As) (As.map (tr ρ)) := ⟨pcL_blind, fun U a b => pcL_pre hw hkb U a b⟩
  have hst : (As.reverse ++ st).map (tr ρ) = (As.map (tr ρ)).reverse ++ st.map (tr ρ) := by simp [List.map_reverse]
  rw [hst]
  have hrm := lvl_room (mc' := mc') (ms' := ms') hlv (Nat.le_of_ble_eq_true hl) vB.2.2.2
  have hf : k + mc' ≤ R.cells ∧ n + ms' ≤ R.slots := ⟨Nat.le_trans (Nat.le_of_ble_eq_true h1) h9, Nat.le_trans (Nat.le_of_ble_eq_true h2) h10⟩
  refine s_back (P := P) C hR hK hL hWr hlo (a := (As.map (tr ρ)).toArray) ?_ kk
  rcases v5 with v5 | ⟨host, v5⟩
  · refine va_runS (Ts := TB) (own := M.1.cls) (n := As.length) ⟨hx, hb, hml, hown, hts⟩ hM ⟨callB_of _ hts (cb_good vB) rfl rfl rfl (hts _ vB.2.1) (hts _ v5) vB.2.2.1 hrm, hts _ v3⟩ hpre rfl (by simp) hL.1 rfl (rest_ok h8) d hf
  · refine va_runSN (Ts := TB) (own := M.1.cls) (n := As.length) ⟨hx, hb, hml, hown, hts⟩ hM ⟨va_cnB _ hts (cb_good vB) rfl rfl rfl (hkb.2.2.2.2.1 _ v5) (hts _ vB.2.1) vB.2.2.1 hrm, hts _ v3, trivial⟩ hpre rfl (by simp) hL.1 rfl (rest_ok h8) d hf
theorem s_callI {idx : Nat} {As : List PV} {nm : Nm} (d : Dc M pc (.invokespecial idx) 3 pc') (V : CI M.1.cls idx M' As.length) (K : Con M' lvl' mc' ms' (vR nm :: As) h P) (hl : Nat.blt lvl' lvl = true) (h1 : Nat.ble (k + mc') mc = true) (h2 : Nat.ble (n + ms') ms = true) (h8 : rest8 st = true)
    (kk : ∀ v h', P v h' → S M lvl mc ms Q pc' lv (v.toList ++ st) h' (k + mc') (n + ms')) : S M lvl mc ms Q pc lv (As.reverse ++ vR nm :: st) h k n := by
  intro p l e R s m args below meth c g Qf D0 ρ0 C hR ρ ls H locs hK hL hW hw hlo
  obtain ⟨d, rfl⟩ := d
  obtain ⟨vB, v1, v2, v3, v5⟩ := V
  have hWa : Ws h As := (Ws.left hW).rev
  have hWr := (Ws.right hW)
  have hM := K l g ρ (hWa.cons hWr.hd)
  obtain ⟨hx, hb, hml, hown, hts, hkb, -, hlv, h9, h10⟩ := id C
  have hpre : PreS s H (PcL g ρ h (vR nm :: As)) (.ref (ρ nm) :: As.map (tr ρ)) := ⟨pcL_blind, fun U a b => pcL_pre hw hkb U a b⟩
  have hst : (As.reverse ++ vR nm :: st).map (tr ρ) = (As.map (tr ρ)).reverse ++ .ref (ρ nm) :: st.map (tr ρ) := by simp [List.map_reverse]; rfl
  rw [hst]
  have hrm := lvl_room (mc' := mc') (ms' := ms') hlv (Nat.le_of_ble_eq_true hl) vB.2.2.2
  have hf : k + mc' ≤ R.cells ∧ n + ms' ≤ R.slots := ⟨Nat.le_trans (Nat.le_of_ble_eq_true h1) h9, Nat.le_trans (Nat.le_of_ble_eq_true h2) h10⟩
  have hG := cb_good vB
  obtain ⟨vB1, vB2, vB3, vB4⟩ := vB
  rw [v2] at hM hG
  refine s_back (P := P) C hR hK hL hWr.tl hlo (a := (Value.ref (ρ nm) :: As.map (tr ρ)).toArray) ?_ kk
  rcases v5 with v5 | ⟨host, v5⟩
  · refine va_runI (Ts := TB) (own := M.1.cls) (n := As.length) ⟨hx, hb, hml, hown, hts⟩ hM ⟨callB_of _ hts hG rfl rfl rfl (hts _ vB2) (hts _ v5) vB3 hrm, v1, hts _ v3⟩ hpre rfl (by simp) hL.1 rfl (rest_ok h8) d hf
  · refine va_runIN (Ts := TB) (own := M.1.cls) (n := As.length) ⟨hx, hb, hml, hown, hts⟩ hM ⟨va_cnB _ hts hG rfl rfl rfl (hkb.2.2.2.2.1 _ v5) (hts _ vB2) vB3 hrm, v1, hts _ v3⟩ hpre rfl (by simp) hL.1 rfl (rest_ok h8) d hf
/-- Object's own constructor -/
theorem s_objInit {idx : Nat} {nm : Nm} (d : Dc M pc (.invokespecial idx) 3 pc') (V : Cond.methodLink M.1.cls idx objectInit ∈ TB ∧ Cond.instanceMethod objectInit ∈ TB ∧ Cond.code objectInit ⟨#[0xb1]⟩ 1 none ∈ TB) (hl : Nat.ble 1 lvl = true) (h8 : rest8 st = true) (kk : S M lvl mc ms Q pc' lv st h k n) : S M lvl mc ms Q pc lv (vR nm :: st) h k n := by
  intro p l e R s m args below meth c g Qf D0 ρ0 C hR ρ ls H locs hK hL hW hw hlo
  obtain ⟨d, rfl⟩ := d
  obtain ⟨hx, hb, hml, hown, hts, hkb, -, hlv, h9, h10⟩ := id C
  have hl' := Nat.le_of_ble_eq_true hl
  have h8' := rest_ok (ρ := ρ) h8 (m := m) (pc := pc) (ls := ls) (r0 := st.map (tr ρ))
  refine W.objInit hx hb hown (hts _ V.1) (hts _ V.2.1) (hts _ V.2.2) rfl (by rw [hml]; exact hL.1) rfl d (Nat.le_trans hl' hlv.1) ?_ (kk p l e R s m args below meth c g Qf D0 ρ0 C hR ρ ls H locs hK hL hW.tl hw hlo)
  have h9' : (F0 m pc ls (st.map (tr ρ))).monitorRoom = 0 := rfl
  show 2 * 0 + _ + 12 ≤ _
  rw [h9'] at h8'
  omega
end CL
