/-! THE CLAIM OUT OF ONE WALK OF THE LAW'S BODY. Your part is whole_start (and what it stands on); all else here is the same for every law, but numbers. -/
def R_law : String := "RuleBooksLaw"
def lw_P (b : Addr) (xs : List Int32) (args : Array Value) (s : State) : Prop := args = #[.ref b] ∧ s.IntsAt b xs ∧ xs.length ≤ 3584 ∧ (Jvm.Cond.and given_1 narrow_1).before args s = true
def lw_Q (_ : Array Value) (s : State) (o : Outcome) (t : State) : Prop := o = .returned (some (.int 1)) ∧ Framed s o t [] 600000 7302250
def lw_Z (below : List Frame) (a : Array Value) (s : State) : State → Prop := fun t => ∃ o, t.status = .running ∧ Ended t below o ∧ lw_Q a s o t
/-- the law's own end, with 1 on the stack, nothing written that was there before, its room as the claim has it -/
theorem lw_ret {p : Program} {l : Launch} {e : Env} {s : State} {m : MethodId} {below : List Frame} {meth : Method} {c : Code} {b : Nat} (hx : p.tables.exec = Jvm.exec) (hb : c.code = code) (hr : meth.sig.returnType = ret) (hlocks : meth.locks = false) {pc : Nat} {H : Heap} {ls : Array Slot} (hdg : decode code pc = .ok (.ireturn, 1)) : W p l e room_1 s m #[Value.ref b] below meth c H [] 600000 7302250 (lw_Z below #[Value.ref b] s) (F0 m pc ls [.int 1]) := by
  intro T hT X
  obtain ⟨fs, hret, hrun, hended, hW, hframe⟩ := X.leave (v := some (.int 1)) (hlocks := hlocks) (fun h => by rw [hr] at h; cases h)
  have hmeth' : T.vm.method? m = some meth := X.method'
  refine ⟨T.setFrames fs, ?_, .returned (some (.int 1)), hrun, hended, rfl, ⟨_, rfl⟩, hW, hframe⟩
  jvm_step X.here [X.here.top, hx, hb, hdg, hmeth', hr, ret, narrow_b1]
  (try refine ⟨rfl, ?_⟩); (try refine ⟨rfl, ?_⟩)
  first | (intro acts; rw [hret _ acts rfl rfl rfl]) | rw [hret _ _ rfl rfl rfl]
  exact Steps.refl _
/-- what holds at the law's entry: the machine, the code, the tables' words (any of lw_tbl by 'hts w (by decide +kernel)'), the script of L ints xs at the cell b, what the Statement gives of the start (any of its parts by flat_of_before) -/
def lw_At (p : Program) (s : State) (m : MethodId) (meth : Method) (c : Code) (b L : Nat) (xs : Nat → Int32) : Prop :=
  p.tables.exec = Jvm.exec ∧ c.code = code ∧ meth.sig.returnType = ret ∧ c.maxLocals = 4 ∧ s.vm.findClass R_law = some m.cls ∧ (∀ w ∈ lw_tbl, w.before #[Value.ref b] s = true) ∧ va_X b L xs s s.heap ∧ b < s.heap.size ∧ meth.locks = false ∧ (Jvm.Cond.and given_1 narrow_1).before #[Value.ref b] s = true
-- ===== YOUR PART BEGINS =====
/-- the table's word of rows of rows -/
theorem ao_arr {args : Array Value} {s : State} {t : FieldType} (h : (Cond.arrayOver (.array t)).before args s = true) : ∃ comp c k, s.vm.findClass ("[" ++ t.toString) = some comp ∧ s.vm.classes[c]? = some k ∧ k.kind = .array comp (.array t) ∧ s.vm.findClass ("[" ++ (FieldType.array t).toString) = some c := by
  have h0 : (Cond.arrayOver (.array t)).value args s none s [] = some true := by
    have q := h
    simp only [Cond.before, Cond.holds, beq_iff_eq] at q
    exact q
  cases e1 : s.vm.findClass (FieldType.array t).toString with
  | none => simp [Cond.value, e1] at h0
  | some comp =>
    simp only [Cond.value, e1, Option.bind_some, Option.bind_eq_some_iff, Option.map_eq_some_iff] at h0
    obtain ⟨c, e2, k, e3, e4⟩ := h0
    have e5 := (Array.findIdx?_eq_some_iff_getElem.mp e2).2.1
    rw [(Array.getElem?_eq_some_iff.mp e3).2] at e5
    cases e6 : k.kind with
    | array cc ty =>
      rw [e6] at e4 e5
      simp at e4 e5
      refine ⟨comp, c, k, e1, e3, ?_, e4.2⟩
      rw [e6, e4.1, e5]
    | _ => rw [e6] at e4; simp at e4
/-- the length of an array that is given as 0 -/
theorem e_len {args : Array Value} {s : State} {t : Term} (h : (Term.length t).eval args s none [] s = some (.int 0)) : ∃ a cell, t.eval args s none [] s = some (.ref a) ∧ s.arrayAt? a = some cell ∧ cell.slots.size = 0 := by
  obtain ⟨a, cell, ht, hat, hv⟩ := Term.length_spec h
  have hsz : cell.slots.size < 2 ^ 31 := by
    simp only [Term.eval, ht, hat, Option.bind_eq_bind, Option.bind_some] at h
    by_cases hlt : cell.slots.size < 2147483648
    · exact hlt
    · simp [hlt] at h
  refine ⟨a, cell, ht, hat, ?_⟩
  have e1 := congrArg Int32.toInt (Value.int.inj hv)
  have e2 : (Int32.ofNat cell.slots.size).toInt = cell.slots.size := Int32.toInt_ofNat_small hsz
  have e3 : (0 : Int32).toInt = 0 := rfl
  rw [e3] at e1
  have e4 : (0 : Int) = cell.slots.size := e1.trans e2
  omega
theorem e_row {args : Array Value} {s : State} (hg : (Jvm.Cond.and given_1 narrow_1).before args s = true) : ∃ (t : Nat) (cell : Cell), (Term.static "java/util/ArrayList" "DEFAULTCAPACITY_EMPTY_ELEMENTDATA" "[Ljava/lang/Object;").eval args s none [] s = some (.ref t) ∧ s.heap[t]? = some cell ∧ s.vm.findClass "[Ljava/lang/Object;" = some cell.cls ∧ s.isArrayOf cell (.object "java/lang/Object") ∧ cell.vm ≠ .unknown ∧ cell.slots.size = 0 := by
  have hs := flat_of_before _ hg
  have h1 : (Cond.arrayOf (.static "java/util/ArrayList" "DEFAULTCAPACITY_EMPTY_ELEMENTDATA" "[Ljava/lang/Object;") (.object "java/lang/Object")).before args s = true := hs _ (by decide +kernel)
  have h2 : (Cond.exactly (.static "java/util/ArrayList" "DEFAULTCAPACITY_EMPTY_ELEMENTDATA" "[Ljava/lang/Object;") "[Ljava/lang/Object;").before args s = true := hs _ (by decide +kernel)
  have h3 : (Cond.eq (.length (.static "java/util/ArrayList" "DEFAULTCAPACITY_EMPTY_ELEMENTDATA" "[Ljava/lang/Object;")) (.int 0)).before args s = true := hs _ (by decide +kernel)
  obtain ⟨t, cell, ht, hat, hz⟩ := e_len (va_eqt h3)
  obtain ⟨hcell, hkn, -, -⟩ := State.arrayAt?_spec hat
  obtain ⟨hof, -⟩ := Cond.arrayOf_spec h1 ht hcell
  obtain ⟨a, c, cell2, k, q1, q2, q3, -, -, q6, -⟩ := Cond.exactly_spec h2
  cases ht.symm.trans q1
  cases hcell.symm.trans q3
  exact ⟨t, cell, ht, hcell, by rw [q6]; exact q2, hof, hkn, hz⟩
theorem in_inst : ∀ k, k < 14 → Cond.instantiable (cS k) (cN k) ∈ TB := by decide +kernel
theorem kb_at {args : Array Value} {s : State} (hts : ∀ w ∈ lw_tbl, w.before args s = true) {scr cell : Cell} (hsc : s.isArrayOf scr .int) {mi : Nat} (hmi : va_Mi "[Ljava/lang/Object;" mi s) (hce : s.vm.findClass "[Ljava/lang/Object;" = some cell.cls) : ∃ g : Gl, gz g = s.heap.size ∧ gA g 28 = cell.cls ∧ gA g 29 = scr.cls ∧ KB g s := by
  have hT : ∀ w ∈ TB, w.before args s = true := fun w hw => hts w (List.mem_filter.mp hw).1
  have H1 : ∀ k : Nat, ∃ q : ClassId × (Nat → Nat), k < 14 → u_Kn s (cS k) (cT k) (cN k) q.1 q.2 := fun k => by
    by_cases hk : k < 14
    · obtain ⟨cC, iS, q⟩ := u_known (C := cS k) (T := cT k) (N := cN k) hT (cls_in k hk) (hT _ (in_inst k hk))
      exact ⟨(cC, iS), fun _ => q⟩
    · exact ⟨(0, fun _ => 0), fun q => absurd q hk⟩
  obtain ⟨c20, k20, m20, a1, a2, a3⟩ := Cond.arrayClass_spec (hT _ ac20)
  obtain ⟨c21, k21, m21, b1, b2, b3⟩ := Cond.arrayClass_spec (hT _ ac21)
  have w22 : (Cond.arrayOver (.object "java/lang/Object")).before args s = true := hts _ (by decide +kernel)
  have w23 : (Cond.arrayOver (.array .int)).before args s = true := hts _ (by decide +kernel)
  have w24 : (Cond.arrayOver (.object "RuleBooks$OwnState")).before args s = true := hts _ (by decide +kernel)
  obtain ⟨m22, c22, k22, d1, -, d2, d3, d4⟩ := Cond.arrayOver_spec w22
  obtain ⟨m23, c23, k23, e1, e2, e3, e4⟩ := ao_arr w23
  obtain ⟨m24, c24, k24, f1, -, f2, f3, f4⟩ := Cond.arrayOver_spec w24
  have hc : c22 = cell.cls := by
    have q : ("[" ++ (FieldType.object "java/lang/Object").toString) = "[Ljava/lang/Object;" := by decide +kernel
    rw [q] at d4
    exact Option.some.inj (d4.symm.trans hce)
  obtain ⟨-, kx, x1, compx, x2⟩ := hsc
  refine ⟨(s.heap.size, mi, fun k => (H1 k).choose.1, fun k => (H1 k).choose.2, fun k => if k = 20 then c20 else if k = 21 then c21 else if k = 22 then c22 else if k = 23 then c23 else if k = 24 then c24 else if k = 28 then c22 else scr.cls), rfl, hc, rfl, fun k hk => (H1 k).choose_spec hk, fun k q1 q2 => ?_, rfl, ⟨kx, compx, x1, x2⟩, fun w hw => ?_, va_AO.of w22, va_AO.of w24, hmi⟩
  · rcases (by omega : k = 20 ∨ k = 21 ∨ k = 22 ∨ k = 23 ∨ k = 24) with rfl | rfl | rfl | rfl | rfl
    · exact ⟨k20, m20, a2, a3, a1, (fun C q => by cases q), (fun t q => by cases q)⟩
    · exact ⟨k21, m21, b2, b3, b1, (fun C q => by cases q), (fun t q => by cases q)⟩
    · exact ⟨k22, m22, d2, d3, d4, (fun C q => by cases q; exact d1), (fun t q => by cases q)⟩
    · exact ⟨k23, m23, e2, e3, e4, (fun C q => by cases q), (fun t q => by cases q; exact e1)⟩
    · exact ⟨k24, m24, f2, f3, f4, (fun C q => by cases q; exact f1), (fun t q => by cases q)⟩
  · obtain ⟨q1, q2⟩ := List.mem_filter.mp hw
    exact va_Nw.of (nt_tab q2) (hts w (List.mem_append_right _ q1))
/-- from the entry, for every script of at most 3584 ints, the law comes to its end with true -/
theorem whole_start {p : Program} {e : Env} {s : State} {m : MethodId} {below : List Frame} {meth : Method} {c : Code} (l : Launch) {b L : Nat} {xs : Nat → Int32} (hL : L ≤ 3584) (C0 : lw_At p s m meth c b L xs) : W p l e room_1 s m #[Value.ref b] below meth c s.heap [] 0 0 (lw_Z below #[Value.ref b] s) (entryFrame m ([Value.ref b] : List Value).toArray 4) := by
  obtain ⟨hx, hb, hr, hml, hown, hts, ⟨scr, x1, x2, x3, x4, x5⟩, hbl, hlk, hgv⟩ := C0
  obtain ⟨t, cell, t1, t2, t3, t4, t5, t6⟩ := e_row hgv
  have hmi0 : (Cond.isRef (.mirror "[Ljava/lang/Object;")).before #[Value.ref b] s = true := flat_of_before _ hgv _ (by decide +kernel)
  obtain ⟨mi, hmi⟩ := va_Mi.of hmi0
  obtain ⟨g, z1, z2, z3, z4⟩ := kb_at hts x2 hmi t3
  have hne : b ≠ t := fun q => by
    subst q
    cases x1.symm.trans t2
    obtain ⟨-, k1, p1, m1, p2⟩ := x2
    obtain ⟨-, k2, p3, m2, p4⟩ := t4
    cases p1.symm.trans p3
    cases p2.symm.trans p4
  have w1 : (Cond.laysStatic "java/util/ArrayList" "DEFAULTCAPACITY_EMPTY_ELEMENTDATA" "[Ljava/lang/Object;").before #[Value.ref b] s = true := hts _ (by decide +kernel)
  have w2 : (Cond.initialized "java/util/ArrayList").before #[Value.ref b] s = true := hts _ (by decide +kernel)
  obtain ⟨ρ, r0, r1⟩ : ∃ ρ : Nm → Nat, ρ (0, 0, 0) = b ∧ ρ (1, 0, 0) = t := ⟨fun n => if n = (0, 0, 0) then b else t, if_pos rfl, if_neg (by decide)⟩
  have dm : ∀ n, hB L xs n ≠ none → n = (1, 0, 0) ∨ n = (0, 0, 0) := fun n hn => by
    by_cases q1 : n = (1, 0, 0)
    · exact Or.inl q1
    · by_cases q2 : n = (0, 0, 0)
      · exact Or.inr q2
      · exact absurd (by unfold hB; rw [if_neg q1, if_neg q2]) hn
  have b1 : hB L xs (1, 0, 0) = some (28, 0, fun _ => vN) := by
    unfold hB
    rw [if_pos rfl]
  have hw : Wd g ρ (hB L xs) s s.heap := by
    refine ⟨fun n q hq => ?_, fun n n' hn hn' q => ?_, fun n hn h2 => ?_, by rw [z1]; exact Nat.le_refl _, b1, ?_⟩
    · rcases dm n (by rw [hq]; exact fun q => by cases q) with rfl | rfl
      · cases b1.symm.trans hq
        refine ⟨?_, fun j => trivial⟩
        unfold cOK
        rw [if_neg (show ¬ (28 < 14) by decide), if_neg (show ¬ (28 < 25) by decide), r1]
        exact ⟨cell, t2, z2.symm, t5, t4.1, t6, fun j hj => absurd hj (Nat.not_lt_zero _)⟩
      · cases hB_s.symm.trans hq
        refine ⟨?_, fun j => trivial⟩
        unfold cOK
        rw [if_neg (show ¬ (29 < 14) by decide), if_neg (show ¬ (29 < 25) by decide), r0]
        exact ⟨scr, x1, z3.symm, x3, x2.1, x4, fun j hj => x5 j hj⟩
    · rcases dm n hn with rfl | rfl <;> rcases dm n' hn' with rfl | rfl
      · rfl
      · rw [r0, r1] at q
        exact absurd q.symm hne
      · rw [r0, r1] at q
        exact absurd q hne
      · rfl
    · rcases dm n hn with rfl | rfl
      · exact absurd h2 (by decide)
      · exact absurd h2 (by decide)
    · unfold eZ
      rw [r1]
      exact va_Zref w1 w2 t1 (fun a ha q => by rw [z1] at q; omega)
  have C : Cx (mLx meth.name) 40 600000 7302250 p room_1 s m #[Value.ref b] meth c g := ⟨hx, hb, hml, hown, fun w hw => hts w (List.mem_filter.mp hw).1, z4, rfl, ⟨Nat.le_of_ble_eq_true rfl, Nat.le_of_ble_eq_true rfl⟩, Nat.le_refl _, Nat.le_refl _⟩
  have hent := lv_entry [Value.ref b] (n := 4) (Nat.le_of_ble_eq_true rfl)
  rw [lg_entry_eq]
  refine s_law hL p l e room_1 s m #[Value.ref b] below meth c g (lw_Z below #[Value.ref b] s) (fun n => hB L xs n ≠ none) ρ C ?_ ρ _ s.heap [] (fun n hn => ⟨hn, rfl⟩) ⟨hent.1, hent.2.1, fun k v hk => ?_⟩ Ws.nil hw (fun q hq => by cases hq)
  · intro ri v ρ' h' H locs pc ls hro hd hK hw' hwf hlo hq
    subst hq
    rcases hro with ⟨rfl, x, hv, -⟩ | ⟨rfl, o, hv, -⟩ | ⟨rfl, hv, -⟩
    · exact va_forget (fun q hq => by rw [← z1]; exact hlo q hq) (lw_ret hx hb hr hlk hd)
    · cases hv
    · cases hv
  · match k, hk with
    | 0, hk =>
      cases hk
      refine ⟨?_, by show hB L xs (0, 0, 0) ≠ none; rw [hB_s]; exact (fun q => by cases q), rfl⟩
      show _ = some (Slot.val (.ref (ρ (0, 0, 0))))
      rw [r0]
      exact hent.2.2 (0, Value.ref b) List.mem_cons_self
    | 1, hk => cases hk
    | 2, hk => cases hk
    | 3, hk => cases hk
    | k + 4, hk => cases hk
-- ===== YOUR PART ENDS =====
set_option maxHeartbeats 4000000 in
theorem lw_walk (l : Launch) (b : Addr) (xs : List Int32) : MetFree l x (headSpec (Jvm.Cond.code x code maxLocals ret :: tables_1) room_1) (lw_P b xs) (fun _ _ _ _ _ => True) lw_Q := by
  refine MetFree.of_bodyS (code := code) (maxLocals := maxLocals) (ret := ret) (by decide) ?_ ?_
  · intro args s m h hn
    obtain ⟨meth, c, h1, h2, h3, h4, h5, h6, -, -⟩ := Cond.code_spec hn (atoms_spec (ws := Jvm.Cond.code x code maxLocals ret :: tables_1) h _ List.mem_cons_self)
    exact ⟨meth, c, h1, h2, h3, h4, h5, h6⟩
  · intro p e s m args below meth c s₁ B hml0 hP _
    obtain ⟨rfl, hx, hbd, hgv⟩ := hP
    obtain ⟨scr, harrAt, hlist, hof, hsmall⟩ := hx
    obtain ⟨hcb, hkn, -, -⟩ := State.arrayAt?_spec harrAt
    have hown : s.vm.findClass R_law = some m.cls := findClass_of_methodNamed B.named
    have hts0 : ∀ c ∈ (Jvm.Cond.code x code maxLocals ret :: tables_1), c.before #[Value.ref b] s = true := atoms_spec (ws := Jvm.Cond.code x code maxLocals ret :: tables_1) B.pre
    have hts : ∀ w ∈ lw_tbl, w.before #[Value.ref b] s = true := k2_hts_sels lw_privs (fun w hw => hts0 w (List.mem_cons_of_mem _ hw)) lw_privs_ok
    have hml : c.maxLocals = 4 := B.maxLocals_eq (hts0 _ List.mem_cons_self)
    have X₀ : Stand p l e room_1 s m #[Value.ref b] below meth c s₁ [] 0 0 := Stand.of_body B
    have hh0 : s₁.heap = s.heap := by rw [B.state]; rfl
    have hsz : scr.slots.size = xs.length := by rw [← Array.length_toList, hlist, List.length_map]
    have hval : ∀ j : Nat, j < xs.length → scr.slots[j]? = some (.int (xs.getD j 0)) := fun j hj => by
      rw [← Array.getElem?_toList, hlist]
      simp [hj]
    have hbl : b < s.heap.size := (Array.getElem?_eq_some_iff.mp hcb).1
    have hX : va_X b xs.length (fun j => xs.getD j 0) s s.heap := ⟨scr, hcb, hof, hkn, hsz, hval⟩
    have K : W p l e room_1 s m #[Value.ref b] below meth c s₁.heap [] 0 0 (lw_Z below #[Value.ref b] s) (entryFrame m ([Value.ref b] : List Value).toArray 4) := by
      rw [hh0]
      exact whole_start l hbd ⟨B.exec, B.bytes, B.returns, hml, hown, hts, hX, hbl, B.notSynchronized, hgv⟩
    obtain ⟨t, a1, o, b1, b2, b3⟩ := K s₁ rfl X₀
    exact ⟨t, o, a1, b1, b2, b3⟩
theorem lw_pre_spec {args : Array Value} {s : State} (h : (Jvm.Cond.and given_1 narrow_1).before args s = true) (hr : rest_1_c.before args s = true) : ∃ (b : Addr) (xs : List Int32), lw_P b xs args s := by
  have hs := flat_of_before _ h
  have hq := flat_of_before _ hr
  have hc : (Cond.count 1).before args s = true := hs _ (by decide +kernel)
  have harr : (Cond.arrayOf (.arg 0) .int).before args s = true := hs _ (by decide +kernel)
  have hle : (Cond.le (.length (.arg 0)) (.int 3584)).before args s = true := hs _ (by decide +kernel)
  have hlen : (Cond.isInt (.length (.arg 0))).before args s = true := hq _ (by decide +kernel)
  have hall : (Cond.all (.arg 0) (.isInt (.elem (.arg 0) (.index 0)))).before args s = true := hq _ (by decide +kernel)
  obtain ⟨b, xs, hb, hx⟩ := State.ints_of_pre rfl harr hlen hall
  have hsm : xs.length < 2 ^ 31 := hx.choose_spec.2.2.2
  have hev : (Term.length (.arg 0)).eval args s none [] s = some (.int xs.length.toInt32) := hx.length_eval hb
  have hv := Cond.le_ints hev (show (Term.int 3584).eval args s none [] s = some (.int 3584) from rfl)
  have hd : xs.length.toInt32 ≤ 3584 := by
    simpa [Cond.before, Cond.holds, hv] using hle
  have hN : xs.length ≤ 3584 := (Int32.ofNat_le_ofNat hsm (by decide)).mp (show Int32.ofNat xs.length ≤ Int32.ofNat 3584 from hd)
  exact ⟨b, xs, Cond.one_arg hc (show args[0]? = some (.ref b) from hb), hx, hN, h⟩
theorem lw_comes (l : Launch) : Comes l x (Jvm.Cond.code x code maxLocals ret :: tables_1) room_1 (fun tb e args s => Calls_1 tb e args s ∧ rest_1 tb e args s ∧ Pre_1 tb e args s)
    (fun _ _ args s o t => lw_Q args s o t) := by
  intro p e ha hc hk s m args below hf hfit hheap happ hpre
  obtain ⟨b, xs, hP⟩ := lw_pre_spec hpre.2.2 hpre.2.1
  obtain ⟨k, o, h1, h2, h3, hQ⟩ := lw_walk l b xs p e ha hc hk s m args below hf ((Spec.applies_iff_loose hf).mp happ).1 hP trivial
  exact ⟨k, o, h1, h2, h3, hQ⟩
theorem lw_frame {s t : State} {o : Outcome} {args : Array Value} (h : Framed s o t [] 600000 7302250) :
    Framed s o t (fieldLocs frame_1_writes args s ++ arrayLocs frame_1_arrays args s ++ staticLocs frame_1_statics s) 600000 7302250 := h
theorem lw_limb (L : Cond) (hL : ∀ (args : Array Value) (s t : State), L.after args s (.returned (some (.int 1))) t = true) :
    ArmFor flags0 classFile x code maxLocals ret World_1 tables_1 room_1 Calls_1 rest_1 Pre_1
      (fun tb e a s o t => postC L tb e a s o t ∧ Framed s o t (fieldLocs frame_1_writes a s ++ arrayLocs frame_1_arrays a s ++ staticLocs frame_1_statics s) 600000 7302250) := by
  intro l _ _ _ p e ha hc hk s m args below hf hfit hheap happ hpre
  obtain ⟨k, o, h1, h2, h3, rfl, hF⟩ := lw_comes l p e ha hc hk s m args below hf hfit hheap happ hpre
  exact ⟨k, _, h1, h2, h3, hL args s _, lw_frame hF⟩
theorem i_vc : Claimed_1_1 ∧ Claimed_1_2 := ⟨lw_limb limb_1_1 (fun args s t => by simp [limb_1_1, Cond.after, Cond.holds, Cond.value]), lw_limb limb_1_2 (fun args s t => Cond.after_iff.mpr (by
  first | (rw [show limb_1_2 = Cond.eq .result (.int 1) from rfl, Cond.eq_ints (x := 1) (y := 1) rfl rfl]; simp; done) | (simp [limb_1_2, Cond.value, Term.eval]; done)))⟩
