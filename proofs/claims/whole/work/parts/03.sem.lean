/-- a method: its name, its bytes, its locals, its answer's type -/
abbrev MD : Type := MethodName × ByteArray × Nat × Option FieldType
def Dc (M : MD) (pc : Nat) (i : Instr) (len pc' : Nat) : Prop := decode M.2.1 pc = .ok (i, len) ∧ pc + len = pc'
def Db (M : MD) (pc : Nat) (i : Int → Instr) (tgt pc' : Nat) : Prop := ∃ off : Int, decode M.2.1 pc = .ok (i off, 3) ∧ (pc : Int) + off = (tgt : Int) ∧ pc + 3 = pc'
def isL : PV → Bool
  | .inr (.inl _) => true
  | _ => false
theorem cat1 {ρ : Nm → Nat} {v : PV} (h : isL v = false) : (tr ρ v).category = 1 := by
  match v, h with
  | .inl _, _ => rfl
  | .inr (.inr none), _ => rfl
  | .inr (.inr (some _)), _ => rfl
/-- the locals -/
def Lo (nL : Nat) (ρ : Nm → Nat) (h : Hp) (ls : Array Slot) (lv : List (Option PV)) : Prop :=
  ls.size = nL ∧ lv_wf ls ∧ ∀ (k : Nat) (v : PV), lv[k]? = some (some v) → ls[k]? = some (.val (tr ρ v)) ∧ wfv h v ∧ isL v = false
def lset : List (Option PV) → Nat → PV → List (Option PV)
  | [], _, _ => []
  | _ :: l, 0, v => some v :: l
  | a :: l, k + 1, v => a :: lset l k v
theorem lset_get (l : List (Option PV)) (k j : Nat) (v : PV) : (lset l k v)[j]? = if j = k then (l[j]?).map (fun _ => some v) else l[j]? := by
  induction l generalizing k j with
  | nil => simp [lset]
  | cons a l ih =>
    cases k with
    | zero =>
      cases j with
      | zero => simp [lset]
      | succ j => simp [lset]
    | succ k =>
      cases j with
      | zero => simp [lset]
      | succ j => simp [lset, ih]
def loL (ρ : Nm → Nat) (lv : List (Option PV)) : List (Nat × Value) := (List.range lv.length).filterMap fun k => match lv[k]? with
  | some (some v) => some (k, tr ρ v)
  | _ => none
theorem Lo.has {nL : Nat} {ρ : Nm → Nat} {h : Hp} {ls : Array Slot} {lv : List (Option PV)} (H : Lo nL ρ h ls lv) : lv_has ls nL (loL ρ lv) := by
  refine ⟨H.1, H.2.1, fun q hq => ?_⟩
  obtain ⟨k, -, hk⟩ := List.mem_filterMap.mp hq
  cases hv : lv[k]? with
  | none => rw [hv] at hk; cases hk
  | some o =>
    cases o with
    | none => rw [hv] at hk; cases hk
    | some v =>
      rw [hv] at hk
      cases hk
      exact (H.2.2 k v hv).1
theorem loL_mem {ρ : Nm → Nat} {lv : List (Option PV)} {k : Nat} {v : PV} (h : lv[k]? = some (some v)) : (k, tr ρ v) ∈ loL ρ lv := by
  refine List.mem_filterMap.mpr ⟨k, List.mem_range.mpr (List.getElem?_eq_some_iff.mp h).1, ?_⟩
  rw [h]
theorem Lo.st {nL : Nat} {ρ : Nm → Nat} {h : Hp} {ls ls' : Array Slot} {lv : List (Option PV)} {i : Nat} {x : PV} (H : Lo nL ρ h ls lv) (hx : wfv h x) (hl : isL x = false)
    (H' : lv_has ls' nL ((i, tr ρ x) :: (loL ρ lv).filter (fun q => !(q.1 == i) && !(q.1 + 1 == i && q.2.category == 2)))) : Lo nL ρ h ls' (lset lv i x) := by
  refine ⟨H'.1, H'.2.1, fun k v hk => ?_⟩
  rw [lset_get] at hk
  by_cases e : k = i
  · subst e
    rw [if_pos rfl] at hk
    cases hv : lv[k]? with
    | none => rw [hv] at hk; cases hk
    | some o =>
      rw [hv] at hk
      cases hk
      exact ⟨H'.2.2 (k, tr ρ x) List.mem_cons_self, hx, hl⟩
  · rw [if_neg e] at hk
    obtain ⟨-, h2, h3⟩ := H.2.2 k v hk
    refine ⟨H'.2.2 (k, tr ρ v) (List.mem_cons_of_mem _ (List.mem_filter.mpr ⟨loL_mem hk, ?_⟩)), h2, h3⟩
    have hc : (tr ρ v).category = 1 := cat1 h3
    simp [e, hc]
theorem Lo.mono {nL : Nat} {ρ ρ' : Nm → Nat} {h h' : Hp} {ls : Array Slot} {lv : List (Option PV)} (H : Lo nL ρ h ls lv) (e : ∀ n, h n ≠ none → h' n ≠ none ∧ ρ' n = ρ n) : Lo nL ρ' h' ls lv := by
  refine ⟨H.1, H.2.1, fun k v hk => ?_⟩
  obtain ⟨h1, h2, h3⟩ := H.2.2 k v hk
  exact ⟨by rw [trx h2 fun n hn => (e n hn).2]; exact h1, h2.mono fun n hn => (e n hn).1, h3⟩
/-- what is known while a method runs -/
def Cx (M : MD) (lvl mc ms : Nat) (p : Program) (R : Room) (s : State) (m : MethodId) (args : Array Value) (meth : Method) (c : Code) (g : Gl) : Prop :=
  p.tables.exec = Jvm.exec ∧ c.code = M.2.1 ∧ c.maxLocals = M.2.2.1 ∧ s.vm.findClass M.1.cls = some m.cls ∧ (∀ w ∈ TB, w.before args s = true) ∧ KB g s ∧ meth.name = M.1.name ∧ (lvl ≤ R.frames ∧ 40 * lvl ≤ R.locals) ∧ mc ≤ R.cells ∧ ms ≤ R.slots
def rOK (ty : Option FieldType) (i : Instr) (v : Option PV) : Prop :=
  (i = .ireturn ∧ ∃ x, v = some (vI x) ∧ (ty = some .int ∨ (ty = some .boolean ∧ (x = 0 ∨ x = 1)))) ∨
  (i = .areturn ∧ ∃ o, v = some (vO o) ∧ ∃ rt, ty = some rt ∧ ((∃ n, rt = .object n) ∨ ∃ t, rt = .array t)) ∨ (i = .return_ ∧ v = none ∧ ty = none)
def Kp (D0 : Nm → Prop) (ρ0 : Nm → Nat) (h : Hp) (ρ : Nm → Nat) : Prop := ∀ n, D0 n → h n ≠ none ∧ ρ n = ρ0 n
def RetOK (M : MD) (mc ms : Nat) (Q : Option PV → Hp → Prop) (p : Program) (l : Launch) (e : Env) (R : Room) (s : State) (m : MethodId) (args : Array Value) (below : List Frame) (meth : Method) (c : Code) (g : Gl) (Qf : State → Prop) (D0 : Nm → Prop) (ρ0 : Nm → Nat) : Prop :=
  ∀ (ri : Instr) (v : Option PV) (ρ : Nm → Nat) (h : Hp) (H : Heap) (locs : List Loc) (pc : Nat) (ls : Array Slot), rOK M.2.2.2 ri v → decode M.2.1 pc = .ok (ri, 1) → Kp D0 ρ0 h ρ → Wd g ρ h s H → (∀ w, v = some w → wfv h w) → (∀ q ∈ locs, gz g ≤ q.base) → Q v h →
    W p l e R s m args below meth c H locs mc ms Qf (F0 m pc ls (v.map (tr ρ)).toList)
/-- from here the method comes to its end, with Q of its answer and the heap -/
def S (M : MD) (lvl mc ms : Nat) (Q : Option PV → Hp → Prop) (pc : Nat) (lv : List (Option PV)) (st : List PV) (h : Hp) (k n : Nat) : Prop :=
  ∀ (p : Program) (l : Launch) (e : Env) (R : Room) (s : State) (m : MethodId) (args : Array Value) (below : List Frame) (meth : Method) (c : Code) (g : Gl) (Qf : State → Prop) (D0 : Nm → Prop) (ρ0 : Nm → Nat),
    Cx M lvl mc ms p R s m args meth c g → RetOK M mc ms Q p l e R s m args below meth c g Qf D0 ρ0 →
    ∀ (ρ : Nm → Nat) (ls : Array Slot) (H : Heap) (locs : List Loc), Kp D0 ρ0 h ρ → Lo M.2.2.1 ρ h ls lv → Ws h st → Wd g ρ h s H → (∀ q ∈ locs, gz g ≤ q.base) →
    W p l e R s m args below meth c H locs k n Qf (F0 m pc ls (st.map (tr ρ)))
section SR
variable {M : MD} {lvl mc ms : Nat} {Q : Option PV → Hp → Prop} {pc pc' tgt : Nat} {lv : List (Option PV)} {st : List PV} {h : Hp} {k n : Nat}
theorem s_iload {i : Nat} {x : Int32} (d : Dc M pc (.iload i) 2 pc') (hl : lv[i]? = some (some (vI x))) (kk : S M lvl mc ms Q pc' lv (vI x :: st) h k n) : S M lvl mc ms Q pc lv st h k n := by
  intro p l e R s m args below meth c g Qf D0 ρ0 C hR ρ ls H locs hK hL hW hw hlo
  obtain ⟨d, rfl⟩ := d
  exact lv_iload C.1 C.2.1 d (hL.2.2 _ _ hl).1 (kk p l e R s m args below meth c g Qf D0 ρ0 C hR ρ ls H locs hK hL (hW.cons trivial) hw hlo)
theorem s_iload_n {j : Fin 4} {i : Nat} {x : Int32} (d : Dc M pc (.iload_n j) 1 pc') (hi : (j : Nat) = i) (hl : lv[i]? = some (some (vI x))) (kk : S M lvl mc ms Q pc' lv (vI x :: st) h k n) : S M lvl mc ms Q pc lv st h k n := by
  intro p l e R s m args below meth c g Qf D0 ρ0 C hR ρ ls H locs hK hL hW hw hlo
  obtain ⟨d, rfl⟩ := d
  exact lv_iload_n C.1 C.2.1 d hi (hL.2.2 _ _ hl).1 (kk p l e R s m args below meth c g Qf D0 ρ0 C hR ρ ls H locs hK hL (hW.cons trivial) hw hlo)
theorem s_aload {i : Nat} {o : Option Nm} (d : Dc M pc (.aload i) 2 pc') (hl : lv[i]? = some (some (vO o))) (kk : S M lvl mc ms Q pc' lv (vO o :: st) h k n) : S M lvl mc ms Q pc lv st h k n := by
  intro p l e R s m args below meth c g Qf D0 ρ0 C hR ρ ls H locs hK hL hW hw hlo
  obtain ⟨d, rfl⟩ := d
  obtain ⟨h1, h2, -⟩ := hL.2.2 _ _ hl
  have k1 := kk p l e R s m args below meth c g Qf D0 ρ0 C hR ρ ls H locs hK hL (hW.cons h2) hw hlo
  cases o with
  | none => exact lv_aloadN C.1 C.2.1 d h1 k1
  | some a => exact lv_aload C.1 C.2.1 d h1 k1
theorem s_aload_n {j : Fin 4} {i : Nat} {o : Option Nm} (d : Dc M pc (.aload_n j) 1 pc') (hi : (j : Nat) = i) (hl : lv[i]? = some (some (vO o))) (kk : S M lvl mc ms Q pc' lv (vO o :: st) h k n) : S M lvl mc ms Q pc lv st h k n := by
  intro p l e R s m args below meth c g Qf D0 ρ0 C hR ρ ls H locs hK hL hW hw hlo
  obtain ⟨d, rfl⟩ := d
  obtain ⟨h1, h2, -⟩ := hL.2.2 _ _ hl
  have k1 := kk p l e R s m args below meth c g Qf D0 ρ0 C hR ρ ls H locs hK hL (hW.cons h2) hw hlo
  cases o with
  | none => exact lv_aload_nN C.1 C.2.1 d hi h1 k1
  | some a => exact lv_aload_n C.1 C.2.1 d hi h1 k1
theorem s_istore {i : Nat} {x : Int32} (d : Dc M pc (.istore i) 2 pc') (hi : Nat.blt i M.2.2.1 = true) (kk : S M lvl mc ms Q pc' (lset lv i (vI x)) st h k n) : S M lvl mc ms Q pc lv (vI x :: st) h k n := by
  intro p l e R s m args below meth c g Qf D0 ρ0 C hR ρ ls H locs hK hL hW hw hlo
  obtain ⟨d, rfl⟩ := d
  exact lv_istore C.1 C.2.1 d hL.has (Nat.le_of_ble_eq_true hi) rfl (fun ls' hl' => kk p l e R s m args below meth c g Qf D0 ρ0 C hR ρ ls' H locs hK (hL.st (x := vI x) trivial rfl hl') hW.tl hw hlo)
theorem s_istore_n {j : Fin 4} {i : Nat} {x : Int32} (d : Dc M pc (.istore_n j) 1 pc') (hj : (j : Nat) = i) (hi : Nat.blt i M.2.2.1 = true) (kk : S M lvl mc ms Q pc' (lset lv i (vI x)) st h k n) : S M lvl mc ms Q pc lv (vI x :: st) h k n := by
  intro p l e R s m args below meth c g Qf D0 ρ0 C hR ρ ls H locs hK hL hW hw hlo
  obtain ⟨d, rfl⟩ := d
  exact lv_istore_n C.1 C.2.1 d hj hL.has (Nat.le_of_ble_eq_true hi) rfl (fun ls' hl' => kk p l e R s m args below meth c g Qf D0 ρ0 C hR ρ ls' H locs hK (hL.st (x := vI x) trivial rfl hl') hW.tl hw hlo)
theorem s_astore {i : Nat} {o : Option Nm} (d : Dc M pc (.astore i) 2 pc') (hi : Nat.blt i M.2.2.1 = true) (kk : S M lvl mc ms Q pc' (lset lv i (vO o)) st h k n) : S M lvl mc ms Q pc lv (vO o :: st) h k n := by
  intro p l e R s m args below meth c g Qf D0 ρ0 C hR ρ ls H locs hK hL hW hw hlo
  obtain ⟨d, rfl⟩ := d
  cases o with
  | none => exact lv_astoreN C.1 C.2.1 d hL.has (Nat.le_of_ble_eq_true hi) rfl (fun ls' hl' => kk p l e R s m args below meth c g Qf D0 ρ0 C hR ρ ls' H locs hK (hL.st (x := vO none) hW.hd rfl hl') hW.tl hw hlo)
  | some a => exact lv_astore C.1 C.2.1 d hL.has (Nat.le_of_ble_eq_true hi) rfl (fun ls' hl' => kk p l e R s m args below meth c g Qf D0 ρ0 C hR ρ ls' H locs hK (hL.st (x := vO (some a)) hW.hd rfl hl') hW.tl hw hlo)
theorem s_astore_n {j : Fin 4} {i : Nat} {o : Option Nm} (d : Dc M pc (.astore_n j) 1 pc') (hj : (j : Nat) = i) (hi : Nat.blt i M.2.2.1 = true) (kk : S M lvl mc ms Q pc' (lset lv i (vO o)) st h k n) : S M lvl mc ms Q pc lv (vO o :: st) h k n := by
  intro p l e R s m args below meth c g Qf D0 ρ0 C hR ρ ls H locs hK hL hW hw hlo
  obtain ⟨d, rfl⟩ := d
  cases o with
  | none => exact lv_astore_nN C.1 C.2.1 d hj hL.has (Nat.le_of_ble_eq_true hi) rfl (fun ls' hl' => kk p l e R s m args below meth c g Qf D0 ρ0 C hR ρ ls' H locs hK (hL.st (x := vO none) hW.hd rfl hl') hW.tl hw hlo)
  | some a => exact lv_astore_n C.1 C.2.1 d hj hL.has (Nat.le_of_ble_eq_true hi) rfl (fun ls' hl' => kk p l e R s m args below meth c g Qf D0 ρ0 C hR ρ ls' H locs hK (hL.st (x := vO (some a)) hW.hd rfl hl') hW.tl hw hlo)
theorem s_iinc {i : Nat} {z : Int} {x : Int32} (d : Dc M pc (.iinc i z) 3 pc') (hl : lv[i]? = some (some (vI x))) (hi : Nat.blt i M.2.2.1 = true) (kk : S M lvl mc ms Q pc' (lset lv i (vI (x + Int32.ofInt z))) st h k n) : S M lvl mc ms Q pc lv st h k n := by
  intro p l e R s m args below meth c g Qf D0 ρ0 C hR ρ ls H locs hK hL hW hw hlo
  obtain ⟨d, rfl⟩ := d
  obtain ⟨q, hq⟩ := List.getElem?_of_mem (loL_mem (ρ := ρ) hl)
  exact lv_iinc C.1 C.2.1 d hL.has hq rfl (Nat.le_of_ble_eq_true hi) rfl (fun ls' hl' => kk p l e R s m args below meth c g Qf D0 ρ0 C hR ρ ls' H locs hK (hL.st (x := vI (x + Int32.ofInt z)) trivial rfl hl') hW hw hlo)
theorem s_iconst {z : Int} {v : Int32} (d : Dc M pc (.iconst z) 1 pc') (hv : Int32.ofInt z = v) (kk : S M lvl mc ms Q pc' lv (vI v :: st) h k n) : S M lvl mc ms Q pc lv st h k n := by
  intro p l e R s m args below meth c g Qf D0 ρ0 C hR ρ ls H locs hK hL hW hw hlo
  obtain ⟨d, rfl⟩ := d
  exact lv_iconst C.1 C.2.1 d hv (kk p l e R s m args below meth c g Qf D0 ρ0 C hR ρ ls H locs hK hL (hW.cons trivial) hw hlo)
theorem s_bipush {z : Int} {v : Int32} (d : Dc M pc (.bipush z) 2 pc') (hv : (Int8.ofInt z).toInt32 = v) (kk : S M lvl mc ms Q pc' lv (vI v :: st) h k n) : S M lvl mc ms Q pc lv st h k n := by
  intro p l e R s m args below meth c g Qf D0 ρ0 C hR ρ ls H locs hK hL hW hw hlo
  obtain ⟨d, rfl⟩ := d
  exact lv_bipush C.1 C.2.1 d hv (kk p l e R s m args below meth c g Qf D0 ρ0 C hR ρ ls H locs hK hL (hW.cons trivial) hw hlo)
theorem s_sipush {z : Int} {v : Int32} (d : Dc M pc (.sipush z) 3 pc') (hv : (Int16.ofInt z).toInt32 = v) (kk : S M lvl mc ms Q pc' lv (vI v :: st) h k n) : S M lvl mc ms Q pc lv st h k n := by
  intro p l e R s m args below meth c g Qf D0 ρ0 C hR ρ ls H locs hK hL hW hw hlo
  obtain ⟨d, rfl⟩ := d
  exact lv_sipush C.1 C.2.1 d hv (kk p l e R s m args below meth c g Qf D0 ρ0 C hR ρ ls H locs hK hL (hW.cons trivial) hw hlo)
theorem s_lconst {z : Fin 2} {v : Int64} (d : Dc M pc (.lconst z) 1 pc') (hv : Int64.ofNat (z : Nat) = v) (kk : S M lvl mc ms Q pc' lv (vL v :: st) h k n) : S M lvl mc ms Q pc lv st h k n := by
  intro p l e R s m args below meth c g Qf D0 ρ0 C hR ρ ls H locs hK hL hW hw hlo
  obtain ⟨d, rfl⟩ := d
  exact lv_lconst C.1 C.2.1 d hv (kk p l e R s m args below meth c g Qf D0 ρ0 C hR ρ ls H locs hK hL (hW.cons trivial) hw hlo)
theorem s_null (d : Dc M pc .aconst_null 1 pc') (kk : S M lvl mc ms Q pc' lv (vN :: st) h k n) : S M lvl mc ms Q pc lv st h k n := by
  intro p l e R s m args below meth c g Qf D0 ρ0 C hR ρ ls H locs hK hL hW hw hlo
  obtain ⟨d, rfl⟩ := d
  exact lv_null C.1 C.2.1 d (kk p l e R s m args below meth c g Qf D0 ρ0 C hR ρ ls H locs hK hL (hW.cons trivial) hw hlo)
theorem s_iadd {x y : Int32} (d : Dc M pc .iadd 1 pc')  (kk : S M lvl mc ms Q pc' lv (vI (x + y) :: st) h k n) : S M lvl mc ms Q pc lv (vI y :: vI x :: st) h k n := by
  intro p l e R s m args below meth c g Qf D0 ρ0 C hR ρ ls H locs hK hL hW hw hlo
  obtain ⟨d, rfl⟩ := d
  exact lv_iadd C.1 C.2.1 d  (kk p l e R s m args below meth c g Qf D0 ρ0 C hR ρ ls H locs hK hL (hW.tl.tl.cons trivial) hw hlo)
theorem s_isub {x y : Int32} (d : Dc M pc .isub 1 pc')  (kk : S M lvl mc ms Q pc' lv (vI (x - y) :: st) h k n) : S M lvl mc ms Q pc lv (vI y :: vI x :: st) h k n := by
  intro p l e R s m args below meth c g Qf D0 ρ0 C hR ρ ls H locs hK hL hW hw hlo
  obtain ⟨d, rfl⟩ := d
  exact lv_isub C.1 C.2.1 d  (kk p l e R s m args below meth c g Qf D0 ρ0 C hR ρ ls H locs hK hL (hW.tl.tl.cons trivial) hw hlo)
theorem s_imul {x y : Int32} (d : Dc M pc .imul 1 pc')  (kk : S M lvl mc ms Q pc' lv (vI (x * y) :: st) h k n) : S M lvl mc ms Q pc lv (vI y :: vI x :: st) h k n := by
  intro p l e R s m args below meth c g Qf D0 ρ0 C hR ρ ls H locs hK hL hW hw hlo
  obtain ⟨d, rfl⟩ := d
  exact lv_imul C.1 C.2.1 d  (kk p l e R s m args below meth c g Qf D0 ρ0 C hR ρ ls H locs hK hL (hW.tl.tl.cons trivial) hw hlo)
theorem s_iand {x y : Int32} (d : Dc M pc .iand 1 pc')  (kk : S M lvl mc ms Q pc' lv (vI (x &&& y) :: st) h k n) : S M lvl mc ms Q pc lv (vI y :: vI x :: st) h k n := by
  intro p l e R s m args below meth c g Qf D0 ρ0 C hR ρ ls H locs hK hL hW hw hlo
  obtain ⟨d, rfl⟩ := d
  exact lv_iand C.1 C.2.1 d  (kk p l e R s m args below meth c g Qf D0 ρ0 C hR ρ ls H locs hK hL (hW.tl.tl.cons trivial) hw hlo)
theorem s_ishr {x y : Int32} (d : Dc M pc .ishr 1 pc')  (kk : S M lvl mc ms Q pc' lv (vI (x >>> (y &&& 31)) :: st) h k n) : S M lvl mc ms Q pc lv (vI y :: vI x :: st) h k n := by
  intro p l e R s m args below meth c g Qf D0 ρ0 C hR ρ ls H locs hK hL hW hw hlo
  obtain ⟨d, rfl⟩ := d
  exact lv_ishr C.1 C.2.1 d  (kk p l e R s m args below meth c g Qf D0 ρ0 C hR ρ ls H locs hK hL (hW.tl.tl.cons trivial) hw hlo)
theorem s_idiv {x y : Int32} (d : Dc M pc .idiv 1 pc') (hy : ¬ y = 0) (kk : S M lvl mc ms Q pc' lv (vI (x / y) :: st) h k n) : S M lvl mc ms Q pc lv (vI y :: vI x :: st) h k n := by
  intro p l e R s m args below meth c g Qf D0 ρ0 C hR ρ ls H locs hK hL hW hw hlo
  obtain ⟨d, rfl⟩ := d
  exact lv_idiv C.1 C.2.1 d hy (kk p l e R s m args below meth c g Qf D0 ρ0 C hR ρ ls H locs hK hL (hW.tl.tl.cons trivial) hw hlo)
theorem s_irem {x y : Int32} (d : Dc M pc .irem 1 pc') (hy : ¬ y = 0) (kk : S M lvl mc ms Q pc' lv (vI (x - x / y * y) :: st) h k n) : S M lvl mc ms Q pc lv (vI y :: vI x :: st) h k n := by
  intro p l e R s m args below meth c g Qf D0 ρ0 C hR ρ ls H locs hK hL hW hw hlo
  obtain ⟨d, rfl⟩ := d
  exact lv_irem C.1 C.2.1 d hy (kk p l e R s m args below meth c g Qf D0 ρ0 C hR ρ ls H locs hK hL (hW.tl.tl.cons trivial) hw hlo)
theorem s_lor {x y : Int64} (d : Dc M pc .lor 1 pc')  (kk : S M lvl mc ms Q pc' lv (vL (x ||| y) :: st) h k n) : S M lvl mc ms Q pc lv (vL y :: vL x :: st) h k n := by
  intro p l e R s m args below meth c g Qf D0 ρ0 C hR ρ ls H locs hK hL hW hw hlo
  obtain ⟨d, rfl⟩ := d
  exact lv_lor C.1 C.2.1 d  (kk p l e R s m args below meth c g Qf D0 ρ0 C hR ρ ls H locs hK hL (hW.tl.tl.cons trivial) hw hlo)
theorem s_land {x y : Int64} (d : Dc M pc .land 1 pc')  (kk : S M lvl mc ms Q pc' lv (vL (x &&& y) :: st) h k n) : S M lvl mc ms Q pc lv (vL y :: vL x :: st) h k n := by
  intro p l e R s m args below meth c g Qf D0 ρ0 C hR ρ ls H locs hK hL hW hw hlo
  obtain ⟨d, rfl⟩ := d
  exact lv_land C.1 C.2.1 d  (kk p l e R s m args below meth c g Qf D0 ρ0 C hR ρ ls H locs hK hL (hW.tl.tl.cons trivial) hw hlo)
theorem s_lshl {x : Int64} {y : Int32} (d : Dc M pc .lshl 1 pc') (kk : S M lvl mc ms Q pc' lv (vL (x <<< (y.toInt64 &&& 63)) :: st) h k n) : S M lvl mc ms Q pc lv (vI y :: vL x :: st) h k n := by
  intro p l e R s m args below meth c g Qf D0 ρ0 C hR ρ ls H locs hK hL hW hw hlo
  obtain ⟨d, rfl⟩ := d
  exact lv_lshl C.1 C.2.1 d rfl (kk p l e R s m args below meth c g Qf D0 ρ0 C hR ρ ls H locs hK hL (hW.tl.tl.cons trivial) hw hlo)
theorem s_lshr {x : Int64} {y : Int32} (d : Dc M pc .lshr 1 pc') (kk : S M lvl mc ms Q pc' lv (vL (x >>> (y.toInt64 &&& 63)) :: st) h k n) : S M lvl mc ms Q pc lv (vI y :: vL x :: st) h k n := by
  intro p l e R s m args below meth c g Qf D0 ρ0 C hR ρ ls H locs hK hL hW hw hlo
  obtain ⟨d, rfl⟩ := d
  exact lv_lshr C.1 C.2.1 d rfl (kk p l e R s m args below meth c g Qf D0 ρ0 C hR ρ ls H locs hK hL (hW.tl.tl.cons trivial) hw hlo)
theorem s_lcmp {x y : Int64} (d : Dc M pc .lcmp 1 pc') (kk : S M lvl mc ms Q pc' lv (vI (lg_cmp x y) :: st) h k n) : S M lvl mc ms Q pc lv (vL y :: vL x :: st) h k n := by
  intro p l e R s m args below meth c g Qf D0 ρ0 C hR ρ ls H locs hK hL hW hw hlo
  obtain ⟨d, rfl⟩ := d
  exact W.lcmp C.1 C.2.1 d (kk p l e R s m args below meth c g Qf D0 ρ0 C hR ρ ls H locs hK hL (hW.tl.tl.cons trivial) hw hlo)
theorem s_dup {v : PV} (d : Dc M pc .dup 1 pc') (hv : isL v = false) (kk : S M lvl mc ms Q pc' lv (v :: v :: st) h k n) : S M lvl mc ms Q pc lv (v :: st) h k n := by
  intro p l e R s m args below meth c g Qf D0 ρ0 C hR ρ ls H locs hK hL hW hw hlo
  obtain ⟨d, rfl⟩ := d
  exact lv_dup C.1 C.2.1 d (cat1 hv) (kk p l e R s m args below meth c g Qf D0 ρ0 C hR ρ ls H locs hK hL (hW.cons hW.hd) hw hlo)
theorem s_pop {v : PV} (d : Dc M pc .pop 1 pc') (hv : isL v = false) (kk : S M lvl mc ms Q pc' lv st h k n) : S M lvl mc ms Q pc lv (v :: st) h k n := by
  intro p l e R s m args below meth c g Qf D0 ρ0 C hR ρ ls H locs hK hL hW hw hlo
  obtain ⟨d, rfl⟩ := d
  exact lv_pop C.1 C.2.1 d (cat1 hv) (kk p l e R s m args below meth c g Qf D0 ρ0 C hR ρ ls H locs hK hL hW.tl hw hlo)
theorem s_dup_x1 {v w : PV} (d : Dc M pc .dup_x1 1 pc') (hv : isL v = false) (hu : isL w = false) (kk : S M lvl mc ms Q pc' lv (v :: w :: v :: st) h k n) : S M lvl mc ms Q pc lv (v :: w :: st) h k n := by
  intro p l e R s m args below meth c g Qf D0 ρ0 C hR ρ ls H locs hK hL hW hw hlo
  obtain ⟨d, rfl⟩ := d
  exact lv_dup_x1 C.1 C.2.1 d (cat1 hv) (cat1 hu) (kk p l e R s m args below meth c g Qf D0 ρ0 C hR ρ ls H locs hK hL (((hW.tl.tl.cons hW.hd).cons hW.tl.hd).cons hW.hd) hw hlo)
theorem s_dup2 {v w : PV} (d : Dc M pc .dup2 1 pc') (hv : isL v = false) (hu : isL w = false) (kk : S M lvl mc ms Q pc' lv (v :: w :: v :: w :: st) h k n) : S M lvl mc ms Q pc lv (v :: w :: st) h k n := by
  intro p l e R s m args below meth c g Qf D0 ρ0 C hR ρ ls H locs hK hL hW hw hlo
  obtain ⟨d, rfl⟩ := d
  exact lv_dup2_11 C.1 C.2.1 d (cat1 hv) (cat1 hu) (kk p l e R s m args below meth c g Qf D0 ρ0 C hR ρ ls H locs hK hL ((hW.cons hW.tl.hd).cons hW.hd) hw hlo)
theorem s_icmp_eq {x y : Int32} (d : Db M pc (.if_icmp .eq) tgt pc') (kt : x = y → S M lvl mc ms Q tgt lv st h k n) (kf : ¬ x = y → S M lvl mc ms Q pc' lv st h k n) : S M lvl mc ms Q pc lv (vI y :: vI x :: st) h k n := by
  intro p l e R s m args below meth c g Qf D0 ρ0 C hR ρ ls H locs hK hL hW hw hlo
  obtain ⟨off, d, ht, rfl⟩ := d
  exact lv_icmp_eq C.1 C.2.1 d ht (fun q => kt q p l e R s m args below meth c g Qf D0 ρ0 C hR ρ ls H locs hK hL hW.tl.tl hw hlo) (fun q => kf q p l e R s m args below meth c g Qf D0 ρ0 C hR ρ ls H locs hK hL hW.tl.tl hw hlo)
theorem s_if_eq {x : Int32} (d : Db M pc (.ifCond .eq) tgt pc') (kt : x = 0 → S M lvl mc ms Q tgt lv st h k n) (kf : ¬ x = 0 → S M lvl mc ms Q pc' lv st h k n) : S M lvl mc ms Q pc lv (vI x :: st) h k n := by
  intro p l e R s m args below meth c g Qf D0 ρ0 C hR ρ ls H locs hK hL hW hw hlo
  obtain ⟨off, d, ht, rfl⟩ := d
  exact lv_if_eq C.1 C.2.1 d ht (fun q => kt q p l e R s m args below meth c g Qf D0 ρ0 C hR ρ ls H locs hK hL hW.tl hw hlo) (fun q => kf q p l e R s m args below meth c g Qf D0 ρ0 C hR ρ ls H locs hK hL hW.tl hw hlo)
theorem s_icmp_ne {x y : Int32} (d : Db M pc (.if_icmp .ne) tgt pc') (kt : ¬ x = y → S M lvl mc ms Q tgt lv st h k n) (kf : x = y → S M lvl mc ms Q pc' lv st h k n) : S M lvl mc ms Q pc lv (vI y :: vI x :: st) h k n := by
  intro p l e R s m args below meth c g Qf D0 ρ0 C hR ρ ls H locs hK hL hW hw hlo
  obtain ⟨off, d, ht, rfl⟩ := d
  exact lv_icmp_ne C.1 C.2.1 d ht (fun q => kt q p l e R s m args below meth c g Qf D0 ρ0 C hR ρ ls H locs hK hL hW.tl.tl hw hlo) (fun q => kf q p l e R s m args below meth c g Qf D0 ρ0 C hR ρ ls H locs hK hL hW.tl.tl hw hlo)
theorem s_if_ne {x : Int32} (d : Db M pc (.ifCond .ne) tgt pc') (kt : ¬ x = 0 → S M lvl mc ms Q tgt lv st h k n) (kf : x = 0 → S M lvl mc ms Q pc' lv st h k n) : S M lvl mc ms Q pc lv (vI x :: st) h k n := by
  intro p l e R s m args below meth c g Qf D0 ρ0 C hR ρ ls H locs hK hL hW hw hlo
  obtain ⟨off, d, ht, rfl⟩ := d
  exact lv_if_ne C.1 C.2.1 d ht (fun q => kt q p l e R s m args below meth c g Qf D0 ρ0 C hR ρ ls H locs hK hL hW.tl hw hlo) (fun q => kf q p l e R s m args below meth c g Qf D0 ρ0 C hR ρ ls H locs hK hL hW.tl hw hlo)
theorem s_icmp_lt {x y : Int32} (d : Db M pc (.if_icmp .lt) tgt pc') (kt : x < y → S M lvl mc ms Q tgt lv st h k n) (kf : ¬ x < y → S M lvl mc ms Q pc' lv st h k n) : S M lvl mc ms Q pc lv (vI y :: vI x :: st) h k n := by
  intro p l e R s m args below meth c g Qf D0 ρ0 C hR ρ ls H locs hK hL hW hw hlo
  obtain ⟨off, d, ht, rfl⟩ := d
  exact lv_icmp_lt C.1 C.2.1 d ht (fun q => kt q p l e R s m args below meth c g Qf D0 ρ0 C hR ρ ls H locs hK hL hW.tl.tl hw hlo) (fun q => kf q p l e R s m args below meth c g Qf D0 ρ0 C hR ρ ls H locs hK hL hW.tl.tl hw hlo)
theorem s_if_lt {x : Int32} (d : Db M pc (.ifCond .lt) tgt pc') (kt : x < 0 → S M lvl mc ms Q tgt lv st h k n) (kf : ¬ x < 0 → S M lvl mc ms Q pc' lv st h k n) : S M lvl mc ms Q pc lv (vI x :: st) h k n := by
  intro p l e R s m args below meth c g Qf D0 ρ0 C hR ρ ls H locs hK hL hW hw hlo
  obtain ⟨off, d, ht, rfl⟩ := d
  exact lv_if_lt C.1 C.2.1 d ht (fun q => kt q p l e R s m args below meth c g Qf D0 ρ0 C hR ρ ls H locs hK hL hW.tl hw hlo) (fun q => kf q p l e R s m args below meth c g Qf D0 ρ0 C hR ρ ls H locs hK hL hW.tl hw hlo)
theorem s_icmp_ge {x y : Int32} (d : Db M pc (.if_icmp .ge) tgt pc') (kt : y ≤ x → S M lvl mc ms Q tgt lv st h k n) (kf : ¬ y ≤ x → S M lvl mc ms Q pc' lv st h k n) : S M lvl mc ms Q pc lv (vI y :: vI x :: st) h k n := by
  intro p l e R s m args below meth c g Qf D0 ρ0 C hR ρ ls H locs hK hL hW hw hlo
  obtain ⟨off, d, ht, rfl⟩ := d
  exact lv_icmp_ge C.1 C.2.1 d ht (fun q => kt q p l e R s m args below meth c g Qf D0 ρ0 C hR ρ ls H locs hK hL hW.tl.tl hw hlo) (fun q => kf q p l e R s m args below meth c g Qf D0 ρ0 C hR ρ ls H locs hK hL hW.tl.tl hw hlo)
theorem s_if_ge {x : Int32} (d : Db M pc (.ifCond .ge) tgt pc') (kt : 0 ≤ x → S M lvl mc ms Q tgt lv st h k n) (kf : ¬ 0 ≤ x → S M lvl mc ms Q pc' lv st h k n) : S M lvl mc ms Q pc lv (vI x :: st) h k n := by
  intro p l e R s m args below meth c g Qf D0 ρ0 C hR ρ ls H locs hK hL hW hw hlo
  obtain ⟨off, d, ht, rfl⟩ := d
  exact lv_if_ge C.1 C.2.1 d ht (fun q => kt q p l e R s m args below meth c g Qf D0 ρ0 C hR ρ ls H locs hK hL hW.tl hw hlo) (fun q => kf q p l e R s m args below meth c g Qf D0 ρ0 C hR ρ ls H locs hK hL hW.tl hw hlo)
theorem s_icmp_gt {x y : Int32} (d : Db M pc (.if_icmp .gt) tgt pc') (kt : y < x → S M lvl mc ms Q tgt lv st h k n) (kf : ¬ y < x → S M lvl mc ms Q pc' lv st h k n) : S M lvl mc ms Q pc lv (vI y :: vI x :: st) h k n := by
  intro p l e R s m args below meth c g Qf D0 ρ0 C hR ρ ls H locs hK hL hW hw hlo
  obtain ⟨off, d, ht, rfl⟩ := d
  exact lv_icmp_gt C.1 C.2.1 d ht (fun q => kt q p l e R s m args below meth c g Qf D0 ρ0 C hR ρ ls H locs hK hL hW.tl.tl hw hlo) (fun q => kf q p l e R s m args below meth c g Qf D0 ρ0 C hR ρ ls H locs hK hL hW.tl.tl hw hlo)
theorem s_if_gt {x : Int32} (d : Db M pc (.ifCond .gt) tgt pc') (kt : 0 < x → S M lvl mc ms Q tgt lv st h k n) (kf : ¬ 0 < x → S M lvl mc ms Q pc' lv st h k n) : S M lvl mc ms Q pc lv (vI x :: st) h k n := by
  intro p l e R s m args below meth c g Qf D0 ρ0 C hR ρ ls H locs hK hL hW hw hlo
  obtain ⟨off, d, ht, rfl⟩ := d
  exact lv_if_gt C.1 C.2.1 d ht (fun q => kt q p l e R s m args below meth c g Qf D0 ρ0 C hR ρ ls H locs hK hL hW.tl hw hlo) (fun q => kf q p l e R s m args below meth c g Qf D0 ρ0 C hR ρ ls H locs hK hL hW.tl hw hlo)
theorem s_icmp_le {x y : Int32} (d : Db M pc (.if_icmp .le) tgt pc') (kt : x ≤ y → S M lvl mc ms Q tgt lv st h k n) (kf : ¬ x ≤ y → S M lvl mc ms Q pc' lv st h k n) : S M lvl mc ms Q pc lv (vI y :: vI x :: st) h k n := by
  intro p l e R s m args below meth c g Qf D0 ρ0 C hR ρ ls H locs hK hL hW hw hlo
  obtain ⟨off, d, ht, rfl⟩ := d
  exact lv_icmp_le C.1 C.2.1 d ht (fun q => kt q p l e R s m args below meth c g Qf D0 ρ0 C hR ρ ls H locs hK hL hW.tl.tl hw hlo) (fun q => kf q p l e R s m args below meth c g Qf D0 ρ0 C hR ρ ls H locs hK hL hW.tl.tl hw hlo)
theorem s_if_le {x : Int32} (d : Db M pc (.ifCond .le) tgt pc') (kt : x ≤ 0 → S M lvl mc ms Q tgt lv st h k n) (kf : ¬ x ≤ 0 → S M lvl mc ms Q pc' lv st h k n) : S M lvl mc ms Q pc lv (vI x :: st) h k n := by
  intro p l e R s m args below meth c g Qf D0 ρ0 C hR ρ ls H locs hK hL hW hw hlo
  obtain ⟨off, d, ht, rfl⟩ := d
  exact lv_if_le C.1 C.2.1 d ht (fun q => kt q p l e R s m args below meth c g Qf D0 ρ0 C hR ρ ls H locs hK hL hW.tl hw hlo) (fun q => kf q p l e R s m args below meth c g Qf D0 ρ0 C hR ρ ls H locs hK hL hW.tl hw hlo)
theorem s_goto (d : Db M pc .goto tgt pc') (kk : S M lvl mc ms Q tgt lv st h k n) : S M lvl mc ms Q pc lv st h k n := by
  intro p l e R s m args below meth c g Qf D0 ρ0 C hR ρ ls H locs hK hL hW hw hlo
  obtain ⟨off, d, ht, -⟩ := d
  exact lv_goto C.1 C.2.1 d ht (kk p l e R s m args below meth c g Qf D0 ρ0 C hR ρ ls H locs hK hL hW hw hlo)
theorem s_ifnull {o : Option Nm} (d : Db M pc .ifnull tgt pc') (kt : o = none → S M lvl mc ms Q tgt lv st h k n) (kf : (∃ a, o = some a) → S M lvl mc ms Q pc' lv st h k n) : S M lvl mc ms Q pc lv (vO o :: st) h k n := by
  intro p l e R s m args below meth c g Qf D0 ρ0 C hR ρ ls H locs hK hL hW hw hlo
  obtain ⟨off, d, ht, rfl⟩ := d
  cases o with
  | none => exact lv_ifnullN C.1 C.2.1 d ht (kt rfl p l e R s m args below meth c g Qf D0 ρ0 C hR ρ ls H locs hK hL hW.tl hw hlo)
  | some a => exact lv_ifnull C.1 C.2.1 d (kf ⟨a, rfl⟩ p l e R s m args below meth c g Qf D0 ρ0 C hR ρ ls H locs hK hL hW.tl hw hlo)
theorem s_ifnonnull {o : Option Nm} (d : Db M pc .ifnonnull tgt pc') (kt : (∃ a, o = some a) → S M lvl mc ms Q tgt lv st h k n) (kf : o = none → S M lvl mc ms Q pc' lv st h k n) : S M lvl mc ms Q pc lv (vO o :: st) h k n := by
  intro p l e R s m args below meth c g Qf D0 ρ0 C hR ρ ls H locs hK hL hW hw hlo
  obtain ⟨off, d, ht, rfl⟩ := d
  cases o with
  | none => exact lv_ifnonnullN C.1 C.2.1 d (kf rfl p l e R s m args below meth c g Qf D0 ρ0 C hR ρ ls H locs hK hL hW.tl hw hlo)
  | some a => exact lv_ifnonnull C.1 C.2.1 d ht (kt ⟨a, rfl⟩ p l e R s m args below meth c g Qf D0 ρ0 C hR ρ ls H locs hK hL hW.tl hw hlo)
theorem oinj {g : Gl} {ρ : Nm → Nat} {h : Hp} {U : State} {H : Heap} (w : Wd g ρ h U H) {a b : Option Nm} (ha : wfv h (vO a)) (hb : wfv h (vO b)) : a.map ρ = b.map ρ ↔ a = b := by
  cases a with
  | none => cases b <;> simp
  | some a =>
    cases b with
    | none => simp
    | some b =>
      simp only [Option.map_some, Option.some.injEq]
      exact ⟨fun e => w.2.1 a b ha hb e, fun e => by rw [e]⟩
theorem tr_o (ρ : Nm → Nat) (o : Option Nm) : tr ρ (vO o) = va_rf (o.map ρ) := by cases o <;> rfl
theorem s_acmp_eq {a b : Option Nm} (d : Db M pc (.if_acmp .eq) tgt pc') (kt : a = b → S M lvl mc ms Q tgt lv st h k n) (kf : ¬ a = b → S M lvl mc ms Q pc' lv st h k n) : S M lvl mc ms Q pc lv (vO b :: vO a :: st) h k n := by
  intro p l e R s m args below meth c g Qf D0 ρ0 C hR ρ ls H locs hK hL hW hw hlo
  obtain ⟨off, d, ht, rfl⟩ := d
  have ee := oinj hw hW.tl.hd hW.hd
  show W p l e R s m args below meth c H locs k n Qf (F0 m pc ls (tr ρ (vO b) :: tr ρ (vO a) :: st.map (tr ρ)))
  rw [tr_o, tr_o]
  exact lv_acmp_eq C.1 C.2.1 d ht (fun q => kt (ee.mp q) p l e R s m args below meth c g Qf D0 ρ0 C hR ρ ls H locs hK hL hW.tl.tl hw hlo) (fun q => kf (fun z => q (ee.mpr z)) p l e R s m args below meth c g Qf D0 ρ0 C hR ρ ls H locs hK hL hW.tl.tl hw hlo)
theorem s_acmp_ne {a b : Option Nm} (d : Db M pc (.if_acmp .ne) tgt pc') (kt : ¬ a = b → S M lvl mc ms Q tgt lv st h k n) (kf : a = b → S M lvl mc ms Q pc' lv st h k n) : S M lvl mc ms Q pc lv (vO b :: vO a :: st) h k n := by
  intro p l e R s m args below meth c g Qf D0 ρ0 C hR ρ ls H locs hK hL hW hw hlo
  obtain ⟨off, d, ht, rfl⟩ := d
  have ee := oinj hw hW.tl.hd hW.hd
  show W p l e R s m args below meth c H locs k n Qf (F0 m pc ls (tr ρ (vO b) :: tr ρ (vO a) :: st.map (tr ρ)))
  rw [tr_o, tr_o]
  exact lv_acmp_ne C.1 C.2.1 d ht (fun q => kt (fun z => q (ee.mpr z)) p l e R s m args below meth c g Qf D0 ρ0 C hR ρ ls H locs hK hL hW.tl.tl hw hlo) (fun q => kf (ee.mp q) p l e R s m args below meth c g Qf D0 ρ0 C hR ρ ls H locs hK hL hW.tl.tl hw hlo)
theorem s_tabIn {dflt lo hi : Int} {offs : Array Int} {len : Nat} {x : Int32} {off : Int} (d : Dc M pc (.tableswitch dflt lo hi offs) len pc') (h1 : ¬ x.toInt < lo) (h2 : ¬ hi < x.toInt) (ho : offs[(x.toInt - lo).toNat]? = some off) (ht : (pc : Int) + off = (tgt : Int)) (kk : S M lvl mc ms Q tgt lv st h k n) : S M lvl mc ms Q pc lv (vI x :: st) h k n := by
  intro p l e R s m args below meth c g Qf D0 ρ0 C hR ρ ls H locs hK hL hW hw hlo
  exact lv_tableIn C.1 C.2.1 d.1 h1 h2 ho ht (kk p l e R s m args below meth c g Qf D0 ρ0 C hR ρ ls H locs hK hL hW.tl hw hlo)
theorem s_tabOut {dflt lo hi : Int} {offs : Array Int} {len : Nat} {x : Int32} (d : Dc M pc (.tableswitch dflt lo hi offs) len pc') (h1 : x.toInt < lo ∨ hi < x.toInt) (ht : (pc : Int) + dflt = (tgt : Int)) (kk : S M lvl mc ms Q tgt lv st h k n) : S M lvl mc ms Q pc lv (vI x :: st) h k n := by
  intro p l e R s m args below meth c g Qf D0 ρ0 C hR ρ ls H locs hK hL hW hw hlo
  exact lv_tableOut C.1 C.2.1 d.1 h1 ht (kk p l e R s m args below meth c g Qf D0 ρ0 C hR ρ ls H locs hK hL hW.tl hw hlo)
theorem s_lookup {dflt : Int} {ps : Array (Int × Int)} {len : Nat} {x : Int32} {off : Int} (d : Dc M pc (.lookupswitch dflt ps) len pc') (hp : (ps.toList.zip (ps.toList.drop 1)).all (fun (a, next) => a.1 < next.1) = true) (ho : Op.lookupswitch.offset ps.toList dflt x.toInt = off) (ht : (pc : Int) + off = (tgt : Int)) (kk : S M lvl mc ms Q tgt lv st h k n) : S M lvl mc ms Q pc lv (vI x :: st) h k n := by
  intro p l e R s m args below meth c g Qf D0 ρ0 C hR ρ ls H locs hK hL hW hw hlo
  exact lv_lookup C.1 C.2.1 d.1 hp ho ht (kk p l e R s m args below meth c g Qf D0 ρ0 C hR ρ ls H locs hK hL hW.tl hw hlo)
theorem s_widen {k' n' : Nat} (h1 : k ≤ k') (h2 : n ≤ n') (kk : S M lvl mc ms Q pc lv st h k' n') : S M lvl mc ms Q pc lv st h k n := by
  intro p l e R s m args below meth c g Qf D0 ρ0 C hR ρ ls H locs hK hL hW hw hlo
  exact W.widen h1 h2 (kk p l e R s m args below meth c g Qf D0 ρ0 C hR ρ ls H locs hK hL hW hw hlo)
theorem s_iret {x : Int32} (d : Dc M pc .ireturn 1 pc') (hr : M.2.2.2 = some .int) (h1 : k ≤ mc) (h2 : n ≤ ms) (hq : Q (some (vI x)) h) : S M lvl mc ms Q pc lv [vI x] h k n := by
  intro p l e R s m args below meth c g Qf D0 ρ0 C hR ρ ls H locs hK hL hW hw hlo
  exact W.widen h1 h2 (hR .ireturn (some (vI x)) ρ h H locs pc ls (Or.inl ⟨rfl, x, rfl, Or.inl hr⟩) d.1 hK hw (fun w e => by cases e; trivial) hlo hq)
theorem s_zret {x : Int32} (d : Dc M pc .ireturn 1 pc') (hr : M.2.2.2 = some .boolean) (hx : x = 0 ∨ x = 1) (h1 : k ≤ mc) (h2 : n ≤ ms) (hq : Q (some (vI x)) h) : S M lvl mc ms Q pc lv [vI x] h k n := by
  intro p l e R s m args below meth c g Qf D0 ρ0 C hR ρ ls H locs hK hL hW hw hlo
  exact W.widen h1 h2 (hR .ireturn (some (vI x)) ρ h H locs pc ls (Or.inl ⟨rfl, x, rfl, Or.inr ⟨hr, hx⟩⟩) d.1 hK hw (fun w e => by cases e; trivial) hlo hq)
theorem s_aret {o : Option Nm} {rt : FieldType} (d : Dc M pc .areturn 1 pc') (hr : M.2.2.2 = some rt) (hrt : (∃ n, rt = .object n) ∨ ∃ t, rt = .array t) (h1 : k ≤ mc) (h2 : n ≤ ms) (hq : Q (some (vO o)) h) : S M lvl mc ms Q pc lv [vO o] h k n := by
  intro p l e R s m args below meth c g Qf D0 ρ0 C hR ρ ls H locs hK hL hW hw hlo
  exact W.widen h1 h2 (hR .areturn (some (vO o)) ρ h H locs pc ls (Or.inr (Or.inl ⟨rfl, o, rfl, rt, hr, hrt⟩)) d.1 hK hw (fun w e => by cases e; exact hW.hd) hlo hq)
theorem s_vret (d : Dc M pc .return_ 1 pc') (hr : M.2.2.2 = none) (h1 : k ≤ mc) (h2 : n ≤ ms) (hq : Q none h) : S M lvl mc ms Q pc lv [] h k n := by
  intro p l e R s m args below meth c g Qf D0 ρ0 C hR ρ ls H locs hK hL hW hw hlo
  exact W.widen h1 h2 (hR .return_ none ρ h H locs pc ls (Or.inr (Or.inr ⟨rfl, rfl, hr⟩)) d.1 hK hw (fun w e => by cases e) hlo hq)
end SR
