/-! rows of rows -/
section MA
variable {E : CtlPost} {e : Env} {d : Bool} {acts : List Action} {s : State}
theorem wp_newArr {c comp : ClassId} {k : Class} {ty : FieldType} {n : Nat} {v : Value} {Q : Addr → Pre} (hk : s.vm.classes[c]? = some k) (hkind : k.kind = .array comp ty) (hl : ¬ n > e.platform.arrayLengthLimit) (hh : ¬ n * componentBytes ty > e.platform.maxHeapBytes)
    (h1 : s.heap.size < e.platform.maxCells) (h2 : s.slotsUsed + n ≤ e.platform.maxSlots) (hv : fits ty v = true)
    (hq : ∀ acts', Q s.heap.size d acts' (s.pushCell { cls := c, slots := Array.replicate n v, vm := .none })) : wp (Jvm.newArray c n v) Q E e d acts s := by
  have hfit : ∀ i w, (Array.replicate n v)[i]? = some w → s.fitsSlot c .none i w = true := by
    intro i w hw
    simp only [Array.getElem?_replicate] at hw
    split at hw
    · cases hw
      simp [State.fitsSlot, State.slotType?, hk, hkind, hv]
    · cases hw
  simp only [Jvm.newArray, Jvm.arrayFits, wp_bind', W.ask, W.ite, hl, if_false, W.theClass, wp_pure']
  refine ⟨k, hk, ?_⟩
  rw [hkind]
  simp only [wp_bind', W.ask, W.ite, hh, if_false, wp_pure', W.stop, W.alloc]
  rw [if_neg (by omega)]
  exact ⟨h1, by simpa using h2, hfit, hq _⟩
theorem wp_mkI {c comp : ClassId} {k : Class} {n : Int32} {Q : Addr → Pre} (hk : s.vm.classes[c]? = some k) (hkind : k.kind = .array comp .int) (hn : ¬ n < 0) (hl : ¬ n.toNatClampNeg > e.platform.arrayLengthLimit) (hh : ¬ n.toNatClampNeg * componentBytes .int > e.platform.maxHeapBytes)
    (h1 : s.heap.size < e.platform.maxCells) (h2 : s.slotsUsed + n.toNatClampNeg ≤ e.platform.maxSlots)
    (hq : ∀ acts', Q s.heap.size d acts' (s.pushCell { cls := c, slots := Array.replicate n.toNatClampNeg (.int 0), vm := .none })) : wp (Jvm.Op.multianewarray.make c [n]) Q E e d acts s := by
  unfold Jvm.Op.multianewarray.make
  simp only [wp_bind', W.ite, hn, if_false, wp_pure', W.theClass]
  refine ⟨k, hk, ?_⟩
  rw [hkind]
  exact wp_newArr hk hkind hl hh h1 h2 rfl hq
/-- the outer row, k of whose places are filled -/
def ocC (c : ClassId) (a n : Nat) : Nat → Cell
  | 0 => { cls := c, slots := Array.replicate n .null, vm := .none }
  | k + 1 => (ocC c a n k).setSlot k (.ref (a + 1 + k))
theorem ocC_f {c : ClassId} {a n : Nat} : ∀ k, k ≤ n → (ocC c a n k).cls = c ∧ (ocC c a n k).vm = .none ∧ (ocC c a n k).slots.size = n ∧ ∀ j, j < n → (ocC c a n k).slots[j]? = some (if j < k then Value.ref (a + 1 + j) else Value.null) := by
  intro k
  induction k with
  | zero =>
    intro _
    refine ⟨rfl, rfl, by simp [ocC], fun j hj => ?_⟩
    simp [ocC, hj]
  | succ k ih =>
    intro hk
    obtain ⟨i1, i2, i3, i4⟩ := ih (by omega)
    refine ⟨i1, i2, by simp [ocC, Cell.setSlot, i3], fun j hj => ?_⟩
    have i5 := i4 j hj
    simp only [ocC, Cell.setSlot, Array.getElem?_setIfInBounds]
    by_cases c1 : k = j
    · subst c1
      rw [if_pos rfl, if_pos (by omega), if_pos (by omega)]
    · rw [if_neg c1, i5]
      by_cases c2 : j < k
      · rw [if_pos c2, if_pos (by omega)]
      · rw [if_neg c2, if_neg (by omega)]
/-- a row of rows, of which k are made -/
def mmS (s : State) (c c1 : ClassId) (n m : Nat) : Nat → State
  | 0 => s.pushCell (ocC c s.heap.size n 0)
  | k + 1 => ((mmS s c c1 n m k).pushCell { cls := c1, slots := Array.replicate m (.int 0), vm := .none }).setCell s.heap.size (ocC c s.heap.size n (k + 1))
theorem mmS_f {s : State} {c c1 : ClassId} {n m : Nat} : ∀ k, k ≤ n → (mmS s c c1 n m k).heap.size = s.heap.size + 1 + k ∧ (mmS s c c1 n m k).heap[s.heap.size]? = some (ocC c s.heap.size n k) ∧ (∀ j, j < k → (mmS s c c1 n m k).heap[s.heap.size + 1 + j]? = some { cls := c1, slots := Array.replicate m (.int 0), vm := .none }) ∧ (∀ q, q < s.heap.size → (mmS s c c1 n m k).heap[q]? = s.heap[q]?) ∧ (mmS s c c1 n m k).vm = s.vm ∧ (mmS s c c1 n m k).slotsUsed = s.slotsUsed + n + k * m := by
  intro k
  induction k with
  | zero =>
    intro _
    refine ⟨by simp [mmS, State.pushCell], by simp [mmS, State.pushCell], fun j hj => by omega, fun q hq => ?_, rfl, by simp [mmS, State.pushCell, ocC]⟩
    simp only [mmS, State.pushCell, Array.getElem?_push]
    rw [if_neg (by omega)]
  | succ k ih =>
    intro hk
    obtain ⟨i1, i2, i3, i4, i5, i6⟩ := ih (by omega)
    refine ⟨?_, ?_, fun j hj => ?_, fun q hq => ?_, i5, ?_⟩
    · simp [mmS, State.pushCell, State.setCell, i1]
      omega
    · simp only [mmS, State.pushCell, State.setCell, Array.getElem?_setIfInBounds, Array.size_push, i1]
      rw [if_pos trivial, if_pos (by omega)]
    · simp only [mmS, State.pushCell, State.setCell, Array.getElem?_setIfInBounds, Array.getElem?_push, i1]
      rw [if_neg (by omega)]
      by_cases c1 : j = k
      · subst c1
        rw [if_pos rfl]
      · rw [if_neg (by omega)]
        exact i3 j (by omega)
    · simp only [mmS, State.pushCell, State.setCell, Array.getElem?_setIfInBounds, Array.getElem?_push, i1]
      rw [if_neg (by omega), if_neg (by omega)]
      exact i4 q hq
    · simp only [mmS, State.pushCell, State.setCell, i6, Array.size_replicate]
      rw [Nat.succ_mul]
      omega
theorem wp_mk2 {c c1 comp : ClassId} {k0 k1 : Class} {n m : Int32} {Q : Addr → Pre} (hk : s.vm.classes[c]? = some k0) (hkind : k0.kind = .array c1 (.array .int)) (hk1 : s.vm.classes[c1]? = some k1) (hkind1 : k1.kind = .array comp .int) (hn : ¬ n < 0) (hn0 : (n == 0) = false) (hm : ¬ m < 0)
    (hl : ¬ n.toNatClampNeg > e.platform.arrayLengthLimit) (hh : ¬ n.toNatClampNeg * componentBytes (.array .int) > e.platform.maxHeapBytes) (hl1 : ¬ m.toNatClampNeg > e.platform.arrayLengthLimit) (hh1 : ¬ m.toNatClampNeg * componentBytes .int > e.platform.maxHeapBytes)
    (h1 : s.heap.size + 1 + n.toNatClampNeg ≤ e.platform.maxCells) (h2 : s.slotsUsed + n.toNatClampNeg + n.toNatClampNeg * m.toNatClampNeg ≤ e.platform.maxSlots)
    (hq : ∀ d acts', Q s.heap.size d acts' (mmS s c c1 n.toNatClampNeg m.toNatClampNeg n.toNatClampNeg)) : wp (Jvm.Op.multianewarray.make c [n, m]) Q E e d acts s := by
  generalize hN : n.toNatClampNeg = N at *
  generalize hM : m.toNatClampNeg = M at *
  unfold Jvm.Op.multianewarray.make
  simp only [wp_bind', W.ite, hn, if_false, wp_pure', W.theClass]
  refine ⟨k0, hk, ?_⟩
  rw [hkind]
  simp only [wp_bind']
  rw [hN]
  refine wp_newArr hk hkind hl hh (by omega) (by omega) rfl (fun acts1 => ?_)
  have key : ∀ (t k : Nat) (d : Bool) (acts : List Action), k + t = N → wp (forIn (List.range' k t 1) PUnit.unit (fun (i : Nat) (_ : PUnit) => (do
      let r ← Jvm.Op.multianewarray.make c1 [m]
      Jvm.writeLoc s.heap.size i (Value.ref r)
      Pure.pure (ForInStep.yield PUnit.unit) : Sem (ForInStep PUnit)))) (fun _ d a s' => Q s.heap.size d a s') E e d acts (mmS s c c1 N M k) := by
    intro t
    induction t with
    | zero =>
      intro k d acts hkt
      have ek : k = N := by omega
      subst ek
      simp only [List.range'_zero, List.forIn_nil, wp_pure']
      exact hq d acts
    | succ t ih =>
      intro k d acts hkt
      obtain ⟨i1, i2, i3, i4, i5, i6⟩ := mmS_f (s := s) (c := c) (c1 := c1) (m := M) k (show k ≤ N by omega)
      obtain ⟨o1, o2, o3, o4⟩ := ocC_f (c := c) (a := s.heap.size) k (show k ≤ N by omega)
      have hle : k * M + M ≤ N * M := by
        rw [← Nat.succ_mul]
        exact Nat.mul_le_mul_right M (by omega)
      simp only [List.range'_succ, List.forIn_cons, wp_bind']
      refine wp_mkI (k := k1) (comp := comp) (by rw [i5]; exact hk1) hkind1 hm (by rw [hM]; exact hl1) (by rw [hM]; exact hh1) (by rw [i1]; omega) (by rw [i6, hM]; omega) (fun acts2 => ?_)
      rw [hM]
      show wp _ _ E e d acts2 _
      simp only [wp_bind', W.writeLoc]
      refine ⟨ocC c s.heap.size N k, ?_, by rw [o2]; exact fun q => (by cases q), by rw [o3]; omega, ?_, ?_⟩
      · simp only [State.pushCell, Array.getElem?_push, i1]
        rw [if_neg (by omega)]
        exact i2
      · simp [State.fitsSlot, State.slotType?, State.pushCell, o1, o2, i5, hk, hkind, fits]
      · simp only [wp_pure']
        rw [i1]
        exact ih (k + 1) _ _ (by omega)
  rw [hn0]
  simp only [Bool.false_eq_true, if_false, wp_bind', wp_pure']
  rw [Std.Legacy.Range.forIn_eq_forIn_range']
  have k0 := key N 0 d acts1 (by omega)
  rw [show ([:N] : Std.Legacy.Range).size = N by simp [Std.Legacy.Range.size]]
  exact k0
theorem mmS_top {f : JFrame} {c c1 : ClassId} {n m : Nat} : ∀ k, mmS (s.setTop f) c c1 n m k = (mmS s c c1 n m k).setTop f := by
  intro k
  induction k with
  | zero => rfl
  | succ k ih =>
    show ((mmS (s.setTop f) c c1 n m k).pushCell _).setCell _ _ = _
    rw [ih]
    rfl
theorem mmS_tj {c c1 : ClassId} {n m : Nat} : ∀ k, (mmS s c c1 n m k).topJava? = s.topJava? := by
  intro k
  induction k with
  | zero => rfl
  | succ k ih => exact ih
theorem wp_sem2 {index : Nat} {c c1 comp : ClassId} {k0 k1 : Class} {n m : Int32} {f : JFrame} {rest : List Value} {Q : Unit → Pre} (hs : s.topJava?.isSome) (hr : s.vm.classReady f.method.cls index c) (hk : s.vm.classes[c]? = some k0) (hkind : k0.kind = .array c1 (.array .int)) (hk1 : s.vm.classes[c1]? = some k1) (hkind1 : k1.kind = .array comp .int)
    (hstack : f.stack = .int m :: .int n :: rest) (hn : ¬ n < 0) (hn0 : (n == 0) = false) (hm : ¬ m < 0)
    (hl : ¬ n.toNatClampNeg > e.platform.arrayLengthLimit) (hh : ¬ n.toNatClampNeg * componentBytes (.array .int) > e.platform.maxHeapBytes) (hl1 : ¬ m.toNatClampNeg > e.platform.arrayLengthLimit) (hh1 : ¬ m.toNatClampNeg * componentBytes .int > e.platform.maxHeapBytes)
    (h1 : s.heap.size + 1 + n.toNatClampNeg ≤ e.platform.maxCells) (h2 : s.slotsUsed + n.toNatClampNeg + n.toNatClampNeg * m.toNatClampNeg ≤ e.platform.maxSlots)
    (hq : ∀ d acts', Q () d acts' ((mmS s c c1 n.toNatClampNeg m.toNatClampNeg n.toNatClampNeg).setTop { f with stack := .ref s.heap.size :: rest })) : wp (Jvm.Op.multianewarray.sem index 2) Q E e d acts (s.setTop f) := by
  have hp := fun (Q : List Value → Pre) (d : Bool) => Jvm.Op.popN_top (E := E) (e := e) (d := d) (acts := acts) (Q := Q) hs (f := f) (args := [.int n, .int m]) (rest := rest) hstack
  simp only [Jvm.Op.multianewarray.sem, wp_bind', W.resolveClassAt_ready (State.method?_setTop f hs) hr]
  refine (hp _ _).mpr ?_
  simp only [List.mapM_cons, List.mapM_nil, wp_bind', wp_pure']
  refine wp_mk2 (s := s.setTop { f with stack := rest }) (k0 := k0) (k1 := k1) (c1 := c1) (comp := comp) hk hkind hk1 hkind1 hn hn0 hm hl hh hl1 hh1 h1 h2 (fun d acts' => ?_)
  rw [mmS_top]
  have ht : (mmS s c c1 n.toNatClampNeg m.toNatClampNeg n.toNatClampNeg).topJava?.isSome := by rw [mmS_tj]; exact hs
  show wp _ _ E e d acts' _
  simp only [wp_bind', W.mark, W.pushRef, State.topJava?_setTop' _ ht, Option.some.injEq, exists_eq_left', State.setTop_setTop]
  exact hq _ _
end MA
section MB
variable {p : Program} {l : Launch} {e : Env} {R : Room} {s : State} {m : MethodId} {args : Array Value} {below : List Frame} {meth : Method} {c : Code} {T : State} {locs : List Loc} {cells slots : Nat}
theorem mm_stand {cA c1 : ClassId} {n M : Nat} (X : Stand p l e R s m args below meth c T locs cells slots) : ∀ k, k ≤ n → ∃ locs', (∀ q ∈ locs', q ∈ locs ∨ q.base = T.heap.size) ∧ Stand p l e R s m args below meth c (mmS T cA c1 n M k) locs' (cells + 1 + k) (slots + n + k * M) := by
  intro k
  induction k with
  | zero =>
    intro _
    have h1 := X.pushed (ocC cA T.heap.size n 0)
    rw [show (ocC cA T.heap.size n 0).slots.size = n by simp [ocC]] at h1
    exact ⟨locs, fun q hq => Or.inl hq, by simpa [mmS] using h1⟩
  | succ k ih =>
    intro hk
    obtain ⟨lo, h1, h2⟩ := ih (by omega)
    obtain ⟨i1, i2, -⟩ := mmS_f (s := T) (c := cA) (c1 := c1) (m := M) k (show k ≤ n by omega)
    have h3 := h2.pushed { cls := c1, slots := Array.replicate M (.int 0), vm := .none }
    have h4 : ((mmS T cA c1 n M k).pushCell { cls := c1, slots := Array.replicate M (.int 0), vm := .none }).heap[T.heap.size]? = some (ocC cA T.heap.size n k) := by
      simp only [State.pushCell, Array.getElem?_push, i1]
      rw [if_neg (by omega)]
      exact i2
    have h5 := h3.stored h4 k (.ref (T.heap.size + 1 + k))
    refine ⟨lo ++ [⟨T.heap.size, k⟩], fun q hq => ?_, ?_⟩
    · rcases List.mem_append.mp hq with c1 | c1
      · exact h1 q c1
      · rw [List.mem_singleton.mp c1]; exact Or.inr rfl
    · have e1 : slots + n + k * M + (Array.replicate M (Value.int 0)).size = slots + n + (k + 1) * M := by
        rw [Array.size_replicate, Nat.succ_mul]
        omega
      rw [e1] at h5
      exact h5
theorem mm_step (X : Stand p l e R s m args below meth c T locs cells slots) (hexec : p.tables.exec = Jvm.exec) {own : String} {index : Nat} (hown : s.vm.findClass own = some m.cls) (hclink : (Cond.classLink own index "[[I").before args s = true) {cA c1 comp : ClassId} {kA k1 : Class} (hA : s.vm.findClass "[[I" = some cA) (hkA : s.vm.classes[cA]? = some kA) (hkindA : kA.kind = .array c1 (.array .int)) (hk1 : s.vm.classes[c1]? = some k1) (hkind1 : k1.kind = .array comp .int)
    {g : JFrame} (hg : g.method = m) (hdg : decode c.code g.pc = .ok (.multianewarray index 2, 4)) {n M : Int32} {rest : List Value} (hstack : g.stack = .int M :: .int n :: rest) (hn : ¬ n < 0) (hn0 : (n == 0) = false) (hM : ¬ M < 0) (hN1 : n.toNatClampNeg ≤ 1000) (hM1 : M.toNatClampNeg ≤ 1000)
    (hcells : cells + (1 + n.toNatClampNeg) ≤ R.cells) (hslots : slots + (n.toNatClampNeg + n.toNatClampNeg * M.toNatClampNeg) ≤ R.slots) :
    ∃ (vm₁ : Vm) (locs' : List Loc), (∀ q ∈ locs', q ∈ locs ∨ q.base = T.heap.size) ∧ Stand p l e R s m args below meth c (mmS (T.setVm vm₁) cA c1 n.toNatClampNeg M.toNatClampNeg n.toNatClampNeg) locs' (cells + 1 + n.toNatClampNeg) (slots + n.toNatClampNeg + n.toNatClampNeg * M.toNatClampNeg) ∧
      ∀ target, Steps p.tables e below ((mmS (T.setVm vm₁) cA c1 n.toNatClampNeg M.toNatClampNeg n.toNatClampNeg).setTop { g with pc := g.pc + 4, stack := .ref T.heap.size :: rest }) target → Steps p.tables e below (T.setTop g) target := by
  subst hg
  have hpl : e.platform.magicAccessors = ({} : Platform).magicAccessors := by rw [X.admits.platform]
  obtain ⟨cc, hfcc, hcl⟩ := Cond.classLink_spec hown hclink e.platform hpl
  cases hA.symm.trans hfcc
  obtain ⟨hg₁, hwarm₁, hready₁⟩ := State.classEntry (e := e) X.warmed hcl
  generalize T.vm.noted g.method.cls index (.cls cA) = vm₁ at hg₁ hwarm₁ hready₁
  have hal : s.vm.Alike vm₁ := hwarm₁.alike
  obtain ⟨kA₁, hkA₁, heA⟩ := hal.2.2 _ _ hkA
  have hkindA₁ : kA₁.kind = .array c1 (.array .int) := by rw [heA]; exact hkindA
  obtain ⟨k1₁, hk1₁, he1⟩ := hal.2.2 _ _ hk1
  have hkind1₁ : k1₁.kind = .array comp .int := by rw [he1]; exact hkind1
  have hlim : e.platform.arrayLengthLimit = _ := Launch.admits_arrayLengthLimit X.admits
  have hmax : e.platform.maxHeapBytes = _ := Launch.admits_maxHeapBytes X.admits
  have cb1 : componentBytes (.array .int) ≤ 8 := by decide
  have cb2 : componentBytes .int ≤ 8 := by decide
  have X₁ := X.noted hwarm₁
  obtain ⟨locs', hl1, X₂⟩ := mm_stand (cA := cA) (c1 := c1) (M := M.toNatClampNeg) X₁ n.toNatClampNeg (Nat.le_refl _)
  obtain ⟨hr1, hr2⟩ := X.roomAbove hcells hslots
  refine ⟨vm₁, locs', hl1, X₂, fun target hrest => ?_⟩
  have hb1 : n.toNatClampNeg * componentBytes (.array .int) ≤ 1000 * 8 := Nat.mul_le_mul hN1 cb1
  have hb2 : M.toNatClampNeg * componentBytes .int ≤ 1000 * 8 := Nat.mul_le_mul hM1 cb2
  jvm_step X.here [hexec, hdg]
  have tr1 : ∀ (Q : Unit → Pre) (E : CtlPost), wp (Jvm.Op.multianewarray.sem index 2) Q E e false [] ((T.setVm vm₁).setTop g) → wp (Jvm.Op.multianewarray.sem index 2) Q E e false [] (T.setTop g) := by
    intro Q E h1
    simp only [Jvm.Op.multianewarray.sem, wp_bind'] at h1 ⊢
    exact (W.resolveClassAt_transfer (s := T.setTop g) (State.method?_setTop g X.here.top) hg₁ hready₁).mpr h1
  refine tr1 _ _ (wp_sem2 (s := T.setVm vm₁) (f := g) (k0 := kA₁) (k1 := k1₁) (c1 := c1) (comp := comp) X.here.top hready₁ hkA₁ hkindA₁ hk1₁ hkind1₁ hstack hn hn0 hM (by omega) (by omega) (by omega) (by omega) (by show T.heap.size + 1 + _ ≤ _; omega) (by show T.slotsUsed + _ + _ ≤ _; omega) (fun d acts' acts => ?_))
  simpa [afterInstr, State.modifyTopJava_setTop] using hrest
end MB
theorem ocC_v {c : ClassId} {a n : Nat} : ∀ k, ocC c a n k = arrV c n (fun j => if j < k then Value.ref (a + 1 + j) else Value.null) := by
  intro k
  induction k with
  | zero =>
    show ({ cls := c, slots := Array.replicate n .null, vm := .none } : Cell) = _
    rw [arrV_new]
    congr 1
  | succ k ih =>
    show (ocC c a n k).setSlot k (.ref (a + 1 + k)) = _
    rw [ih, arrV_store]
    congr 1
    funext j
    unfold updV
    by_cases c1 : j = k
    · subst c1; simp
    · by_cases c2 : j < k
      · rw [if_neg c1]
        dsimp only
        rw [if_pos c2, if_pos (by omega)]
      · rw [if_neg c1]
        dsimp only
        rw [if_neg c2, if_neg (by omega)]
def mmH (h : Hp) (o : Nm) (t2 N M : Nat) : Nat → Hp
  | 0 => up h o (23, N, fun _ => vN)
  | k + 1 => up (up (mmH h o t2 N M k) (t2, k, 0) (20, M, fun _ => vI 0)) o (23, N, fun j => if j < k + 1 then vR (t2, j, 0) else vN)
theorem mmH_f {h : Hp} {o : Nm} {t2 N M : Nat} (ho : o.1 ≠ t2) : ∀ k, mmH h o t2 N M k o = some (23, N, fun j => if j < k then vR (t2, j, 0) else vN) ∧ (∀ j, j < k → mmH h o t2 N M k (t2, j, 0) = some (20, M, fun _ => vI 0)) ∧ ∀ m, m ≠ o → (∀ j, j < k → m ≠ (t2, j, 0)) → mmH h o t2 N M k m = h m := by
  intro k
  have hne : ∀ j c, (t2, j, c) ≠ o := fun j c q => ho (by rw [← q])
  induction k with
  | zero =>
    refine ⟨?_, fun j hj => by omega, fun m h1 _ => up_ne h1⟩
    show up h o _ o = _
    rw [up_self]
    simp
  | succ k ih =>
    obtain ⟨i1, i2, i3⟩ := ih
    refine ⟨up_self, fun j hj => ?_, fun m h1 h2 => ?_⟩
    · show up (up _ _ _) o _ _ = _
      rw [up_ne (hne j 0)]
      by_cases c1 : j = k
      · subst c1; exact up_self
      · rw [up_ne (fun q => c1 (by simp at q; exact q))]
        exact i2 j (by omega)
    · show up (up _ _ _) o _ _ = _
      rw [up_ne h1, up_ne (h2 k (by omega))]
      exact i3 m h1 (fun j hj => h2 j (by omega))
theorem mm_wd {g : Gl} {ρ : Nm → Nat} {h : Hp} {U T : State} {o : Nm} {t2 N M : Nat} (w : Wd g ρ h U T.heap) (ho : o.1 ≠ t2) (h2 : 2 ≤ o.1) (hn : h o = none) (hr : ∀ j, h (t2, j, 0) = none) :
    ∀ k, k ≤ N → ∃ ρk : Nm → Nat, Wd g ρk (mmH h o t2 N M k) U (mmS T (gA g 23) (gA g 20) N M k).heap ∧ (∀ m, h m ≠ none → ρk m = ρ m) ∧ ρk o = T.heap.size ∧ ∀ j, j < k → ρk (t2, j, 0) = T.heap.size + 1 + j := by
  have hne : ∀ j c, (t2, j, c) ≠ o := fun j c q => ho (by rw [← q])
  intro k
  induction k with
  | zero =>
    intro _
    obtain ⟨i1, i2, -, i4, -⟩ := mmS_f (s := T) (c := gA g 23) (c1 := gA g 20) (n := N) (m := M) 0 (by omega)
    refine ⟨upr ρ o T.heap.size, ?_, fun m hm => if_neg (fun q => hm (by rw [q]; exact hn)), if_pos rfl, fun j hj => by omega⟩
    refine w.mk hn (cOK.mkAr (show ¬ (23 : Nat) < 14 by decide) (show (23 : Nat) < 25 by decide) ?_) (fun j => trivial) (by rw [i1]; omega) i4
    rw [i2, ocC_v]
    congr 2
  | succ k ih =>
    intro hk
    obtain ⟨ρ1, w1, r1, r2, r3⟩ := ih (by omega)
    obtain ⟨i1, i2, i3, i4, -⟩ := mmS_f (s := T) (c := gA g 23) (c1 := gA g 20) (n := N) (m := M) k (by omega)
    obtain ⟨f1, f2, f3⟩ := mmH_f (h := h) (N := N) (M := M) ho k
    have fresh : mmH h o t2 N M k (t2, k, 0) = none := by
      rw [f3 _ (hne k 0) (fun j hj q => by simp at q; omega)]
      exact hr k
    have ne1 : ∀ m, mmH h o t2 N M k m ≠ none → m ≠ (t2, k, 0) := fun m hm q => hm (by rw [q]; exact fresh)
    have w2 : Wd g (upr ρ1 (t2, k, 0) (mmS T (gA g 23) (gA g 20) N M k).heap.size) (up (mmH h o t2 N M k) (t2, k, 0) (20, M, fun _ => vI 0)) U ((mmS T (gA g 23) (gA g 20) N M k).pushCell { cls := gA g 20, slots := Array.replicate M (.int 0), vm := .none }).heap := by
      refine w1.mk fresh (cOK.mkAr (show ¬ (20 : Nat) < 14 by decide) (show (20 : Nat) < 25 by decide) ?_) (fun j => trivial) (by simp [State.pushCell]) (fun q hq => ?_)
      · simp only [State.pushCell, Array.getElem?_push]
        rw [if_pos trivial, arrV_new]
        rfl
      · simp only [State.pushCell, Array.getElem?_push]
        rw [if_neg (by omega)]
    have ro : upr ρ1 (t2, k, 0) (mmS T (gA g 23) (gA g 20) N M k).heap.size o = T.heap.size := by
      unfold upr
      rw [if_neg (fun q => hne k 0 q.symm)]
      exact r2
    have rj : ∀ j, j < k + 1 → upr ρ1 (t2, k, 0) (mmS T (gA g 23) (gA g 20) N M k).heap.size (t2, j, 0) = T.heap.size + 1 + j := fun j hj => by
      unfold upr
      by_cases c1 : j = k
      · subst c1; rw [if_pos rfl, i1]
      · rw [if_neg (fun q => c1 (by simp at q; exact q))]
        exact r3 j (by omega)
    obtain ⟨j1, j2, j3, j4, -⟩ := mmS_f (s := T) (c := gA g 23) (c1 := gA g 20) (n := N) (m := M) (k + 1) hk
    refine ⟨_, w2.put (n := o) (c' := (23, N, fun j => if j < k + 1 then vR (t2, j, 0) else vN)) (H' := (mmS T (gA g 23) (gA g 20) N M (k + 1)).heap) ?_ h2 (cOK.mkAr (show ¬ (23 : Nat) < 14 by decide) (show (23 : Nat) < 25 by decide) ?_) (fun j => ?_) ?_ (fun q hq => ?_), fun m hm => ?_, ro, rj⟩
    · rw [up_ne (fun q => hne k 0 q.symm), f1]
      exact fun q => by cases q
    · rw [ro, j2, ocC_v]
      congr 2
      funext j
      by_cases c1 : j < k + 1
      · rw [if_pos c1]
        dsimp only
        rw [if_pos c1]
        show _ = Value.ref _
        rw [rj j c1]
      · rw [if_neg c1]
        dsimp only
        rw [if_neg c1]
        rfl
    · dsimp only
      by_cases c1 : j < k + 1
      · rw [if_pos c1]
        show up _ _ _ (t2, j, 0) ≠ none
        by_cases c2 : j = k
        · subst c2; rw [up_self]; exact fun q => by cases q
        · rw [up_ne (fun q => c2 (by simp at q; exact q)), f2 j (by omega)]; exact fun q => by cases q
      · rw [if_neg c1]; trivial
    · rw [j1]
      simp [State.pushCell, i1]
      omega
    · rw [ro] at hq
      show (((mmS T (gA g 23) (gA g 20) N M k).heap.push _).setIfInBounds T.heap.size _)[q]? = _
      rw [Array.getElem?_setIfInBounds, if_neg (fun z => hq z.symm)]
      rfl
    · unfold upr
      rw [if_neg (fun q => hm (by rw [q]; exact hr k))]
      exact r1 m hm
section MC
variable {M : MD} {lvl mc ms : Nat} {Q : Option PV → Hp → Prop} {pc pc' tgt : Nat} {lv : List (Option PV)} {st : List PV} {h : Hp} {k n : Nat}
theorem s_multi {idx N L : Nat} (o : Nm) (t2 : Nat) (d : Dc M pc (.multianewarray idx 2) 4 pc') (hlink : Cond.classLink M.1.cls idx "[[I" ∈ TB) (ho : o.1 ≠ t2) (h2 : 2 ≤ o.1) (h22 : 2 ≤ t2) (hn : h o = none) (hr : ∀ j, h (t2, j, 0) = none) (hN0 : 0 < N) (hN : N ≤ 1000) (hL : L ≤ 1000) (h1 : k + 1 + N ≤ mc) (h3 : n + N + N * L ≤ ms)
    (kk : S M lvl mc ms Q pc' lv (vR o :: st) (mmH h o t2 N L N) (k + 1 + N) (n + N + N * L)) : S M lvl mc ms Q pc lv (vI (nI L) :: vI (nI N) :: st) h k n := by
  intro p l e R s m args below meth c g Qf D0 ρ0 C hR ρ ls H locs hK hL0 hW hw hlo
  obtain ⟨d, rfl⟩ := d
  obtain ⟨hx, hb, -, hown, hts, hkb, -, -, h9, h10⟩ := id C
  obtain ⟨kA, comp, a1, a2, a3, -, a5⟩ := aK.of hkb (a := 23) rfl rfl
  obtain ⟨k1, comp1, b1, b2, b3, -⟩ := aK.of hkb (a := 20) rfl rfl
  have ec : comp = gA g 20 := Option.some.inj ((a5 .int rfl).symm.trans b3)
  subst ec
  intro T hT X
  have cN0 : (nI N).toNatClampNeg = N := nI_clamp (by omega)
  have cL0 : (nI L).toNatClampNeg = L := nI_clamp (by omega)
  have n0 : (nI N == 0) = false := by
    rw [beq_eq_false_iff_ne]
    exact nI_ne (b := 0) (by omega) (by omega) (by omega)
  obtain ⟨vm1, locs', l1, X', stp⟩ := mm_step (g := F0 m pc ls ((vI (nI L) :: vI (nI N) :: st).map (tr ρ))) (rest := st.map (tr ρ)) (n := nI N) (M := nI L) X hx hown (hts _ hlink) (cA := gA g 23) (c1 := gA g 20) (comp := comp1) a3 a1 a2 b1 b2 rfl (by rw [hb]; exact d) rfl (nI_pos (by omega)) n0 (nI_pos (by omega)) (by rw [cN0]; exact hN) (by rw [cL0]; exact hL) (by rw [cN0]; omega) (by rw [cN0, cL0]; omega)
  rw [cN0, cL0] at X' stp
  subst hT
  obtain ⟨ρ', w', r1, r2, r3⟩ := mm_wd (T := T.setVm vm1) (N := N) (M := L) hw ho h2 hn hr N (Nat.le_refl _)
  have dom : ∀ x, h x ≠ none → mmH h o t2 N L N x ≠ none := fun x hx => by
    obtain ⟨f1, f2, f3⟩ := mmH_f (h := h) (N := N) (M := L) ho N
    have e1 : x ≠ o := fun q => hx (by rw [q]; exact hn)
    rw [f3 x e1 (fun j _ q => hx (by rw [q]; exact hr j))]
    exact hx
  have k1 := kk p l e R s m args below meth c g Qf D0 ρ0 C hR ρ' ls _ locs' (fun x hx => ⟨dom x (hK x hx).1, by rw [r1 x (hK x hx).1]; exact (hK x hx).2⟩) (hL0.mono fun x hx => ⟨dom x hx, r1 x hx⟩) ((hW.tl.tl.mono fun x hx => dom x hx).cons (show mmH h o t2 N L N o ≠ none by rw [(mmH_f ho N).1]; exact fun q => by cases q)) w' (fun q hq => ?_)
  · have e2 : (vR o :: st).map (tr ρ') = .ref T.heap.size :: st.map (tr ρ) := by
      show tr _ (vR o) :: _ = _
      rw [hW.tl.tl.trs r1]
      show Value.ref (ρ' o) :: _ = _
      rw [r2]
      rfl
    rw [e2] at k1
    obtain ⟨t, q1, q2⟩ := k1 _ rfl X'
    exact ⟨t, stp t q1, q2⟩
  · rcases l1 q hq with c1 | c1
    · exact hlo q c1
    · rw [c1]; exact hw.2.2.2.1
end MC
