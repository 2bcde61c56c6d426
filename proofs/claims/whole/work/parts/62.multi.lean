/-! rows of rows -/
section MA
variable {E : CtlPost} {e : Env} {d : Bool} {acts : List Action} {s : State}
theorem wp_newArr {c comp : ClassId} {k : Class} {ty : FieldType} {n : Nat} {v : Value} {Q : Addr → Pre} (hk : s.vm.classes[c]? = some k) (hkind : k.kind = .array comp ty) (hl : ¬ n > e.platform.arrayLengthLimit) (hh : ¬ n * componentBytes ty > e.platform.maxHeapBytes)
    (h1 : s.heap.size < e.platform.maxCells) (h2 : s.slotsUsed + n ≤ e.platform.maxSlots) (hv : fits ty v = true)
    (hq : ∀ acts', Q s.heap.size d acts' (s.pushCell { cls := c, slots := Array.replicate n v, vm := .none })) : wp (Jvm.newArray c n v) Q E e d acts s := by
  have hfit : ∀ i w, (Array.replicate n v)[i]? = some w → s.fitsSlot c .none i w = true := by
    intro i w hw
    simp only [Array.getElem?_replicate] at hw
    split at hw
    · cases hw
      simp [State.fitsSlot, State.slotType?, hk, hkind, hv]
    · cases hw
  simp only [Jvm.newArray, Jvm.arrayFits, wp_bind', W.ask, W.ite, hl, if_false, W.theClass, wp_pure']
  refine ⟨k, hk, ?_⟩
  rw [hkind]
  simp only [wp_bind', W.ask, W.ite, hh, if_false, wp_pure', W.stop, W.alloc]
  rw [if_neg (by omega)]
  exact ⟨h1, by simpa using h2, hfit, hq _⟩
theorem wp_mkI {c comp : ClassId} {k : Class} {n : Int32} {Q : Addr → Pre} (hk : s.vm.classes[c]? = some k) (hkind : k.kind = .array comp .int) (hn : ¬ n < 0) (hl : ¬ n.toNatClampNeg > e.platform.arrayLengthLimit) (hh : ¬ n.toNatClampNeg * componentBytes .int > e.platform.maxHeapBytes)
    (h1 : s.heap.size < e.platform.maxCells) (h2 : s.slotsUsed + n.toNatClampNeg ≤ e.platform.maxSlots)
    (hq : ∀ acts', Q s.heap.size d acts' (s.pushCell { cls := c, slots := Array.replicate n.toNatClampNeg (.int 0), vm := .none })) : wp (Jvm.Op.multianewarray.make c [n]) Q E e d acts s := by
  unfold Jvm.Op.multianewarray.make
  simp only [wp_bind', W.ite, hn, if_false, wp_pure', W.theClass]
  refine ⟨k, hk, ?_⟩
  rw [hkind]
  exact wp_newArr hk hkind hl hh h1 h2 rfl hq
/-- the outer row, k of whose places are filled -/
def ocC (c : ClassId) (a n : Nat) : Nat → Cell
  | 0 => { cls := c, slots := Array.replicate n .null, vm := .none }
  | k + 1 => (ocC c a n k).setSlot k (.ref (a + 1 + k))
theorem ocC_f {c : ClassId} {a n : Nat} : ∀ k, k ≤ n → (ocC c a n k).cls = c ∧ (ocC c a n k).vm = .none ∧ (ocC c a n k).slots.size = n ∧ ∀ j, j < n → (ocC c a n k).slots[j]? = some (if j < k then Value.ref (a + 1 + j) else Value.null) := by
  intro k
  induction k with
  | zero =>
    intro _
    refine ⟨rfl, rfl, by simp [ocC], fun j hj => ?_⟩
    simp [ocC, hj]
  | succ k ih =>
    intro hk
    obtain ⟨i1, i2, i3, i4⟩ := ih (by omega)
    refine ⟨i1, i2, by simp [ocC, Cell.setSlot, i3], fun j hj => ?_⟩
    have i5 := i4 j hj
    simp only [ocC, Cell.setSlot, Array.getElem?_setIfInBounds]
    by_cases c1 : k = j
    · subst c1
      rw [if_pos rfl, if_pos (by omega), if_pos (by omega)]
    · rw [if_neg c1, i5]
      by_cases c2 : j < k
      · rw [if_pos c2, if_pos (by omega)]
      · rw [if_neg c2, if_neg (by omega)]
/-- a row of rows, of which k are made -/
def mmS (s : State) (c c1 : ClassId) (n m : Nat) : Nat → State
  | 0 => s.pushCell (ocC c s.heap.size n 0)
  | k + 1 => ((mmS s c c1 n m k).pushCell { cls := c1, slots := Array.replicate m (.int 0), vm := .none }).setCell s.heap.size (ocC c s.heap.size n (k + 1))
theorem mmS_f {s : State} {c c1 : ClassId} {n m : Nat} : ∀ k, k ≤ n → (mmS s c c1 n m k).heap.size = s.heap.size + 1 + k ∧ (mmS s c c1 n m k).heap[s.heap.size]? = some (ocC c s.heap.size n k) ∧ (∀ j, j < k → (mmS s c c1 n m k).heap[s.heap.size + 1 + j]? = some { cls := c1, slots := Array.replicate m (.int 0), vm := .none }) ∧ (∀ q, q < s.heap.size → (mmS s c c1 n m k).heap[q]? = s.heap[q]?) ∧ (mmS s c c1 n m k).vm = s.vm ∧ (mmS s c c1 n m k).slotsUsed = s.slotsUsed + n + k * m := by
  intro k
  induction k with
  | zero =>
    intro _
    refine ⟨by simp [mmS, State.pushCell], by simp [mmS, State.pushCell], fun j hj => by omega, fun q hq => ?_, rfl, by simp [mmS, State.pushCell, ocC]⟩
    simp only [mmS, State.pushCell, Array.getElem?_push]
    rw [if_neg (by omega)]
  | succ k ih =>
    intro hk
    obtain ⟨i1, i2, i3, i4, i5, i6⟩ := ih (by omega)
    refine ⟨?_, ?_, fun j hj => ?_, fun q hq => ?_, i5, ?_⟩
    · simp [mmS, State.pushCell, State.setCell, i1]
      omega
    · simp only [mmS, State.pushCell, State.setCell, Array.getElem?_setIfInBounds, Array.size_push, i1]
      rw [if_pos trivial, if_pos (by omega)]
    · simp only [mmS, State.pushCell, State.setCell, Array.getElem?_setIfInBounds, Array.getElem?_push, i1]
      rw [if_neg (by omega)]
      by_cases c1 : j = k
      · subst c1
        rw [if_pos rfl]
      · rw [if_neg (by omega)]
        exact i3 j (by omega)
    · simp only [mmS, State.pushCell, State.setCell, Array.getElem?_setIfInBounds, Array.getElem?_push, i1]
      rw [if_neg (by omega), if_neg (by omega)]
      exact i4 q hq
    · simp only [mmS, State.pushCell, State.setCell, i6, Array.size_replicate]
      rw [Nat.succ_mul]
      omega
theorem wp_mk2 {c c1 comp : ClassId} {k0 k1 : Class} {n m : Int32} {Q : Addr → Pre} (hk : s.vm.classes[c]? = some k0) (hkind : k0.kind = .array c1 (.array .int)) (hk1 : s.vm.classes[c1]? = some k1) (hkind1 : k1.kind = .array comp .int) (hn : ¬ n < 0) (hn0 : (n == 0) = false) (hm : ¬ m < 0)
    (hl : ¬ n.toNatClampNeg > e.platform.arrayLengthLimit) (hh : ¬ n.toNatClampNeg * componentBytes (.array .int) > e.platform.maxHeapBytes) (hl1 : ¬ m.toNatClampNeg > e.platform.arrayLengthLimit) (hh1 : ¬ m.toNatClampNeg * componentBytes .int > e.platform.maxHeapBytes)
    (h1 : s.heap.size + 1 + n.toNatClampNeg ≤ e.platform.maxCells) (h2 : s.slotsUsed + n.toNatClampNeg + n.toNatClampNeg * m.toNatClampNeg ≤ e.platform.maxSlots)
    (hq : ∀ d acts', Q s.heap.size d acts' (mmS s c c1 n.toNatClampNeg m.toNatClampNeg n.toNatClampNeg)) : wp (Jvm.Op.multianewarray.make c [n, m]) Q E e d acts s := by
  generalize hN : n.toNatClampNeg = N at *
  generalize hM : m.toNatClampNeg = M at *
  unfold Jvm.Op.multianewarray.make
  simp only [wp_bind', W.ite, hn, if_false, wp_pure', W.theClass]
  refine ⟨k0, hk, ?_⟩
  rw [hkind]
  simp only [wp_bind']
  rw [hN]
  refine wp_newArr hk hkind hl hh (by omega) (by omega) rfl (fun acts1 => ?_)
  have key : ∀ (t k : Nat) (d : Bool) (acts : List Action), k + t = N → wp (forIn (List.range' k t 1) PUnit.unit (fun (i : Nat) (_ : PUnit) => (do
      let r ← Jvm.Op.multianewarray.make c1 [m]
      Jvm.writeLoc s.heap.size i (Value.ref r)
      Pure.pure (ForInStep.yield PUnit.unit) : Sem (ForInStep PUnit)))) (fun _ d a s' => Q s.heap.size d a s') E e d acts (mmS s c c1 N M k) := by
    intro t
    induction t with
    | zero =>
      intro k d acts hkt
      have ek : k = N := by omega
      subst ek
      simp only [List.range'_zero, List.forIn_nil, wp_pure']
      exact hq d acts
    | succ t ih =>
      intro k d acts hkt
      obtain ⟨i1, i2, i3, i4, i5, i6⟩ := mmS_f (s := s) (c := c) (c1 := c1) (m := M) k (show k ≤ N by omega)
      obtain ⟨o1, o2, o3, o4⟩ := ocC_f (c := c) (a := s.heap.size) k (show k ≤ N by omega)
      have hle : k * M + M ≤ N * M := by
        rw [← Nat.succ_mul]
        exact Nat.mul_le_mul_right M (by omega)
      simp only [List.range'_succ, List.forIn_cons, wp_bind']
      refine wp_mkI (k := k1) (comp := comp) (by rw [i5]; exact hk1) hkind1 hm (by rw [hM]; exact hl1) (by rw [hM]; exact hh1) (by rw [i1]; omega) (by rw [i6, hM]; omega) (fun acts2 => ?_)
      rw [hM]
      show wp _ _ E e d acts2 _
      simp only [wp_bind', W.writeLoc]
      refine ⟨ocC c s.heap.size N k, ?_, by rw [o2]; exact fun q => (by cases q), by rw [o3]; omega, ?_, ?_⟩
      · simp only [State.pushCell, Array.getElem?_push, i1]
        rw [if_neg (by omega)]
        exact i2
      · simp [State.fitsSlot, State.slotType?, State.pushCell, o1, o2, i5, hk, hkind, fits]
      · simp only [wp_pure']
        rw [i1]
        exact ih (k + 1) _ _ (by omega)
  rw [hn0]
  simp only [Bool.false_eq_true, if_false, wp_bind', wp_pure']
  rw [Std.Legacy.Range.forIn_eq_forIn_range']
  have k0 := key N 0 d acts1 (by omega)
  rw [show ([:N] : Std.Legacy.Range).size = N by simp [Std.Legacy.Range.size]]
  exact k0
end MA
