def cT0 : u_T := fun k => match k with
  | 0 => ("RuleBooks$Book", "otherwise", "I", true)
  | 1 => ("RuleBooks$Book", "firstNumbers", "[I", true)
  | 2 => ("RuleBooks$Book", "own", "Ljava/util/ArrayList;", true)
  | 3 => ("RuleBooks$Book", "ordered", "Ljava/util/ArrayList;", true)
  | _ => ("RuleBooks$Book", "row", "Ljava/util/ArrayList;", true)
def cY0 : Nat → FieldType := fun k => match k with
  | 0 => .int
  | 1 => .array (.int)
  | 2 => .object "java/util/ArrayList"
  | 3 => .object "java/util/ArrayList"
  | _ => .object "java/util/ArrayList"
def cT1 : u_T := fun k => match k with
  | 0 => ("RuleBooks$Condition", "code", "I", true)
  | 1 => ("RuleBooks$Condition", "contrary", "Z", true)
  | 2 => ("RuleBooks$Condition", "x", "I", true)
  | _ => ("RuleBooks$Condition", "y", "I", true)
def cY1 : Nat → FieldType := fun k => match k with
  | 0 => .int
  | 1 => .boolean
  | 2 => .int
  | _ => .int
def cT2 : u_T := fun k => match k with
  | 0 => ("RuleBooks$Kinds", "parents", "[I", true)
  | 1 => ("RuleBooks$Kinds", "deeps", "[I", true)
  | _ => ("RuleBooks$Kinds", "told", "I", false)
def cY2 : Nat → FieldType := fun k => match k with
  | 0 => .array (.int)
  | 1 => .array (.int)
  | _ => .int
def cT3 : u_T := fun k => match k with
  | 0 => ("RuleBooks$OwnState", "variables", "[I", true)
  | _ => ("RuleBooks$OwnState", "applied", "J", false)
def cY3 : Nat → FieldType := fun k => match k with
  | 0 => .array (.int)
  | _ => .long
def cT4 : u_T := fun k => match k with
  | 0 => ("RuleBooks$Phrases", "kinds", "LRuleBooks$Kinds;", true)
  | 1 => ("RuleBooks$Phrases", "names", "[I", true)
  | 2 => ("RuleBooks$Phrases", "firsts", "[I", true)
  | 3 => ("RuleBooks$Phrases", "seconds", "[I", true)
  | _ => ("RuleBooks$Phrases", "told", "I", false)
def cY4 : Nat → FieldType := fun k => match k with
  | 0 => .object "RuleBooks$Kinds"
  | 1 => .array (.int)
  | 2 => .array (.int)
  | 3 => .array (.int)
  | _ => .int
def cT5 : u_T := fun k => match k with
  | 0 => ("RuleBooks$Rule", "number", "I", true)
  | 1 => ("RuleBooks$Rule", "owner", "LRuleBooks$Book;", true)
  | 2 => ("RuleBooks$Rule", "section", "I", true)
  | 3 => ("RuleBooks$Rule", "special", "I", true)
  | 4 => ("RuleBooks$Rule", "conditions", "Ljava/util/ArrayList;", true)
  | 5 => ("RuleBooks$Rule", "deepSum", "I", false)
  | 6 => ("RuleBooks$Rule", "deed", "I", false)
  | 7 => ("RuleBooks$Rule", "deedX", "I", false)
  | 8 => ("RuleBooks$Rule", "deedY", "I", false)
  | 9 => ("RuleBooks$Rule", "how", "I", false)
  | _ => ("RuleBooks$Rule", "mark", "LRuleBooks$Rule;", false)
def cY5 : Nat → FieldType := fun k => match k with
  | 0 => .int
  | 1 => .object "RuleBooks$Book"
  | 2 => .int
  | 3 => .int
  | 4 => .object "java/util/ArrayList"
  | 5 => .int
  | 6 => .int
  | 7 => .int
  | 8 => .int
  | 9 => .int
  | _ => .object "RuleBooks$Rule"
def cT6 : u_T := fun k => match k with
  | 0 => ("RuleBooks$Runner", "kinds", "LRuleBooks$Kinds;", true)
  | 1 => ("RuleBooks$Runner", "books", "Ljava/util/ArrayList;", true)
  | 2 => ("RuleBooks$Runner", "scenes", "LRuleBooks$Scenes;", true)
  | 3 => ("RuleBooks$Runner", "states", "[LRuleBooks$OwnState;", true)
  | 4 => ("RuleBooks$Runner", "trace", "LRuleBooks$Trace;", true)
  | 5 => ("RuleBooks$Runner", "errCode", "I", false)
  | _ => ("RuleBooks$Runner", "errRule", "I", false)
def cY6 : Nat → FieldType := fun k => match k with
  | 0 => .object "RuleBooks$Kinds"
  | 1 => .object "java/util/ArrayList"
  | 2 => .object "RuleBooks$Scenes"
  | 3 => .array (.object "RuleBooks$OwnState")
  | 4 => .object "RuleBooks$Trace"
  | 5 => .int
  | _ => .int
def cT7 : u_T := fun k => match k with
  | 0 => ("RuleBooks$Scene", "again", "Z", true)
  | 1 => ("RuleBooks$Scene", "on", "Z", false)
  | 2 => ("RuleBooks$Scene", "began", "I", false)
  | 3 => ("RuleBooks$Scene", "codes", "[I", true)
  | _ => ("RuleBooks$Scene", "xs", "[I", true)
def cY7 : Nat → FieldType := fun k => match k with
  | 0 => .boolean
  | 1 => .boolean
  | 2 => .int
  | 3 => .array (.int)
  | _ => .array (.int)
def cT8 : u_T := fun k => match k with
  | 0 => ("RuleBooks$Scenes", "subjects", "Ljava/util/ArrayList;", true)
  | 1 => ("RuleBooks$Scenes", "told", "Ljava/util/ArrayList;", true)
  | 2 => ("RuleBooks$Scenes", "events", "[I", true)
  | 3 => ("RuleBooks$Scenes", "eventCount", "I", false)
  | _ => ("RuleBooks$Scenes", "clock", "I", false)
def cY8 : Nat → FieldType := fun k => match k with
  | 0 => .object "java/util/ArrayList"
  | 1 => .object "java/util/ArrayList"
  | 2 => .array (.int)
  | 3 => .int
  | _ => .int
def cT9 : u_T := fun k => match k with
  | 0 => ("RuleBooks$Subject", "kind", "I", true)
  | _ => ("RuleBooks$Subject", "values", "[I", true)
def cY9 : Nat → FieldType := fun k => match k with
  | 0 => .int
  | _ => .array (.int)
def cT10 : u_T := fun k => match k with
  | 0 => ("RuleBooks$Trace", "looked", "[I", true)
  | 1 => ("RuleBooks$Trace", "applied", "[I", true)
  | 2 => ("RuleBooks$Trace", "depths", "[I", true)
  | _ => ("RuleBooks$Trace", "length", "I", false)
def cY10 : Nat → FieldType := fun k => match k with
  | 0 => .array (.int)
  | 1 => .array (.int)
  | 2 => .array (.int)
  | _ => .int
def cT11 : u_T := fun k => match k with
  | 0 => ("RuleBooks", "kinds", "LRuleBooks$Kinds;", true)
  | 1 => ("RuleBooks", "subjects", "Ljava/util/ArrayList;", true)
  | 2 => ("RuleBooks", "books", "Ljava/util/ArrayList;", true)
  | 3 => ("RuleBooks", "rules", "Ljava/util/ArrayList;", true)
  | 4 => ("RuleBooks", "actions", "[[I", true)
  | 5 => ("RuleBooks", "actionCount", "I", false)
  | 6 => ("RuleBooks", "activities", "[[I", true)
  | 7 => ("RuleBooks", "activityCount", "I", false)
  | 8 => ("RuleBooks", "openActivities", "[I", true)
  | 9 => ("RuleBooks", "openSubjects", "[I", true)
  | 10 => ("RuleBooks", "openCount", "I", false)
  | 11 => ("RuleBooks", "scenes", "LRuleBooks$Scenes;", true)
  | 12 => ("RuleBooks", "turnBook", "I", false)
  | 13 => ("RuleBooks", "phrases", "LRuleBooks$Phrases;", true)
  | _ => ("RuleBooks", "runner", "LRuleBooks$Runner;", true)
def cY11 : Nat → FieldType := fun k => match k with
  | 0 => .object "RuleBooks$Kinds"
  | 1 => .object "java/util/ArrayList"
  | 2 => .object "java/util/ArrayList"
  | 3 => .object "java/util/ArrayList"
  | 4 => .array (.array (.int))
  | 5 => .int
  | 6 => .array (.array (.int))
  | 7 => .int
  | 8 => .array (.int)
  | 9 => .array (.int)
  | 10 => .int
  | 11 => .object "RuleBooks$Scenes"
  | 12 => .int
  | 13 => .object "RuleBooks$Phrases"
  | _ => .object "RuleBooks$Runner"
def cT12 : u_T := fun k => match k with
  | 0 => ("RuleBooksModel", "kinds", "I", false)
  | 1 => ("RuleBooksModel", "parents", "[I", true)
  | 2 => ("RuleBooksModel", "subjects", "I", false)
  | 3 => ("RuleBooksModel", "subjectKinds", "[I", true)
  | 4 => ("RuleBooksModel", "values", "[I", true)
  | 5 => ("RuleBooksModel", "books", "I", false)
  | 6 => ("RuleBooksModel", "defaults", "[I", true)
  | 7 => ("RuleBooksModel", "firsts", "[I", true)
  | 8 => ("RuleBooksModel", "rules", "I", false)
  | 9 => ("RuleBooksModel", "bookOf", "[I", true)
  | 10 => ("RuleBooksModel", "sections", "[I", true)
  | 11 => ("RuleBooksModel", "specials", "[I", true)
  | 12 => ("RuleBooksModel", "conditions", "[I", true)
  | 13 => ("RuleBooksModel", "conditionMany", "[I", true)
  | 14 => ("RuleBooksModel", "doings", "[I", true)
  | 15 => ("RuleBooksModel", "hows", "[I", true)
  | 16 => ("RuleBooksModel", "others", "[I", true)
  | 17 => ("RuleBooksModel", "toldAt", "[I", true)
  | 18 => ("RuleBooksModel", "told", "I", false)
  | 19 => ("RuleBooksModel", "made", "[I", true)
  | 20 => ("RuleBooksModel", "madeMany", "I", false)
  | 21 => ("RuleBooksModel", "depth", "I", false)
  | 22 => ("RuleBooksModel", "rows", "[I", true)
  | 23 => ("RuleBooksModel", "rowSizes", "[I", true)
  | 24 => ("RuleBooksModel", "places", "[I", true)
  | 25 => ("RuleBooksModel", "variables", "[I", true)
  | 26 => ("RuleBooksModel", "applied", "[Z", true)
  | 27 => ("RuleBooksModel", "abides", "[Z", true)
  | 28 => ("RuleBooksModel", "trace", "[I", true)
  | 29 => ("RuleBooksModel", "traced", "I", false)
  | 30 => ("RuleBooksModel", "error", "I", false)
  | 31 => ("RuleBooksModel", "errs", "I", false)
  | 32 => ("RuleBooksModel", "isFresh", "Z", false)
  | 33 => ("RuleBooksModel", "actions", "I", false)
  | 34 => ("RuleBooksModel", "stages", "[I", true)
  | 35 => ("RuleBooksModel", "activities", "I", false)
  | 36 => ("RuleBooksModel", "parts", "[I", true)
  | 37 => ("RuleBooksModel", "open", "I", false)
  | 38 => ("RuleBooksModel", "openOnes", "[I", true)
  | 39 => ("RuleBooksModel", "openFor", "[I", true)
  | 40 => ("RuleBooksModel", "scenes", "I", false)
  | 41 => ("RuleBooksModel", "again", "[I", true)
  | 42 => ("RuleBooksModel", "happens", "[Z", true)
  | 43 => ("RuleBooksModel", "began", "[I", true)
  | 44 => ("RuleBooksModel", "codes", "[I", true)
  | 45 => ("RuleBooksModel", "anchors", "[I", true)
  | 46 => ("RuleBooksModel", "everyTurn", "I", false)
  | 47 => ("RuleBooksModel", "clock", "I", false)
  | 48 => ("RuleBooksModel", "events", "[I", true)
  | 49 => ("RuleBooksModel", "eventMany", "I", false)
  | 50 => ("RuleBooksModel", "phrases", "I", false)
  | _ => ("RuleBooksModel", "phrase", "[I", true)
def cY12 : Nat → FieldType := fun k => match k with
  | 0 => .int
  | 1 => .array (.int)
  | 2 => .int
  | 3 => .array (.int)
  | 4 => .array (.int)
  | 5 => .int
  | 6 => .array (.int)
  | 7 => .array (.int)
  | 8 => .int
  | 9 => .array (.int)
  | 10 => .array (.int)
  | 11 => .array (.int)
  | 12 => .array (.int)
  | 13 => .array (.int)
  | 14 => .array (.int)
  | 15 => .array (.int)
  | 16 => .array (.int)
  | 17 => .array (.int)
  | 18 => .int
  | 19 => .array (.int)
  | 20 => .int
  | 21 => .int
  | 22 => .array (.int)
  | 23 => .array (.int)
  | 24 => .array (.int)
  | 25 => .array (.int)
  | 26 => .array (.boolean)
  | 27 => .array (.boolean)
  | 28 => .array (.int)
  | 29 => .int
  | 30 => .int
  | 31 => .int
  | 32 => .boolean
  | 33 => .int
  | 34 => .array (.int)
  | 35 => .int
  | 36 => .array (.int)
  | 37 => .int
  | 38 => .array (.int)
  | 39 => .array (.int)
  | 40 => .int
  | 41 => .array (.int)
  | 42 => .array (.boolean)
  | 43 => .array (.int)
  | 44 => .array (.int)
  | 45 => .array (.int)
  | 46 => .int
  | 47 => .int
  | 48 => .array (.int)
  | 49 => .int
  | 50 => .int
  | _ => .array (.int)
def cT13 : u_T := fun k => match k with
  | 0 => ("java/util/ArrayList", "elementData", "[Ljava/lang/Object;", false)
  | 1 => ("java/util/ArrayList", "size", "I", false)
  | _ => ("java/util/AbstractList", "modCount", "I", false)
def cY13 : Nat → FieldType := fun k => match k with
  | 0 => .array (.object "java/lang/Object")
  | 1 => .int
  | _ => .int
def cS : Nat → String := fun k => match k with
  | 0 => "RuleBooks$Book"
  | 1 => "RuleBooks$Condition"
  | 2 => "RuleBooks$Kinds"
  | 3 => "RuleBooks$OwnState"
  | 4 => "RuleBooks$Phrases"
  | 5 => "RuleBooks$Rule"
  | 6 => "RuleBooks$Runner"
  | 7 => "RuleBooks$Scene"
  | 8 => "RuleBooks$Scenes"
  | 9 => "RuleBooks$Subject"
  | 10 => "RuleBooks$Trace"
  | 11 => "RuleBooks"
  | 12 => "RuleBooksModel"
  | _ => "java/util/ArrayList"
def cN : Nat → Nat := fun k => match k with
  | 0 => 5
  | 1 => 4
  | 2 => 3
  | 3 => 2
  | 4 => 5
  | 5 => 11
  | 6 => 7
  | 7 => 5
  | 8 => 5
  | 9 => 2
  | 10 => 4
  | 11 => 15
  | 12 => 52
  | _ => 3
def cT : Nat → u_T := fun k => match k with
  | 0 => cT0
  | 1 => cT1
  | 2 => cT2
  | 3 => cT3
  | 4 => cT4
  | 5 => cT5
  | 6 => cT6
  | 7 => cT7
  | 8 => cT8
  | 9 => cT9
  | 10 => cT10
  | 11 => cT11
  | 12 => cT12
  | _ => cT13
def cY : Nat → (Nat → FieldType) := fun k => match k with
  | 0 => cY0
  | 1 => cY1
  | 2 => cY2
  | 3 => cY3
  | 4 => cY4
  | 5 => cY5
  | 6 => cY6
  | 7 => cY7
  | 8 => cY8
  | 9 => cY9
  | 10 => cY10
  | 11 => cY11
  | 12 => cY12
  | _ => cY13
/-- the words that go along with every call -/
def TB : List Cond := lw_tbl.filter goodWord
/-- the words of the nest, of casts, of declared methods: moved by hand -/
def isMv : Cond → Bool
  | .fieldLinkNest .. => true
  | .methodLinkNest .. => true
  | .castable .. => true
  | .declares .. => true
  | _ => false
def NT : List Cond := tables_1.filter isMv
theorem tb_at {w : Cond} (i : Nat) (h : lw_tbl[i]? = some w) (g : goodWord w = true) : w ∈ TB := List.mem_filter.mpr ⟨List.mem_of_getElem? h, g⟩
theorem nt_at {w : Cond} (i : Nat) (h : tables_1[i]? = some w) (g : isMv w = true) : w ∈ NT := List.mem_filter.mpr ⟨List.mem_of_getElem? h, g⟩
theorem nt_mv {w : Cond} (h : isMv w = true) {s U : State} (hW : s.WarmedH U.vm) (hz : va_Nw w s) : va_Nw w U := by
  cases w <;> first | exact va_Nw.warmF hW hz | exact va_Nw.warmM hW hz | exact va_Nw.warmC hW hz | exact va_Nw.warmD hW hz | (simp [isMv] at h)
theorem nt_tab {w : Cond} (h : isMv w = true) : w.onTables = true := by
  cases w <;> first | rfl | (simp [isMv] at h)
/-- names of cells, values, cells, heaps -/
abbrev Nm : Type := Nat × Nat × Nat
abbrev PV : Type := Int32 ⊕ (Int64 ⊕ Option Nm)
abbrev vI (x : Int32) : PV := .inl x
abbrev vL (x : Int64) : PV := .inr (.inl x)
abbrev vN : PV := .inr (.inr none)
abbrev vR (n : Nm) : PV := .inr (.inr (some n))
abbrev vO (o : Option Nm) : PV := .inr (.inr o)
abbrev PC : Type := Nat × Nat × (Nat → PV)
abbrev Hp : Type := Nm → Option PC
def tr (ρ : Nm → Nat) : PV → Value
  | .inl x => .int x
  | .inr (.inl x) => .long x
  | .inr (.inr none) => .null
  | .inr (.inr (some n)) => .ref (ρ n)
def wfv (h : Hp) : PV → Prop
  | .inr (.inr (some n)) => h n ≠ none
  | _ => True
def Ws (h : Hp) (st : List PV) : Prop := ∀ v ∈ st, wfv h v
def up (h : Hp) (n : Nm) (c : PC) : Hp := fun m => if m = n then some c else h m
def upr (ρ : Nm → Nat) (n : Nm) (a : Nat) : Nm → Nat := fun m => if m = n then a else ρ m
def upf (f : Nat → PV) (k : Nat) (v : PV) : Nat → PV := fun j => if j = k then v else f j
def fl (l : List PV) : Nat → PV := fun k => l.getD k vN
/-- the launch's numbers: heap at the start, mirror, classes, slots, array classes -/
abbrev Gl : Type := Nat × Nat × (Nat → ClassId) × (Nat → Nat → Nat) × (Nat → ClassId)
abbrev gz (g : Gl) : Nat := g.1
abbrev gm (g : Gl) : Nat := g.2.1
abbrev gC (g : Gl) : Nat → ClassId := g.2.2.1
abbrev gI (g : Gl) : Nat → Nat → Nat := g.2.2.2.1
abbrev gA (g : Gl) : Nat → ClassId := g.2.2.2.2
/-- types of the components of arrays, by their kinds -/
def aY : Nat → FieldType := fun k => match k with
  | 20 => .int
  | 21 => .boolean
  | 22 => .object "java/lang/Object"
  | 23 => .array .int
  | 24 => .object "RuleBooks$OwnState"
  | 28 => .object "java/lang/Object"
  | _ => .int
def cOK (g : Gl) (ρ : Nm → Nat) (H : Heap) (a : Nat) (c : PC) : Prop :=
  if c.1 < 14 then t_OB a (gC g c.1) (cN c.1) (gI g c.1) H (fun j => tr ρ (c.2.2 j))
  else if c.1 < 25 then H[a]? = some (arrV (gA g c.1) c.2.1 (fun j => tr ρ (c.2.2 j)))
  else ∃ cell : Cell, H[a]? = some cell ∧ cell.cls = gA g c.1 ∧ cell.vm ≠ .unknown ∧ (∀ q, cell.vm ≠ .statics q) ∧ cell.slots.size = c.2.1 ∧ ∀ j : Nat, j < c.2.1 → cell.slots[j]? = some (tr ρ (c.2.2 j))
def eZ (g : Gl) (ρ : Nm → Nat) (U : State) (H : Heap) : Prop := va_Z "java/util/ArrayList" "DEFAULTCAPACITY_EMPTY_ELEMENTDATA" "[Ljava/lang/Object;" (.ref (ρ (1, 0, 0))) (fun q => gz g ≤ q) U H
def Wd (g : Gl) (ρ : Nm → Nat) (h : Hp) (U : State) (H : Heap) : Prop :=
  (∀ n c, h n = some c → cOK g ρ H (ρ n) c ∧ ∀ j, wfv h (c.2.2 j)) ∧
  (∀ n n', h n ≠ none → h n' ≠ none → ρ n = ρ n' → n = n') ∧
  (∀ n, h n ≠ none → 2 ≤ n.1 → gz g ≤ ρ n) ∧
  gz g ≤ H.size ∧ h (1, 0, 0) = some (28, 0, fun _ => vN) ∧ eZ g ρ U H
/-- what the tables say of an array class -/
def aK (U : State) (cA : ClassId) (ty : FieldType) : Prop := ∃ (kA : Class) (comp : ClassId), U.vm.classes[cA]? = some kA ∧ kA.kind = .array comp ty ∧ U.vm.findClass ("[" ++ ty.toString) = some cA ∧ (∀ C, ty = .object C → U.vm.findClass C = some comp) ∧ (∀ t, ty = .array t → U.vm.findClass ("[" ++ t.toString) = some comp)
def aX (U : State) (cA : ClassId) : Prop := ∃ (kA : Class) (comp : ClassId), U.vm.classes[cA]? = some kA ∧ kA.kind = .array comp .int
def KB (g : Gl) (U : State) : Prop :=
  (∀ k, k < 14 → u_Kn U (cS k) (cT k) (cN k) (gC g k) (gI g k)) ∧ (∀ k, 20 ≤ k → k < 25 → aK U (gA g k) (aY k)) ∧ gA g 28 = gA g 22 ∧ aX U (gA g 29) ∧ (∀ w ∈ NT, va_Nw w U) ∧ va_AO "java/lang/Object" U ∧ va_AO "RuleBooks$OwnState" U ∧ va_Mi "[Ljava/lang/Object;" (gm g) U
theorem aK.moved {u U : State} (hvm : u.vm.Alike U.vm) {cA : ClassId} {ty : FieldType} (h : aK u cA ty) : aK U cA ty := by
  obtain ⟨kA, comp, h1, h2, h3, h4, h5⟩ := h
  obtain ⟨k', hk', he⟩ := hvm.2.2 _ _ h1
  exact ⟨k', comp, hk', by rw [he]; exact h2, by rw [hvm.findClass]; exact h3, fun C hC => by rw [hvm.findClass]; exact h4 C hC, fun t ht => by rw [hvm.findClass]; exact h5 t ht⟩
theorem aX.moved {u U : State} (hvm : u.vm.Alike U.vm) {cA : ClassId} (h : aX u cA) : aX U cA := by
  obtain ⟨kA, comp, h1, h2⟩ := h
  obtain ⟨k', hk', he⟩ := hvm.2.2 _ _ h1
  exact ⟨k', comp, hk', by rw [he]; exact h2⟩
theorem KB.moved {g : Gl} {s U : State} (hW : s.WarmedH U.vm) (h : KB g s) : KB g U := by
  obtain ⟨h1, h2, h3, h4, h5, h6, h7, h8⟩ := h
  exact ⟨fun k hk => u_Kn_moved hW.alike (h1 k hk), fun k a b => (h2 k a b).moved hW.alike, h3, h4.moved hW.alike, fun w hw => nt_mv (List.mem_filter.mp hw).2 hW (h5 w hw), h6.moved hW.alike, h7.moved hW.alike, h8.moved hW.alike⟩
theorem KB.same {g : Gl} {s U : State} (e : s.vm = U.vm) (h : KB g s) : KB g U := by
  have ha : s.vm.Alike U.vm := by rw [e]; exact Vm.Alike.refl _
  obtain ⟨h1, h2, h3, h4, h5, h6, h7, h8⟩ := h
  exact ⟨fun k hk => u_Kn_moved ha (h1 k hk), fun k a b => (h2 k a b).moved ha, h3, h4.moved ha, fun w hw => va_Nw.same (nt_tab (List.mem_filter.mp hw).2) e (h5 w hw), h6.moved ha, h7.moved ha, h8.moved ha⟩
theorem Wd.moved {g : Gl} {ρ : Nm → Nat} {h : Hp} {u U : State} {H : Heap} (hvm : u.vm.Alike U.vm) (w : Wd g ρ h u H) : Wd g ρ h U H :=
  ⟨w.1, w.2.1, w.2.2.1, w.2.2.2.1, w.2.2.2.2.1, w.2.2.2.2.2.moved hvm⟩
theorem up_self {h : Hp} {n : Nm} {c : PC} : up h n c n = some c := if_pos rfl
theorem up_ne {h : Hp} {n m : Nm} {c : PC} (e : m ≠ n) : up h n c m = h m := if_neg e
theorem up_dom {h : Hp} {n m : Nm} {c : PC} (e : h m ≠ none) : up h n c m ≠ none := by
  unfold up
  split
  · exact fun q => by cases q
  · exact e
theorem wfv.up {h : Hp} {n : Nm} {c : PC} {v : PV} (w : wfv h v) : wfv (up h n c) v := by
  match v, w with
  | .inl _, _ => trivial
  | .inr (.inl _), _ => trivial
  | .inr (.inr none), _ => trivial
  | .inr (.inr (some m)), w => exact up_dom w
theorem wfv.mono {h h' : Hp} {v : PV} (w : wfv h v) (e : ∀ n, h n ≠ none → h' n ≠ none) : wfv h' v := by
  match v, w with
  | .inl _, _ => trivial
  | .inr (.inl _), _ => trivial
  | .inr (.inr none), _ => trivial
  | .inr (.inr (some m)), w => exact e m w
theorem trx {h : Hp} {ρ ρ' : Nm → Nat} {v : PV} (w : wfv h v) (e : ∀ n, h n ≠ none → ρ' n = ρ n) : tr ρ' v = tr ρ v := by
  match v, w with
  | .inl _, _ => rfl
  | .inr (.inl _), _ => rfl
  | .inr (.inr none), _ => rfl
  | .inr (.inr (some m)), w => exact congrArg Value.ref (e m w)
theorem Ws.trs {h : Hp} {ρ ρ' : Nm → Nat} {st : List PV} (w : Ws h st) (e : ∀ n, h n ≠ none → ρ' n = ρ n) : st.map (tr ρ') = st.map (tr ρ) :=
  List.map_congr_left fun v hv => trx (w v hv) e
theorem Ws.mono {h h' : Hp} {st : List PV} (w : Ws h st) (e : ∀ n, h n ≠ none → h' n ≠ none) : Ws h' st := fun v hv => (w v hv).mono e
theorem Ws.nil {h : Hp} : Ws h [] := fun v hv => by cases hv
theorem Ws.cons {h : Hp} {v : PV} {st : List PV} (a : wfv h v) (w : Ws h st) : Ws h (v :: st) := fun x hx => by
  rcases List.mem_cons.mp hx with rfl | hx
  · exact a
  · exact w x hx
theorem Ws.hd {h : Hp} {v : PV} {st : List PV} (w : Ws h (v :: st)) : wfv h v := w v List.mem_cons_self
theorem Ws.tl {h : Hp} {v : PV} {st : List PV} (w : Ws h (v :: st)) : Ws h st := fun x hx => w x (List.mem_cons_of_mem _ hx)
theorem Ws.app {h : Hp} {a b : List PV} (wa : Ws h a) (wb : Ws h b) : Ws h (a ++ b) := fun x hx => by
  rcases List.mem_append.mp hx with q | q
  · exact wa x q
  · exact wb x q
theorem Ws.left {h : Hp} {a b : List PV} (w : Ws h (a ++ b)) : Ws h a := fun x hx => w x (List.mem_append_left _ hx)
theorem Ws.right {h : Hp} {a b : List PV} (w : Ws h (a ++ b)) : Ws h b := fun x hx => w x (List.mem_append_right _ hx)
theorem Ws.rev {h : Hp} {a : List PV} (w : Ws h a.reverse) : Ws h a := fun x hx => w x (List.mem_reverse.mpr hx)
