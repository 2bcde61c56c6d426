/-! lists -/
def isE (ci : Nat) : Prop := ci = 0 ∨ ci = 1 ∨ ci = 5 ∨ ci = 7 ∨ ci = 9
theorem isE.lt {ci : Nat} (h1 : isE ci) : ci < 14 := by rcases h1 with rfl | rfl | rfl | rfl | rfl <;> decide
set_option maxRecDepth 100000 in
theorem isE.co {ci : Nat} (h1 : isE ci) : Cond.castable (cS ci) "java/lang/Object" ∈ NT := by
  rcases h1 with rfl | rfl | rfl | rfl | rfl
  · exact nt_6 86 rfl rfl
  · exact nt_6 88 rfl rfl
  · exact nt_6 87 rfl rfl
  · exact nt_6 89 rfl rfl
  · exact nt_6 85 rfl rfl
def eld (t : Nm) (c : Nat) : Nm := (t.1 + 1, t.2.1, c)
def adr (t : Nm) (c : Nat) : Nm := if c = 0 then (1, 0, 0) else eld t c
theorem eld_ne {t : Nm} {c : Nat} : t ≠ eld t c := fun z1 => by
  have := congrArg Prod.fst z1
  simp [eld] at this
theorem eld_nf {t : Nm} {c : Nat} : eld t c ≠ t := fun z1 => eld_ne z1.symm
theorem eld_in {t : Nm} {c c' : Nat} (h1 : c ≠ c') : eld t c ≠ eld t c' := fun z1 => h1 (by
  have := congrArg (fun q => q.2.2) z1
  simpa [eld] using this)
theorem eld_b {t : Nm} {c : Nat} (h1 : Nat.ble 2 t.1 = true) : Nat.ble 2 (eld t c).1 = true := by
  have := Nat.le_of_ble_eq_true h1
  exact Nat.ble_eq_true_of_le (by show 2 ≤ t.1 + 1; omega)
/-- an object that may lie in the list t -/
def OBJ (t : Nm) (h : Hp) (x : Nm) : Prop := x.1 ≠ t.1 ∧ x.1 ≠ t.1 + 1 ∧ ∃ ci g, isE ci ∧ h x = some (ci, 0, g)
def EL (t : Nm) (h : Hp) (l : List Nm) : Prop := ∀ x ∈ l, OBJ t h x
def capK (c : Nat) : Prop := c = 0 ∨ c = 10 ∨ c = 15 ∨ c = 22 ∨ c = 33 ∨ c = 49 ∨ c = 73
def LC (h : Hp) (t : Nm) (l : List Nm) (cap : Nat) (z : Int32) (f : Nat → PV) : Prop :=
  h t = some (13, 0, fl [vR (adr t cap), vI (nI l.length), vI z]) ∧ capK cap ∧ l.length ≤ cap ∧ (∀ c, cap < c → h (eld t c) = none) ∧ (0 < cap → h (eld t cap) = some (22, cap, f)) ∧ (∀ i x, l[i]? = some x → f i = vR x) ∧ ∀ i, l.length ≤ i → f i = vN
def LsT (h : Hp) (t : Nm) (l : List Nm) : Prop := ∃ cap z f, LC h t l cap z f
/-- all but the list t stays -/
def frL (t : Nm) (h h' : Hp) : Prop := ∀ n, n ≠ t → (∀ c, n ≠ eld t c) → h' n = h n
theorem frL.rf {t : Nm} {h : Hp} : frL t h h := fun _ _ _ => rfl
theorem frL.tr {t : Nm} {a b c : Hp} (h1 : frL t a b) (h2 : frL t b c) : frL t a c := fun n q1 q2 => (h2 n q1 q2).trans (h1 n q1 q2)
theorem frL.u1 {t : Nm} {a b : Hp} {c : PC} (h1 : frL t a b) : frL t a (up b t c) := fun n q1 q2 => by rw [up_ne q1]; exact h1 n q1 q2
theorem frL.u2 {t : Nm} {a b : Hp} {k : Nat} {c : PC} (h1 : frL t a b) : frL t a (up b (eld t k) c) := fun n q1 q2 => by rw [up_ne (q2 k)]; exact h1 n q1 q2
theorem capK.le {c : Nat} (h1 : capK c) : c ≤ 73 := by unfold capK at h1; omega
theorem OBJ.fr {t : Nm} {h h' : Hp} {x : Nm} (O1 : OBJ t h x) (hf : frL t h h') : OBJ t h' x := by
  obtain ⟨o1, o2, ci, g, o3, o4⟩ := O1
  refine ⟨o1, o2, ci, g, o3, ?_⟩
  rw [hf x (fun z1 => o1 (by rw [z1])) (fun c z1 => o2 (by rw [z1]; rfl))]
  exact o4
theorem OBJ.nt {t : Nm} {h : Hp} {x : Nm} (O1 : OBJ t h x) : x ≠ t := fun z1 => O1.1 (by rw [z1])
theorem OBJ.ne {t : Nm} {h : Hp} {x : Nm} (O1 : OBJ t h x) (c : Nat) : x ≠ eld t c := fun z1 => O1.2.1 (by rw [z1]; rfl)
theorem EL.fr {t : Nm} {h h' : Hp} {l : List Nm} (E : EL t h l) (hf : frL t h h') : EL t h' l := fun x hx1 => (E x hx1).fr hf
section MX
variable {M : MD} {lvl mc ms : Nat} {Q : Option PV → Hp → Prop} {pc pc' tgt : Nat} {lv : List (Option PV)} {st : List PV} {h : Hp} {k n : Nat}
theorem rest_8 {ρ : Nm → Nat} {st : List PV} (h : rest8 st = true) : ((st.map (tr ρ)).map fun v => v.category).sum ≤ 8 := by
  have e : (st.map (tr ρ)).map (fun v => v.category) = st.map fun v => if isL v then 2 else 1 := by
    rw [List.map_map]
    refine List.map_congr_left fun v _ => ?_
    match v with
    | .inl _ => rfl
    | .inr (.inl _) => rfl
    | .inr (.inr none) => rfl
    | .inr (.inr (some _)) => rfl
  rw [e]
  exact Nat.le_of_ble_eq_true h
theorem s_mmax {idx : Nat} {x y : Int32} (d : Dc M pc (.invokestatic idx) 3 pc') (V : CS M.1.cls idx mMth_max 2) (hl : Nat.ble 1 lvl = true) (hk : Nat.ble k mc = true) (hn : Nat.ble n ms = true) (h8 : rest8 st = true) (kk : S M lvl mc ms Q pc' lv (vI (if x < y then y else x) :: st) h k n) : S M lvl mc ms Q pc lv (vI y :: vI x :: st) h k n := by
  intro p l e R s m args below meth c g Qf D0 ρ0 C hR ρ ls H locs hK hL hW hw hlo
  obtain ⟨d, rfl⟩ := d
  obtain ⟨vB, v3, v5⟩ := V
  obtain ⟨hx, hb, hml, hown, hts, hkb, -, hlv, h9, h10⟩ := id C
  have hl1 := Nat.le_of_ble_eq_true hl
  have hr := rest_8 (ρ := ρ) h8
  rcases v5 with v5 | ⟨host, v5⟩
  · exact va_mmax hx hb (by rw [hml]; exact hL.1.symm) hown (hts _ v5) (hts _ v3) (hts _ vB.2.1) (hts _ vB.1) (by omega) (by omega) (Nat.le_trans (Nat.le_of_ble_eq_true hk) h9) (Nat.le_trans (Nat.le_of_ble_eq_true hn) h10) d (kk p l e R s m args below meth c g Qf D0 ρ0 C hR ρ ls H locs hK hL (hW.tl.tl.cons trivial) hw hlo)
  · have := (List.mem_filter.mp v5).1
    exact absurd v5 (fun _ => by
      have h1 : (tables_1.all fun w => match w with | .methodLinkNest _ _ y _ => y.cls != "java/lang/Math" | _ => true) = true := by decide +kernel
      have h2 := List.all_eq_true.mp h1 _ this
      exact absurd (show ("java/lang/Math" != "java/lang/Math") = true from h2) (by decide +kernel))
theorem s_mmin {idx : Nat} {x y : Int32} (d : Dc M pc (.invokestatic idx) 3 pc') (V : CS M.1.cls idx mMth_min 2) (hl : Nat.ble 1 lvl = true) (hk : Nat.ble k mc = true) (hn : Nat.ble n ms = true) (h8 : rest8 st = true) (kk : S M lvl mc ms Q pc' lv (vI (if y < x then y else x) :: st) h k n) : S M lvl mc ms Q pc lv (vI y :: vI x :: st) h k n := by
  intro p l e R s m args below meth c g Qf D0 ρ0 C hR ρ ls H locs hK hL hW hw hlo
  obtain ⟨d, rfl⟩ := d
  obtain ⟨vB, v3, v5⟩ := V
  obtain ⟨hx, hb, hml, hown, hts, hkb, -, hlv, h9, h10⟩ := id C
  have hl1 := Nat.le_of_ble_eq_true hl
  have hr := rest_8 (ρ := ρ) h8
  rcases v5 with v5 | ⟨host, v5⟩
  · exact va_mmin hx hb (by rw [hml]; exact hL.1.symm) hown (hts _ v5) (hts _ v3) (hts _ vB.2.1) (hts _ vB.1) (by omega) (by omega) (Nat.le_trans (Nat.le_of_ble_eq_true hk) h9) (Nat.le_trans (Nat.le_of_ble_eq_true hn) h10) d (kk p l e R s m args below meth c g Qf D0 ρ0 C hR ρ ls H locs hK hL (hW.tl.tl.cons trivial) hw hlo)
  · have := (List.mem_filter.mp v5).1
    exact absurd v5 (fun _ => by
      have h1 : (tables_1.all fun w => match w with | .methodLinkNest _ _ y _ => y.cls != "java/lang/Math" | _ => true) = true := by decide +kernel
      have h2 := List.all_eq_true.mp h1 _ this
      exact absurd (show ("java/lang/Math" != "java/lang/Math") = true from h2) (by decide +kernel))
end MX
theorem mx_nI {a b : Nat} (ha : a < 2 ^ 30) (hb : b < 2 ^ 30) : (if nI a < nI b then nI b else nI a) = nI (max a b) := by
  by_cases c1 : a < b
  · rw [if_pos (nI_lt c1 (by omega)), Nat.max_eq_right (by omega)]
  · rw [if_neg (nI_nlt (by omega) (by omega)), Nat.max_eq_left (by omega)]
theorem mn_nI {a b : Nat} (ha : a < 2 ^ 30) (hb : b < 2 ^ 30) : (if nI b < nI a then nI b else nI a) = nI (min a b) := by
  by_cases c1 : b < a
  · rw [if_pos (nI_lt c1 (by omega)), Nat.min_eq_right (by omega)]
  · rw [if_neg (nI_nlt (by omega) (by omega)), Nat.min_eq_left (by omega)]
set_option maxRecDepth 100000 in
theorem k200 : Cond.constant "jdk/internal/util/ArraysSupport" 200 2147483639 ∈ TB := tb_2 71 rfl rfl
theorem c_newLength {a b c : Nat} {h : Hp} (ha : a < 1000) (hb : b < 1000) (hc : c < 1000) (h0 : 0 < a) : ConF mASup_newLength 1 [vI (nI a), vI (nI b), vI (nI c)] h (some (vI (nI (a + max b c)))) h := by
  have hm : max b c < 1000 := by omega
  refine c_enter (by decide +kernel) rfl rfl ?_
  refine s_iload_n dASup_newLength_0 rfl rfl ?_
  refine s_iload_n dASup_newLength_1 rfl rfl ?_
  refine s_iload_n dASup_newLength_2 rfl rfl ?_
  refine s_mmax dASup_newLength_3 cs_ASup_194 rfl rfl rfl rfl ?_
  rw [mx_nI (by omega) (by omega)]
  first | refine s_iaddN dASup_newLength_6 ?_ | refine s_iadd dASup_newLength_6 ?_
  refine s_istore_n dASup_newLength_7 rfl rfl ?_
  refine s_iconst (v := 0) dASup_newLength_8 (by decide) ?_
  refine s_iload_n dASup_newLength_9 rfl rfl ?_
  refine s_icmp_ge dASup_newLength_10 (fun q => absurd q (nI_ge (a := 0) (by omega) (by omega))) (fun _ => ?_)
  refine s_iload_n dASup_newLength_13 rfl rfl ?_
  refine s_ldcI dASup_newLength_14 k200 ?_
  refine s_icmp_gt dASup_newLength_16 (fun q => absurd q (Int32.not_lt.mpr (by rw [show (2147483639 : Int32) = nI 2147483639 by decide]; exact nI_le (by omega) (by omega)))) (fun _ => ?_)
  refine s_iload_n dASup_newLength_19 rfl rfl ?_
  refine s_iret dASup_newLength_20 rfl (by first | exact Nat.le_refl _ | decide | omega) (by first | exact Nat.le_refl _ | decide | omega) ?_
  exact ⟨rfl, rfl⟩
theorem c_checkP {i n : Nat} {h : Hp} (hi : i < n) (hn : n < 2 ^ 30) : ConF mPrec_checkIndex 0 [vI (nI i), vI (nI n), vN] h (some (vI (nI i))) h := by
  refine c_enter (by decide +kernel) rfl rfl ?_
  refine s_iload_n dPrec_checkIndex_0 rfl rfl ?_
  refine s_if_lt dPrec_checkIndex_1 (fun q => absurd q (nI_nlt (b := 0) (by omega) (by omega))) (fun _ => ?_)
  refine s_iload_n dPrec_checkIndex_4 rfl rfl ?_
  refine s_iload_n dPrec_checkIndex_5 rfl rfl ?_
  refine s_icmp_lt dPrec_checkIndex_6 (fun _ => ?_) (fun q => absurd (nI_lt hi (by omega)) q)
  refine s_iload_n dPrec_checkIndex_16 rfl rfl ?_
  refine s_iret dPrec_checkIndex_17 rfl (by first | exact Nat.le_refl _ | decide | omega) (by first | exact Nat.le_refl _ | decide | omega) ?_
  exact ⟨rfl, rfl⟩
theorem c_check {i n : Nat} {h : Hp} (hi : i < n) (hn : n < 2 ^ 30) : ConF mObjs_checkIndex 1 [vI (nI i), vI (nI n)] h (some (vI (nI i))) h := by
  refine c_enter (by decide +kernel) rfl rfl ?_
  refine s_iload_n dObjs_checkIndex_0 rfl rfl ?_
  refine s_iload_n dObjs_checkIndex_1 rfl rfl ?_
  refine s_null dObjs_checkIndex_2 ?_
  refine s_t3 dObjs_checkIndex_3 cs_Objs_105 (c_checkP hi hn) rfl rfl rfl rfl ?_
  refine s_iret dObjs_checkIndex_6 rfl (by first | exact Nat.le_refl _ | decide | omega) (by first | exact Nat.le_refl _ | decide | omega) ?_
  exact ⟨rfl, rfl⟩
theorem c_size {h : Hp} {t : Nm} {l : List Nm} (I : LsT h t l) : ConF mAL_size 0 [vR t] h (some (vI (nI l.length))) h := by
  obtain ⟨cap, z, f, I⟩ := I
  have e1 := I.1
  refine c_enter (by decide +kernel) rfl rfl ?_
  refine s_aload_n dAL_size_0 rfl rfl ?_
  refine s_get dAL_size_1 gf_AL_48 (by repeat (first | exact up_self | assumption | rw [up_ne (by first | assumption | (intro q0; cases q0; done) | (intro q0; simp at q0; omega))])) ?_
  refine s_iret dAL_size_4 rfl (by first | exact Nat.le_refl _ | decide | omega) (by first | exact Nat.le_refl _ | decide | omega) ?_
  exact ⟨rfl, rfl⟩
theorem c_elD {h : Hp} {t x : Nm} {l : List Nm} {i : Nat} (I : LsT h t l) (hx : l[i]? = some x) : ConF mAL_elementData 0 [vR t, vI (nI i)] h (some (vR x)) h := by
  obtain ⟨cap, z, f, I⟩ := I
  obtain ⟨e1, e2, e3, e4, e5, e6, e7⟩ := I
  have hi1 : i < l.length := (List.getElem?_eq_some_iff.mp hx).1
  have hc := e2.le
  have ea : adr t cap = eld t cap := if_neg (by omega)
  have e8 := e5 (by omega)
  refine c_enter (by decide +kernel) rfl rfl ?_
  refine s_aload_n dAL_elementData_0 rfl rfl ?_
  refine s_get dAL_elementData_1 gf_AL_9 (by repeat (first | exact up_self | assumption | rw [up_ne (by first | assumption | (intro q0; cases q0; done) | (intro q0; simp at q0; omega))])) ?_
  refine s_tv (by show vR (adr t cap) = vR (eld t cap); rw [ea]) ?_
  refine s_iload_n dAL_elementData_4 rfl rfl ?_
  refine s_aaldN dAL_elementData_5 (by repeat (first | exact up_self | assumption | rw [up_ne (by first | assumption | (intro q0; cases q0; done) | (intro q0; simp at q0; omega))])) rfl rfl (by omega) (by omega) ?_
  refine s_tv (e6 i x hx) ?_
  refine s_aret dAL_elementData_6 rfl (by first | exact Or.inl ⟨_, rfl⟩ | exact Or.inr ⟨_, rfl⟩) (by first | exact Nat.le_refl _ | decide | omega) (by first | exact Nat.le_refl _ | decide | omega) ?_
  exact ⟨rfl, rfl⟩
theorem c_get {h : Hp} {t x : Nm} {l : List Nm} {i : Nat} (I : LsT h t l) (hx : l[i]? = some x) : ConF mAL_get 2 [vR t, vI (nI i)] h (some (vR x)) h := by
  have I0 := I
  obtain ⟨cap, z, f, I⟩ := I
  obtain ⟨e1, e2, e3, -⟩ := I
  have hi1 : i < l.length := (List.getElem?_eq_some_iff.mp hx).1
  have hc := e2.le
  refine c_enter (by decide +kernel) rfl rfl ?_
  refine s_iload_n dAL_get_0 rfl rfl ?_
  refine s_aload_n dAL_get_1 rfl rfl ?_
  refine s_get dAL_get_2 gf_AL_48 (by repeat (first | exact up_self | assumption | rw [up_ne (by first | assumption | (intro q0; cases q0; done) | (intro q0; simp at q0; omega))])) ?_
  refine s_t2 dAL_get_5 cs_AL_118 (c_check hi1 (by omega)) rfl rfl rfl rfl ?_
  refine s_pop dAL_get_8 rfl ?_
  refine s_aload_n dAL_get_9 rfl rfl ?_
  refine s_iload_n dAL_get_10 rfl rfl ?_
  refine s_v1 dAL_get_11 cv_AL_123 (by repeat (first | exact up_self | assumption | rw [up_ne (by first | assumption | (intro q0; cases q0; done) | (intro q0; simp at q0; omega))])) (c_elD I0 hx) rfl rfl rfl rfl ?_
  refine s_aret dAL_get_14 rfl (by first | exact Or.inl ⟨_, rfl⟩ | exact Or.inr ⟨_, rfl⟩) (by first | exact Nat.le_refl _ | decide | omega) (by first | exact Nat.le_refl _ | decide | omega) ?_
  exact ⟨rfl, rfl⟩
