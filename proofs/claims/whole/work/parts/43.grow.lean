/-! lists that grow -/
theorem l_copyOf1 {h : Hp} {src nm : Nm} {ns N : Nat} {f : Nat → PV} {Q : Option PV → Hp → Prop} (hs : h src = some (22, ns, f)) (hn : h nm = none) (hle : ns ≤ N) (hN : N ≤ 1000) (hb2 : Nat.ble 2 nm.1 = true) (hE : ∀ i, i < ns → isOb h (f i)) (hq : Q (some (vR nm)) (up h nm (22, N, fun j => if j < ns then f j else vN))) :
    S mArrs_copyOf1 1 1 N Q 6 [some (vR src), some (vI (nI N)), none, none] [] h 0 0 := by
  have hne : src ≠ nm := fun z1 => by rw [z1, hn] at hs; cases hs
  refine s_iload_n dArrs_copyOf1_6 rfl rfl ?_
  refine s_anew (a := 22) (C0 := "java/lang/Object") nm N dArrs_copyOf1_7 ⟨Or.inl rfl, rfl, cl_Arrs_2⟩ rfl (by omega) hn (by omega) (by omega) ?_
  have hs2 : up h nm (22, N, fun _ => vN) src = some (22, ns, f) := by rw [up_ne hne]; exact hs
  refine s_goto dArrs_copyOf1_10 ?_
  refine s_astore_n dArrs_copyOf1_24 rfl rfl ?_
  refine s_aload_n dArrs_copyOf1_25 rfl rfl ?_
  refine s_iconst (v := 0) dArrs_copyOf1_26 (by decide) ?_
  refine s_aload_n dArrs_copyOf1_27 rfl rfl ?_
  refine s_iconst (v := 0) dArrs_copyOf1_28 (by decide) ?_
  refine s_aload_n dArrs_copyOf1_29 rfl rfl ?_
  refine s_alen dArrs_copyOf1_30 (by repeat (first | exact up_self | assumption | rw [up_ne (by first | assumption | (intro q0; cases q0; done) | (intro q0; simp at q0; omega))])) rfl (by first | exact Or.inl rfl | exact Or.inr (Or.inl rfl)) ?_
  refine s_iload_n dArrs_copyOf1_31 rfl rfl ?_
  refine s_mmin dArrs_copyOf1_32 cs_Arrs_304 rfl rfl (Nat.ble_eq_true_of_le (by omega)) rfl ?_
  rw [mn_nI (by omega) (by omega), Nat.min_eq_left hle]
  have hcl : (nI ns).toNatClampNeg = ns := nI_clamp (by omega)
  refine s_copy0 dArrs_copyOf1_35 cy_Arrs_150 hs2 up_self (Or.inr rfl) hb2 (by decide) (by decide) (nI_nlt (b := 0) (by omega) (by omega)) (by rw [hcl]; show 0 + ns ≤ ns; omega) (by rw [hcl]; show 0 + ns ≤ N; omega) ?_ rfl rfl ?_
  · intro i hi1
    rw [hcl] at hi1
    refine ⟨fun z1 => absurd z1 (by decide), fun _ => ?_⟩
    have e0 : (0 : Int32).toNatClampNeg + i = i := by show 0 + i = i; omega
    rw [e0]
    rcases hE i hi1 with q1 | ⟨y, ci, ln, fv, q1, q2, q3, q4⟩
    · exact Or.inl q1
    · exact Or.inr ⟨y, ci, ln, fv, q1, by rw [up_ne (fun z1 => by rw [z1, hn] at q2; cases q2)]; exact q2, q3, q4⟩
  rw [hcl, up_up]
  have e1 : cpy f (fun _ => vN) (0 : Int32).toNatClampNeg (0 : Int32).toNatClampNeg ns = fun j => if j < ns then f j else vN := by
    funext j
    show (if 0 ≤ j ∧ j < 0 + ns then f (0 + (j - 0)) else vN) = _
    by_cases c1 : j < ns
    · rw [if_pos ⟨by omega, by omega⟩, if_pos c1, show 0 + (j - 0) = j by omega]
    · rw [if_neg (by omega), if_neg c1]
  rw [e1]
  refine s_aload_n dArrs_copyOf1_38 rfl rfl ?_
  refine s_aret dArrs_copyOf1_39 rfl (by first | exact Or.inl ⟨_, rfl⟩ | exact Or.inr ⟨_, rfl⟩) (by first | exact Nat.le_refl _ | decide | omega) (by first | exact Nat.le_refl _ | decide | omega) ?_
  exact hq
set_option maxRecDepth 100000 in
theorem gc_w : Cond.methodLink "java/util/Arrays" 86 ⟨"java/lang/Object", "getClass", "()Ljava/lang/Class;"⟩ ∈ TB ∧ Cond.instanceMethod ⟨"java/lang/Object", "getClass", "()Ljava/lang/Class;"⟩ ∈ TB ∧ Cond.native ⟨"java/lang/Object", "getClass", "()Ljava/lang/Class;"⟩ ∈ TB ∧ Cond.selects "[Ljava/lang/Object;" ⟨"java/lang/Object", "getClass", "()Ljava/lang/Class;"⟩ ⟨"java/lang/Object", "getClass", "()Ljava/lang/Class;"⟩ ∈ TB ∧ Cond.declares ⟨"java/lang/Object", "getClass", "()Ljava/lang/Class;"⟩ ∈ NT := ⟨tb_2 78 rfl rfl, tb_2 79 rfl rfl, tb_2 95 rfl rfl, tb_6 75 rfl rfl, nt_6 76 rfl rfl⟩
theorem c_copyOf {h : Hp} {src nm : Nm} {ns N : Nat} {f : Nat → PV} (hs : h src = some (22, ns, f)) (hn : h nm = none) (hle : ns ≤ N) (hN : N ≤ 1000) (hb2 : Nat.ble 2 nm.1 = true) (hE : ∀ i, i < ns → isOb h (f i)) :
    Con mArrs_copyOf 2 1 N [vR src, vI (nI N)] h (fun v h' => v = some (vR nm) ∧ h' = up h nm (22, N, fun j => if j < ns then f j else vN)) := by
  refine c_enter (by decide +kernel) rfl rfl ?_
  refine s_aload_n dArrs_copyOf_0 rfl rfl ?_
  refine s_iload_n dArrs_copyOf_1 rfl rfl ?_
  refine s_aload_n dArrs_copyOf_2 rfl rfl ?_
  intro p l e R s m args below meth c g Qf D0 ρ0 C hR ρ ls H locs hK hL hW hw hlo
  obtain ⟨hx, hb, hml, hown, hts, hkb, -, hlv, h9, h10⟩ := id C
  have hM : va_Mi "[Ljava/lang/Object;" (gm g) s := hkb.2.2.2.2.2.2.2
  have har := (hw.1 src _ hs).1.ar (show ¬ (22 : Nat) < 14 by decide) (show (22 : Nat) < 25 by decide)
  obtain ⟨kA, comp, r1, r2, r3, r4, -⟩ := aK.of hkb (a := 22) rfl rfl
  refine va_getC hx hb (by rw [hml]; exact hL.1.symm) hown (hts _ gc_w.1) (nw_use hkb gc_w.2.2.2.2) (hts _ gc_w.2.2.2.1) (hts _ gc_w.2.1) (hts _ gc_w.2.2.1) hM ⟨_, har, rfl, r3⟩ (by omega) ?_ dArrs_copyOf_3.1 ?_
  · show 1 + (1 + 0) + 14 ≤ R.locals
    omega
  have hM1 := met_copyOf1 (l_copyOf1 (Q := fun v h' => v = some (vR nm) ∧ h' = up h nm (22, N, fun j => if j < ns then f j else vN)) hs hn hle hN hb2 hE ⟨rfl, rfl⟩) l g ρ (hW.tl.tl.app (fun x hx => by rw [List.mem_singleton.mp hx]; trivial))
  have hpre : PreS s H (PcM g ρ h [vR src, vI (nI N)]) ([vR src, vI (nI N)].map (tr ρ) ++ [Value.ref (gm g)]) := ⟨pcM_blind, fun U hU hW => ⟨rfl, by rw [hU]; exact hw.moved hW.alike, hkb.moved hW⟩⟩
  obtain ⟨vB, v3, v5⟩ := cs_Arrs_300
  have hrm := lvl_room (lvl := 2) (lvl' := 1) (mc' := 1) (ms' := N) hlv (by omega) vB.2.2.2
  refine s_back (P := fun v h' => v = some (vR nm) ∧ h' = up h nm (22, N, fun j => if j < ns then f j else vN)) (pc := 6) (st := []) (mc' := 1) (ms' := N) C hR hK hL Ws.nil hlo (a := ([vR src, vI (nI N)].map (tr ρ) ++ [Value.ref (gm g)]).toArray) ?_ ?_
  · rcases v5 with v5 | ⟨host, v5⟩
    · exact va_runS (Ts := TB) (own := "java/util/Arrays") (n := 3) ⟨hx, hb, hml, hown, hts⟩ hM1 ⟨callB_of _ hts (cb_good vB) rfl rfl rfl (hts _ vB.2.1) (hts _ v5) vB.2.2.1 hrm, hts _ v3⟩ hpre rfl rfl hL.1 rfl (rest_ok (st := []) rfl) dArrs_copyOf_6.1 ⟨by omega, by omega⟩
    · exact va_runSN (Ts := TB) (own := "java/util/Arrays") (n := 3) ⟨hx, hb, hml, hown, hts⟩ hM1 ⟨va_cnB _ hts (cb_good vB) rfl rfl rfl (hkb.2.2.2.2.1 _ v5) (hts _ vB.2.1) vB.2.2.1 hrm, hts _ v3, trivial⟩ hpre rfl rfl hL.1 rfl (rest_ok (st := []) rfl) dArrs_copyOf_6.1 ⟨by omega, by omega⟩
  · intro v h' q
    obtain ⟨rfl, rfl⟩ := q
    refine s_aret dArrs_copyOf_9 rfl (by first | exact Or.inl ⟨_, rfl⟩ | exact Or.inr ⟨_, rfl⟩) (by first | exact Nat.le_refl _ | decide | omega) (by first | exact Nat.le_refl _ | decide | omega) ?_
    exact ⟨rfl, rfl⟩
/-- what grows out of a full list -/
def nxt (c : Nat) : Nat := if c = 0 then 10 else c + max 1 (c / 2)
theorem LC.ob {h : Hp} {t : Nm} {l : List Nm} {cap : Nat} {z : Int32} {f : Nat → PV} (I : LC h t l cap z f) (E : EL t h l) (i : Nat) : isOb h (f i) := by
  by_cases c1 : i < l.length
  · obtain ⟨x, hx1⟩ : ∃ x, l[i]? = some x := ⟨_, List.getElem?_eq_getElem c1⟩
    obtain ⟨-, -, ci, g, q1, q2⟩ := E x (List.mem_of_getElem? hx1)
    exact Or.inr ⟨x, ci, 0, g, I.2.2.2.2.2.1 i x hx1, q2, q1.lt, q1.co⟩
  · exact Or.inl (I.2.2.2.2.2.2 i (by omega))
theorem c_grow1 {h : Hp} {t : Nm} {l : List Nm} {cap : Nat} {z : Int32} {f : Nat → PV} (I : LC h t l cap z f) (hl : l.length = cap) (hc : cap < 73) (E : EL t h l) (ht : Nat.ble 2 t.1 = true) :
    Con mAL_grow1 3 1 73 [vR t, vI (nI (cap + 1))] h (fun v h' => ∃ cap' f', v = some (vR (eld t cap')) ∧ cap < cap' ∧ LC h' t l cap' z f' ∧ frL t h h') := by
  have hob := I.ob E
  obtain ⟨e1, e2, e3, e4, e5, e6, e7⟩ := I
  have htb : ∀ c, Nat.ble 2 (eld t c).1 = true := fun c => eld_b ht
  have hcap : cap < nxt cap ∧ capK (nxt cap) ∧ nxt cap ≤ 73 := by
    rcases e2 with rfl | rfl | rfl | rfl | rfl | rfl | rfl
    · exact ⟨by decide, Or.inr (Or.inl rfl), by decide⟩
    · exact ⟨by decide, Or.inr (Or.inr (Or.inl rfl)), by decide⟩
    · exact ⟨by decide, Or.inr (Or.inr (Or.inr (Or.inl rfl))), by decide⟩
    · exact ⟨by decide, Or.inr (Or.inr (Or.inr (Or.inr (Or.inl rfl)))), by decide⟩
    · exact ⟨by decide, Or.inr (Or.inr (Or.inr (Or.inr (Or.inr (Or.inl rfl))))), by decide⟩
    · exact ⟨by decide, Or.inr (Or.inr (Or.inr (Or.inr (Or.inr (Or.inr rfl))))), by decide⟩
    · omega
  have hfr := e4 (nxt cap) hcap.1
  have fin0 : ∀ f', (∀ i, f' i = f i) → ∃ cap' f'', some (vR (eld t (nxt cap))) = some (vR (eld t cap')) ∧ cap < cap' ∧ LC (up (up h (eld t (nxt cap)) (22, nxt cap, f')) t (13, 0, fl [vR (eld t (nxt cap)), vI (nI l.length), vI z])) t l cap' z f'' ∧ frL t h (up (up h (eld t (nxt cap)) (22, nxt cap, f')) t (13, 0, fl [vR (eld t (nxt cap)), vI (nI l.length), vI z])) := by
    intro f' hf'
    refine ⟨nxt cap, f', rfl, hcap.1, ⟨?_, hcap.2.1, by omega, fun c q1 => ?_, fun _ => ?_, fun i x q1 => ?_, fun i q1 => ?_⟩, frL.rf.u2.u1⟩
    · rw [up_self]
      have : adr t (nxt cap) = eld t (nxt cap) := if_neg (by omega)
      rw [this]
    · rw [up_ne eld_nf, up_ne (eld_in (by omega))]
      exact e4 c (by omega)
    · rw [up_ne eld_nf, up_self]
    · rw [hf']; exact e6 i x q1
    · rw [hf']; exact e7 i q1
  refine c_enter (by decide +kernel) rfl rfl ?_
  by_cases c0 : cap = 0
  · subst c0
    refine s_wd (fun w0 => ?_)
    have ea : adr t 0 = (1, 0, 0) := if_pos rfl
    rw [ea] at e1
    refine s_aload_n dAL_grow1_0 rfl rfl ?_
    refine s_get dAL_grow1_1 gf_AL_9 (by repeat (first | exact up_self | assumption | rw [up_ne (by first | assumption | (intro q0; cases q0; done) | (intro q0; simp at q0; omega))])) ?_
    refine s_alen dAL_grow1_4 (by repeat (first | exact up_self | assumption | rw [up_ne (by first | assumption | (intro q0; cases q0; done) | (intro q0; simp at q0; omega))])) rfl (by first | exact Or.inl rfl | exact Or.inr (Or.inl rfl)) ?_
    refine s_istore_n dAL_grow1_5 rfl rfl ?_
    refine s_iload_n dAL_grow1_6 rfl rfl ?_
    refine s_if_gt dAL_grow1_7 (fun q => absurd q (by exact Int32.lt_irrefl)) (fun _ => ?_)
    refine s_aload_n dAL_grow1_10 rfl rfl ?_
    refine s_get dAL_grow1_11 gf_AL_9 (by repeat (first | exact up_self | assumption | rw [up_ne (by first | assumption | (intro q0; cases q0; done) | (intro q0; simp at q0; omega))])) ?_
    refine s_gets dAL_grow1_14 gs_AL_39 ?_
    refine s_acmp_eq dAL_grow1_17 (fun _ => ?_) (fun q => absurd rfl q)
    refine s_aload_n dAL_grow1_45 rfl rfl ?_
    refine s_bipush (v := nI 10) dAL_grow1_46 (by decide) ?_
    refine s_iload_n dAL_grow1_48 rfl rfl ?_
    refine s_mmax dAL_grow1_49 cs_AL_79 rfl rfl rfl rfl ?_
    rw [mx_nI (by omega) (by omega)]
    refine s_anew (a := 22) (C0 := "java/lang/Object") (eld t (nxt 0)) 10 dAL_grow1_52 ⟨Or.inl rfl, rfl, cl_AL_7⟩ rfl (by omega) hfr (by omega) (by omega) ?_
    have e1b : up h (eld t (nxt 0)) (22, 10, fun _ => vN) t = some (13, 0, fl [vR (1, 0, 0), vI (nI l.length), vI z]) := by rw [up_ne eld_ne]; exact e1
    refine s_dup_x1 dAL_grow1_55 rfl rfl ?_
    refine s_put dAL_grow1_56 gf_AL_9 e1b ht (Or.inl rfl) ⟨_, rfl⟩ ?_
    rw [fl_upf (Nat.le_of_ble_eq_true rfl)]
    refine s_aret dAL_grow1_59 rfl (by first | exact Or.inl ⟨_, rfl⟩ | exact Or.inr ⟨_, rfl⟩) (by first | exact Nat.le_refl _ | decide | omega) (by first | exact Nat.le_refl _ | decide | omega) ?_
    exact fin0 (fun _ => vN) (fun i => (e7 i (by omega)).symm)
  · have ea : adr t cap = eld t cap := if_neg c0
    rw [ea] at e1
    have e5b := e5 (by omega)
    have hlen2 : l.length = cap := hl
    have K1 : S mAL_grow1 3 1 73 (fun v h' => ∃ cap' f', v = some (vR (eld t cap')) ∧ cap < cap' ∧ LC h' t l cap' z f' ∧ frL t h h') 20 [some (vR t), some (vI (nI (cap + 1))), some (vI (nI cap)), none] [] h 0 0 := by
      have sh : nI cap >>> nI 1 = nI (cap / 2) := by rcases e2 with rfl | rfl | rfl | rfl | rfl | rfl | rfl <;> decide
      have hn2 : nxt cap = cap + max 1 (cap / 2) := if_neg c0
      refine s_iload_n dAL_grow1_20 rfl rfl ?_
      refine s_iload_n dAL_grow1_21 rfl rfl ?_
      refine s_iload_n dAL_grow1_22 rfl rfl ?_
      first | refine s_isubN dAL_grow1_23 (by omega) ?_ | refine s_isub dAL_grow1_23 ?_
      refine s_tv (by rw [Nat.add_sub_cancel_left]) ?_
      refine s_iload_n dAL_grow1_24 rfl rfl ?_
      refine s_iconst (v := 1) dAL_grow1_25 (by decide) ?_
      refine s_ishr dAL_grow1_26 ?_
      refine s_tv (congrArg vI sh) ?_
      refine s_t3 dAL_grow1_27 cs_AL_73 (c_newLength (a := cap) (b := 1) (c := cap / 2) (by omega) (by omega) (by omega) (by omega)) rfl rfl rfl rfl ?_
      refine s_istore_n dAL_grow1_30 rfl rfl ?_
      refine s_aload_n dAL_grow1_31 rfl rfl ?_
      refine s_aload_n dAL_grow1_32 rfl rfl ?_
      refine s_get dAL_grow1_33 gf_AL_9 (by repeat (first | exact up_self | assumption | rw [up_ne (by first | assumption | (intro q0; cases q0; done) | (intro q0; simp at q0; omega))])) ?_
      refine s_iload_n dAL_grow1_36 rfl rfl ?_
      rw [← hn2]
      refine s_callS (As := [_, _]) dAL_grow1_37 cs_AL_66 (c_copyOf (nm := eld t (nxt cap)) e5b hfr (by omega) (by omega) (htb _) (fun i _ => hob i)) rfl rfl (Nat.ble_eq_true_of_le (by omega)) rfl (fun v0 h2 q0 => ?_)
      obtain ⟨rfl, rfl⟩ := q0
      have e1b : up h (eld t (nxt cap)) (22, nxt cap, fun j => if j < cap then f j else vN) t = some (13, 0, fl [vR (eld t cap), vI (nI l.length), vI z]) := by rw [up_ne eld_ne]; exact e1
      refine s_dup_x1 dAL_grow1_40 rfl rfl ?_
      refine s_put dAL_grow1_41 gf_AL_9 e1b ht (Or.inl rfl) ⟨_, rfl⟩ ?_
      rw [fl_upf (Nat.le_of_ble_eq_true rfl)]
      refine s_aret dAL_grow1_44 rfl (by first | exact Or.inl ⟨_, rfl⟩ | exact Or.inr ⟨_, rfl⟩) (by first | exact Nat.le_refl _ | decide | omega) (by first | exact Nat.le_refl _ | decide | omega) ?_
      exact fin0 (fun j => if j < cap then f j else vN) (fun i => by
        by_cases c1 : i < cap
        · rw [if_pos c1]
        · rw [if_neg c1]; exact (e7 i (by omega)).symm)
    refine s_aload_n dAL_grow1_0 rfl rfl ?_
    refine s_get dAL_grow1_1 gf_AL_9 (by repeat (first | exact up_self | assumption | rw [up_ne (by first | assumption | (intro q0; cases q0; done) | (intro q0; simp at q0; omega))])) ?_
    refine s_alen dAL_grow1_4 (by repeat (first | exact up_self | assumption | rw [up_ne (by first | assumption | (intro q0; cases q0; done) | (intro q0; simp at q0; omega))])) rfl (by first | exact Or.inl rfl | exact Or.inr (Or.inl rfl)) ?_
    refine s_istore_n dAL_grow1_5 rfl rfl ?_
    refine s_iload_n dAL_grow1_6 rfl rfl ?_
    refine s_if_gt dAL_grow1_7 (fun _ => ?_) (fun q => absurd (nI_lt (a := 0) (by omega) (by omega)) q)
    exact K1
theorem c_grow {h : Hp} {t : Nm} {l : List Nm} {cap : Nat} {z : Int32} {f : Nat → PV} (I : LC h t l cap z f) (hl : l.length = cap) (hc : cap < 73) (E : EL t h l) (ht : Nat.ble 2 t.1 = true) :
    Con mAL_grow 4 1 73 [vR t] h (fun v h' => ∃ cap' f', v = some (vR (eld t cap')) ∧ cap < cap' ∧ LC h' t l cap' z f' ∧ frL t h h') := by
  have e1 := I.1
  rw [hl] at e1
  refine c_enter (by decide +kernel) rfl rfl ?_
  refine s_aload_n dAL_grow_0 rfl rfl ?_
  refine s_aload_n dAL_grow_1 rfl rfl ?_
  refine s_get dAL_grow_2 gf_AL_48 (by repeat (first | exact up_self | assumption | rw [up_ne (by first | assumption | (intro q0; cases q0; done) | (intro q0; simp at q0; omega))])) ?_
  refine s_iconst (v := nI 1) dAL_grow_5 (by decide) ?_
  first | refine s_iaddN dAL_grow_6 ?_ | refine s_iadd dAL_grow_6 ?_
  refine s_callV (As := [_]) dAL_grow_7 cv_AL_69 (by repeat (first | exact up_self | assumption | rw [up_ne (by first | assumption | (intro q0; cases q0; done) | (intro q0; simp at q0; omega))])) (c_grow1 I hl hc E ht) (by first | rfl | exact Nat.ble_eq_true_of_le (by omega)) (by first | rfl | exact Nat.ble_eq_true_of_le (by omega)) (by first | rfl | exact Nat.ble_eq_true_of_le (by omega)) rfl (fun v0 h2 q0 => ?_)
  obtain ⟨cap', f', rfl, a1, a2, a3⟩ := q0
  refine s_aret dAL_grow_10 rfl (by first | exact Or.inl ⟨_, rfl⟩ | exact Or.inr ⟨_, rfl⟩) (by first | exact Nat.le_refl _ | decide | omega) (by first | exact Nat.le_refl _ | decide | omega) ?_
  exact ⟨cap', f', rfl, a1, a2, a3⟩
