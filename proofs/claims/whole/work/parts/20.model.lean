/-- the lengths of the rows of the reference, by its fields; 0: no row -/
def mLn : Nat → Nat := fun k => match k with
  | 1 => 20
  | 3 => 20
  | 4 => 80
  | 6 => 12
  | 7 => 48
  | 9 => 60
  | 10 => 60
  | 11 => 60
  | 12 => 720
  | 13 => 60
  | 14 => 180
  | 15 => 60
  | 16 => 60
  | 17 => 60
  | 19 => 60
  | 22 => 360
  | 23 => 6
  | 24 => 6
  | 25 => 24
  | 26 => 360
  | 27 => 6
  | 28 => 900
  | 34 => 48
  | 36 => 18
  | 38 => 4
  | 39 => 4
  | 41 => 8
  | 42 => 8
  | 43 => 8
  | 44 => 16
  | 45 => 16
  | 48 => 16
  | 51 => 120
  | _ => 0
def mKd : Nat → Nat := fun k => match k with
  | 26 => 21
  | 27 => 21
  | 42 => 21
  | _ => 20
abbrev mArr (k : Nat) : Bool := Nat.blt 0 (mLn k)
abbrev Sg : Type := Nat → Nat → Int32
def mF (σ : Sg) : Nat → PV := fun k => if mArr k = true then vR (101, k, 0) else vI (σ k 0)
/-- the reference's cells, over any other -/
def hM (σ : Sg) (h : Hp) : Hp := fun n => if n = (100, 0, 0) then some (12, 0, mF σ) else if n.1 = 101 ∧ n.2.2 = 0 ∧ mArr n.2.1 = true then some (mKd n.2.1, mLn n.2.1, fun i => vI (σ n.2.1 i)) else h n
def us (σ : Sg) (k j : Nat) (x : Int32) : Sg := fun k' j' => if k' = k ∧ j' = j then x else σ k' j'
theorem us_s {σ : Sg} {k j : Nat} {x : Int32} : us σ k j x k j = x := if_pos ⟨rfl, rfl⟩
theorem us_k {σ : Sg} {k j k' j' : Nat} {x : Int32} (h : k' ≠ k) : us σ k j x k' j' = σ k' j' := if_neg fun q => h q.1
theorem us_j {σ : Sg} {k j k' j' : Nat} {x : Int32} (h : j' ≠ j) : us σ k j x k' j' = σ k' j' := if_neg fun q => h q.2
theorem hM_o {σ : Sg} {h : Hp} : hM σ h (100, 0, 0) = some (12, 0, mF σ) := if_pos rfl
theorem hM_a {σ : Sg} {h : Hp} {k : Nat} (ha : mArr k = true) : hM σ h (101, k, 0) = some (mKd k, mLn k, fun i => vI (σ k i)) := by
  unfold hM
  rw [if_neg (fun q => by cases q), if_pos ⟨rfl, rfl, ha⟩]
theorem hM_x {σ : Sg} {h : Hp} {n : Nm} (h1 : n ≠ (100, 0, 0)) (h2 : n.1 ≠ 101) : hM σ h n = h n := by
  unfold hM
  rw [if_neg h1, if_neg (fun q => h2 q.1)]
theorem hM_up {σ : Sg} {h : Hp} {k j : Nat} {x : Int32} (ha : mArr k = true) : up (hM σ h) (101, k, 0) (mKd k, mLn k, upf (fun i => vI (σ k i)) j (vI x)) = hM (us σ k j x) h := by
  funext n
  by_cases e : n = (101, k, 0)
  · subst e
    rw [up_self, hM_a ha]
    congr 3
    funext i
    unfold upf us
    by_cases q : i = j
    · rw [if_pos q, if_pos ⟨rfl, q⟩]
    · rw [if_neg q, if_neg (fun z => q z.2)]
  · rw [up_ne e]
    unfold hM
    by_cases e1 : n = (100, 0, 0)
    · rw [if_pos e1, if_pos e1]
      congr 3
      funext q
      unfold mF
      by_cases z : mArr q = true
      · rw [if_pos z, if_pos z]
      · rw [if_neg z, if_neg z, us_k (fun w => z (by rw [w]; exact ha))]
    · rw [if_neg e1, if_neg e1]
      by_cases e2 : n.1 = 101 ∧ n.2.2 = 0 ∧ mArr n.2.1 = true
      · rw [if_pos e2, if_pos e2]
        have : n.2.1 ≠ k := fun w => e (by obtain ⟨a, b, c⟩ := n; obtain ⟨z1, z2, -⟩ := e2; simp at z1 z2 w; subst z1; subst z2; subst w; rfl)
        congr 3
        funext i
        rw [us_k this]
      · rw [if_neg e2, if_neg e2]
theorem hM_put {σ : Sg} {h : Hp} {k : Nat} {x : Int32} (ha : mArr k = false) : up (hM σ h) (100, 0, 0) (12, 0, upf (mF σ) k (vI x)) = hM (us σ k 0 x) h := by
  funext n
  by_cases e : n = (100, 0, 0)
  · subst e
    rw [up_self, hM_o]
    congr 3
    funext i
    unfold upf mF
    by_cases q : i = k
    · subst q
      rw [if_pos rfl, if_neg (by rw [ha]; decide), us_s]
    · rw [if_neg q, us_k q]
  · rw [up_ne e]
    unfold hM
    rw [if_neg e, if_neg e]
    by_cases e2 : n.1 = 101 ∧ n.2.2 = 0 ∧ mArr n.2.1 = true
    · rw [if_pos e2, if_pos e2]
      have : n.2.1 ≠ k := fun w => by rw [w, ha] at e2; cases e2.2.2
      congr 3
      funext i
      rw [us_k this]
    · rw [if_neg e2, if_neg e2]
/-- a contract with one answer and one heap -/
abbrev ConF (M : MD) (lvl : Nat) (as : List PV) (h : Hp) (v : Option PV) (h1 : Hp) : Prop := Con M lvl 0 0 as h (fun v' h' => v' = v ∧ h' = h1)
section MR
variable {M M' : MD} {lvl lvl' mc ms : Nat} {Q : Option PV → Hp → Prop} {pc pc' tgt : Nat} {lv : List (Option PV)} {st : List PV} {h h1 : Hp} {k n : Nat} {σ σ1 : Sg}
theorem s_top {x y : Int32} (e : x = y) (kk : S M lvl mc ms Q pc lv (vI y :: st) h k n) : S M lvl mc ms Q pc lv (vI x :: st) h k n := by rw [e]; exact kk
theorem s_iaddN {a b : Nat} (d : Dc M pc .iadd 1 pc') (kk : S M lvl mc ms Q pc' lv (vI (nI (a + b)) :: st) h k n) : S M lvl mc ms Q pc lv (vI (nI b) :: vI (nI a) :: st) h k n := s_iadd d (by rw [nI_add]; exact kk)
theorem s_imulN {a b : Nat} (d : Dc M pc .imul 1 pc') (kk : S M lvl mc ms Q pc' lv (vI (nI (a * b)) :: st) h k n) : S M lvl mc ms Q pc lv (vI (nI b) :: vI (nI a) :: st) h k n := s_imul d (by rw [pk_mul]; exact kk)
theorem s_isubN {a b : Nat} (d : Dc M pc .isub 1 pc') (hb : b ≤ a) (kk : S M lvl mc ms Q pc' lv (vI (nI (a - b)) :: st) h k n) : S M lvl mc ms Q pc lv (vI (nI b) :: vI (nI a) :: st) h k n := s_isub d (by rw [pk_sub hb]; exact kk)
theorem s_iincN {i a : Nat} (d : Dc M pc (.iinc i 1) 3 pc') (hl : lv[i]? = some (some (vI (nI a)))) (hi : Nat.blt i M.2.2.1 = true) (kk : S M lvl mc ms Q pc' (lset lv i (vI (nI (a + 1)))) st h k n) : S M lvl mc ms Q pc lv st h k n := s_iinc d hl hi (by rw [show Int32.ofInt 1 = (1 : Int32) by decide, nI_1]; exact kk)
theorem s_mgi {idx kf : Nat} (d : Dc M pc (.getfield idx) 3 pc') (G : GF M.1.cls idx 12 kf) (ha : mArr kf = false) (kk : S M lvl mc ms Q pc' lv (vI (σ kf 0) :: st) (hM σ h) k n) : S M lvl mc ms Q pc lv (vR (100, 0, 0) :: st) (hM σ h) k n := by
  refine s_get d G hM_o ?_
  unfold mF
  rw [if_neg (by rw [ha]; decide)]
  exact kk
theorem s_mga {idx kf : Nat} (d : Dc M pc (.getfield idx) 3 pc') (G : GF M.1.cls idx 12 kf) (ha : mArr kf = true) (kk : S M lvl mc ms Q pc' lv (vR (101, kf, 0) :: st) (hM σ h) k n) : S M lvl mc ms Q pc lv (vR (100, 0, 0) :: st) (hM σ h) k n := by
  refine s_get d G hM_o ?_
  unfold mF
  rw [if_pos ha]
  exact kk
theorem s_mpi {idx kf : Nat} {x : Int32} (d : Dc M pc (.putfield idx) 3 pc') (G : GF M.1.cls idx 12 kf) (ha : mArr kf = false) (hf : (cT 12 kf).2.2.2 = false) (hv : fitV (cY 12 kf) (vI x)) (kk : S M lvl mc ms Q pc' lv st (hM (us σ kf 0 x) h) k n) : S M lvl mc ms Q pc lv (vI x :: vR (100, 0, 0) :: st) (hM σ h) k n := by
  refine s_put d G hM_o rfl (Or.inl hf) hv ?_
  rw [hM_put ha]
  exact kk
theorem s_mald {kf j : Nat} (d : Dc M pc .iaload 1 pc') (ha : mArr kf = true) (hk : mKd kf = 20) (hj : j < mLn kf) (hb : Nat.ble (mLn kf) 1000 = true) (kk : S M lvl mc ms Q pc' lv (vI (σ kf j) :: st) (hM σ h) k n) : S M lvl mc ms Q pc lv (vI (nI j) :: vR (101, kf, 0) :: st) (hM σ h) k n := by
  have hb := Nat.le_of_ble_eq_true hb
  refine s_iald d (by rw [hM_a ha, hk]) (vp_in_nI hj (by omega)) ?_
  rw [nI_clamp (by omega)]
  exact kk
theorem s_mast {kf j : Nat} {x : Int32} (d : Dc M pc .iastore 1 pc') (ha : mArr kf = true) (hk : mKd kf = 20) (hj : j < mLn kf) (hb : Nat.ble (mLn kf) 1000 = true) (kk : S M lvl mc ms Q pc' lv st (hM (us σ kf j x) h) k n) : S M lvl mc ms Q pc lv (vI x :: vI (nI j) :: vR (101, kf, 0) :: st) (hM σ h) k n := by
  have hb := Nat.le_of_ble_eq_true hb
  refine s_iast d (by rw [hM_a ha, hk]) rfl (vp_in_nI hj (by omega)) ?_
  rw [nI_clamp (by omega), ← hk, hM_up ha]
  exact kk
theorem s_mzld {kf j : Nat} (d : Dc M pc .baload 1 pc') (ha : mArr kf = true) (hk : mKd kf = 21) (hj : j < mLn kf) (hb : Nat.ble (mLn kf) 1000 = true) (kk : S M lvl mc ms Q pc' lv (vI (σ kf j) :: st) (hM σ h) k n) : S M lvl mc ms Q pc lv (vI (nI j) :: vR (101, kf, 0) :: st) (hM σ h) k n := by
  have hb := Nat.le_of_ble_eq_true hb
  refine s_zald d (by rw [hM_a ha, hk]) (vp_in_nI hj (by omega)) ?_
  rw [nI_clamp (by omega)]
  exact kk
theorem s_mzst {kf j : Nat} {x : Int32} (d : Dc M pc .bastore 1 pc') (ha : mArr kf = true) (hk : mKd kf = 21) (hx : x = 0 ∨ x = 1) (hj : j < mLn kf) (hb : Nat.ble (mLn kf) 1000 = true) (kk : S M lvl mc ms Q pc' lv st (hM (us σ kf j x) h) k n) : S M lvl mc ms Q pc lv (vI x :: vI (nI j) :: vR (101, kf, 0) :: st) (hM σ h) k n := by
  have hb := Nat.le_of_ble_eq_true hb
  refine s_zast d (by rw [hM_a ha, hk]) rfl hx (vp_in_nI hj (by omega)) ?_
  rw [nI_clamp (by omega), ← hk, hM_up ha]
  exact kk
theorem s_v0 {idx ci len : Nat} {nm : Nm} {f : Nat → PV} {r : PV} (d : Dc M pc (.invokevirtual idx) 3 pc') (V : CV M.1.cls idx ci M' 0) (hc : h nm = some (ci, len, f)) (K : ConF M' lvl' (vR nm :: []) h (some r) h1) (hl : Nat.blt lvl' lvl = true) (hk : Nat.ble (k + 0) mc = true) (hn : Nat.ble (n + 0) ms = true) (h8 : rest8 st = true) (kk : S M lvl mc ms Q pc' lv (r :: st) h1 k n) : S M lvl mc ms Q pc lv (vR nm :: st) h k n :=
  s_callV (As := []) d V hc K hl hk hn h8 (fun v h' q => by obtain ⟨rfl, rfl⟩ := q; exact kk)
theorem s_t0 {idx : Nat} {r : PV} (d : Dc M pc (.invokestatic idx) 3 pc') (V : CS M.1.cls idx M' 0) (K : ConF M' lvl' [] h (some r) h1) (hl : Nat.blt lvl' lvl = true) (hk : Nat.ble (k + 0) mc = true) (hn : Nat.ble (n + 0) ms = true) (h8 : rest8 st = true) (kk : S M lvl mc ms Q pc' lv (r :: st) h1 k n) : S M lvl mc ms Q pc lv (st) h k n :=
  s_callS (As := []) d V K hl hk hn h8 (fun v h' q => by obtain ⟨rfl, rfl⟩ := q; exact kk)
theorem s_v0v {idx ci len : Nat} {nm : Nm} {f : Nat → PV} (d : Dc M pc (.invokevirtual idx) 3 pc') (V : CV M.1.cls idx ci M' 0) (hc : h nm = some (ci, len, f)) (K : ConF M' lvl' (vR nm :: []) h none h1) (hl : Nat.blt lvl' lvl = true) (hk : Nat.ble (k + 0) mc = true) (hn : Nat.ble (n + 0) ms = true) (h8 : rest8 st = true) (kk : S M lvl mc ms Q pc' lv st h1 k n) : S M lvl mc ms Q pc lv (vR nm :: st) h k n :=
  s_callV (As := []) d V hc K hl hk hn h8 (fun v h' q => by obtain ⟨rfl, rfl⟩ := q; exact kk)
theorem s_t0v {idx : Nat} (d : Dc M pc (.invokestatic idx) 3 pc') (V : CS M.1.cls idx M' 0) (K : ConF M' lvl' [] h none h1) (hl : Nat.blt lvl' lvl = true) (hk : Nat.ble (k + 0) mc = true) (hn : Nat.ble (n + 0) ms = true) (h8 : rest8 st = true) (kk : S M lvl mc ms Q pc' lv st h1 k n) : S M lvl mc ms Q pc lv (st) h k n :=
  s_callS (As := []) d V K hl hk hn h8 (fun v h' q => by obtain ⟨rfl, rfl⟩ := q; exact kk)
theorem s_v1 {idx ci len : Nat} {nm : Nm} {f : Nat → PV} {a0 : PV} {r : PV} (d : Dc M pc (.invokevirtual idx) 3 pc') (V : CV M.1.cls idx ci M' 1) (hc : h nm = some (ci, len, f)) (K : ConF M' lvl' (vR nm :: [a0]) h (some r) h1) (hl : Nat.blt lvl' lvl = true) (hk : Nat.ble (k + 0) mc = true) (hn : Nat.ble (n + 0) ms = true) (h8 : rest8 st = true) (kk : S M lvl mc ms Q pc' lv (r :: st) h1 k n) : S M lvl mc ms Q pc lv (a0 :: vR nm :: st) h k n :=
  s_callV (As := [a0]) d V hc K hl hk hn h8 (fun v h' q => by obtain ⟨rfl, rfl⟩ := q; exact kk)
theorem s_t1 {idx : Nat} {a0 : PV} {r : PV} (d : Dc M pc (.invokestatic idx) 3 pc') (V : CS M.1.cls idx M' 1) (K : ConF M' lvl' [a0] h (some r) h1) (hl : Nat.blt lvl' lvl = true) (hk : Nat.ble (k + 0) mc = true) (hn : Nat.ble (n + 0) ms = true) (h8 : rest8 st = true) (kk : S M lvl mc ms Q pc' lv (r :: st) h1 k n) : S M lvl mc ms Q pc lv (a0 :: st) h k n :=
  s_callS (As := [a0]) d V K hl hk hn h8 (fun v h' q => by obtain ⟨rfl, rfl⟩ := q; exact kk)
theorem s_v1v {idx ci len : Nat} {nm : Nm} {f : Nat → PV} {a0 : PV} (d : Dc M pc (.invokevirtual idx) 3 pc') (V : CV M.1.cls idx ci M' 1) (hc : h nm = some (ci, len, f)) (K : ConF M' lvl' (vR nm :: [a0]) h none h1) (hl : Nat.blt lvl' lvl = true) (hk : Nat.ble (k + 0) mc = true) (hn : Nat.ble (n + 0) ms = true) (h8 : rest8 st = true) (kk : S M lvl mc ms Q pc' lv st h1 k n) : S M lvl mc ms Q pc lv (a0 :: vR nm :: st) h k n :=
  s_callV (As := [a0]) d V hc K hl hk hn h8 (fun v h' q => by obtain ⟨rfl, rfl⟩ := q; exact kk)
theorem s_t1v {idx : Nat} {a0 : PV} (d : Dc M pc (.invokestatic idx) 3 pc') (V : CS M.1.cls idx M' 1) (K : ConF M' lvl' [a0] h none h1) (hl : Nat.blt lvl' lvl = true) (hk : Nat.ble (k + 0) mc = true) (hn : Nat.ble (n + 0) ms = true) (h8 : rest8 st = true) (kk : S M lvl mc ms Q pc' lv st h1 k n) : S M lvl mc ms Q pc lv (a0 :: st) h k n :=
  s_callS (As := [a0]) d V K hl hk hn h8 (fun v h' q => by obtain ⟨rfl, rfl⟩ := q; exact kk)
theorem s_v2 {idx ci len : Nat} {nm : Nm} {f : Nat → PV} {a0 a1 : PV} {r : PV} (d : Dc M pc (.invokevirtual idx) 3 pc') (V : CV M.1.cls idx ci M' 2) (hc : h nm = some (ci, len, f)) (K : ConF M' lvl' (vR nm :: [a0, a1]) h (some r) h1) (hl : Nat.blt lvl' lvl = true) (hk : Nat.ble (k + 0) mc = true) (hn : Nat.ble (n + 0) ms = true) (h8 : rest8 st = true) (kk : S M lvl mc ms Q pc' lv (r :: st) h1 k n) : S M lvl mc ms Q pc lv (a1 :: a0 :: vR nm :: st) h k n :=
  s_callV (As := [a0, a1]) d V hc K hl hk hn h8 (fun v h' q => by obtain ⟨rfl, rfl⟩ := q; exact kk)
theorem s_t2 {idx : Nat} {a0 a1 : PV} {r : PV} (d : Dc M pc (.invokestatic idx) 3 pc') (V : CS M.1.cls idx M' 2) (K : ConF M' lvl' [a0, a1] h (some r) h1) (hl : Nat.blt lvl' lvl = true) (hk : Nat.ble (k + 0) mc = true) (hn : Nat.ble (n + 0) ms = true) (h8 : rest8 st = true) (kk : S M lvl mc ms Q pc' lv (r :: st) h1 k n) : S M lvl mc ms Q pc lv (a1 :: a0 :: st) h k n :=
  s_callS (As := [a0, a1]) d V K hl hk hn h8 (fun v h' q => by obtain ⟨rfl, rfl⟩ := q; exact kk)
theorem s_v2v {idx ci len : Nat} {nm : Nm} {f : Nat → PV} {a0 a1 : PV} (d : Dc M pc (.invokevirtual idx) 3 pc') (V : CV M.1.cls idx ci M' 2) (hc : h nm = some (ci, len, f)) (K : ConF M' lvl' (vR nm :: [a0, a1]) h none h1) (hl : Nat.blt lvl' lvl = true) (hk : Nat.ble (k + 0) mc = true) (hn : Nat.ble (n + 0) ms = true) (h8 : rest8 st = true) (kk : S M lvl mc ms Q pc' lv st h1 k n) : S M lvl mc ms Q pc lv (a1 :: a0 :: vR nm :: st) h k n :=
  s_callV (As := [a0, a1]) d V hc K hl hk hn h8 (fun v h' q => by obtain ⟨rfl, rfl⟩ := q; exact kk)
theorem s_t2v {idx : Nat} {a0 a1 : PV} (d : Dc M pc (.invokestatic idx) 3 pc') (V : CS M.1.cls idx M' 2) (K : ConF M' lvl' [a0, a1] h none h1) (hl : Nat.blt lvl' lvl = true) (hk : Nat.ble (k + 0) mc = true) (hn : Nat.ble (n + 0) ms = true) (h8 : rest8 st = true) (kk : S M lvl mc ms Q pc' lv st h1 k n) : S M lvl mc ms Q pc lv (a1 :: a0 :: st) h k n :=
  s_callS (As := [a0, a1]) d V K hl hk hn h8 (fun v h' q => by obtain ⟨rfl, rfl⟩ := q; exact kk)
theorem s_v3 {idx ci len : Nat} {nm : Nm} {f : Nat → PV} {a0 a1 a2 : PV} {r : PV} (d : Dc M pc (.invokevirtual idx) 3 pc') (V : CV M.1.cls idx ci M' 3) (hc : h nm = some (ci, len, f)) (K : ConF M' lvl' (vR nm :: [a0, a1, a2]) h (some r) h1) (hl : Nat.blt lvl' lvl = true) (hk : Nat.ble (k + 0) mc = true) (hn : Nat.ble (n + 0) ms = true) (h8 : rest8 st = true) (kk : S M lvl mc ms Q pc' lv (r :: st) h1 k n) : S M lvl mc ms Q pc lv (a2 :: a1 :: a0 :: vR nm :: st) h k n :=
  s_callV (As := [a0, a1, a2]) d V hc K hl hk hn h8 (fun v h' q => by obtain ⟨rfl, rfl⟩ := q; exact kk)
theorem s_t3 {idx : Nat} {a0 a1 a2 : PV} {r : PV} (d : Dc M pc (.invokestatic idx) 3 pc') (V : CS M.1.cls idx M' 3) (K : ConF M' lvl' [a0, a1, a2] h (some r) h1) (hl : Nat.blt lvl' lvl = true) (hk : Nat.ble (k + 0) mc = true) (hn : Nat.ble (n + 0) ms = true) (h8 : rest8 st = true) (kk : S M lvl mc ms Q pc' lv (r :: st) h1 k n) : S M lvl mc ms Q pc lv (a2 :: a1 :: a0 :: st) h k n :=
  s_callS (As := [a0, a1, a2]) d V K hl hk hn h8 (fun v h' q => by obtain ⟨rfl, rfl⟩ := q; exact kk)
theorem s_v3v {idx ci len : Nat} {nm : Nm} {f : Nat → PV} {a0 a1 a2 : PV} (d : Dc M pc (.invokevirtual idx) 3 pc') (V : CV M.1.cls idx ci M' 3) (hc : h nm = some (ci, len, f)) (K : ConF M' lvl' (vR nm :: [a0, a1, a2]) h none h1) (hl : Nat.blt lvl' lvl = true) (hk : Nat.ble (k + 0) mc = true) (hn : Nat.ble (n + 0) ms = true) (h8 : rest8 st = true) (kk : S M lvl mc ms Q pc' lv st h1 k n) : S M lvl mc ms Q pc lv (a2 :: a1 :: a0 :: vR nm :: st) h k n :=
  s_callV (As := [a0, a1, a2]) d V hc K hl hk hn h8 (fun v h' q => by obtain ⟨rfl, rfl⟩ := q; exact kk)
theorem s_t3v {idx : Nat} {a0 a1 a2 : PV} (d : Dc M pc (.invokestatic idx) 3 pc') (V : CS M.1.cls idx M' 3) (K : ConF M' lvl' [a0, a1, a2] h none h1) (hl : Nat.blt lvl' lvl = true) (hk : Nat.ble (k + 0) mc = true) (hn : Nat.ble (n + 0) ms = true) (h8 : rest8 st = true) (kk : S M lvl mc ms Q pc' lv st h1 k n) : S M lvl mc ms Q pc lv (a2 :: a1 :: a0 :: st) h k n :=
  s_callS (As := [a0, a1, a2]) d V K hl hk hn h8 (fun v h' q => by obtain ⟨rfl, rfl⟩ := q; exact kk)
theorem s_v4 {idx ci len : Nat} {nm : Nm} {f : Nat → PV} {a0 a1 a2 a3 : PV} {r : PV} (d : Dc M pc (.invokevirtual idx) 3 pc') (V : CV M.1.cls idx ci M' 4) (hc : h nm = some (ci, len, f)) (K : ConF M' lvl' (vR nm :: [a0, a1, a2, a3]) h (some r) h1) (hl : Nat.blt lvl' lvl = true) (hk : Nat.ble (k + 0) mc = true) (hn : Nat.ble (n + 0) ms = true) (h8 : rest8 st = true) (kk : S M lvl mc ms Q pc' lv (r :: st) h1 k n) : S M lvl mc ms Q pc lv (a3 :: a2 :: a1 :: a0 :: vR nm :: st) h k n :=
  s_callV (As := [a0, a1, a2, a3]) d V hc K hl hk hn h8 (fun v h' q => by obtain ⟨rfl, rfl⟩ := q; exact kk)
theorem s_t4 {idx : Nat} {a0 a1 a2 a3 : PV} {r : PV} (d : Dc M pc (.invokestatic idx) 3 pc') (V : CS M.1.cls idx M' 4) (K : ConF M' lvl' [a0, a1, a2, a3] h (some r) h1) (hl : Nat.blt lvl' lvl = true) (hk : Nat.ble (k + 0) mc = true) (hn : Nat.ble (n + 0) ms = true) (h8 : rest8 st = true) (kk : S M lvl mc ms Q pc' lv (r :: st) h1 k n) : S M lvl mc ms Q pc lv (a3 :: a2 :: a1 :: a0 :: st) h k n :=
  s_callS (As := [a0, a1, a2, a3]) d V K hl hk hn h8 (fun v h' q => by obtain ⟨rfl, rfl⟩ := q; exact kk)
theorem s_v4v {idx ci len : Nat} {nm : Nm} {f : Nat → PV} {a0 a1 a2 a3 : PV} (d : Dc M pc (.invokevirtual idx) 3 pc') (V : CV M.1.cls idx ci M' 4) (hc : h nm = some (ci, len, f)) (K : ConF M' lvl' (vR nm :: [a0, a1, a2, a3]) h none h1) (hl : Nat.blt lvl' lvl = true) (hk : Nat.ble (k + 0) mc = true) (hn : Nat.ble (n + 0) ms = true) (h8 : rest8 st = true) (kk : S M lvl mc ms Q pc' lv st h1 k n) : S M lvl mc ms Q pc lv (a3 :: a2 :: a1 :: a0 :: vR nm :: st) h k n :=
  s_callV (As := [a0, a1, a2, a3]) d V hc K hl hk hn h8 (fun v h' q => by obtain ⟨rfl, rfl⟩ := q; exact kk)
theorem s_t4v {idx : Nat} {a0 a1 a2 a3 : PV} (d : Dc M pc (.invokestatic idx) 3 pc') (V : CS M.1.cls idx M' 4) (K : ConF M' lvl' [a0, a1, a2, a3] h none h1) (hl : Nat.blt lvl' lvl = true) (hk : Nat.ble (k + 0) mc = true) (hn : Nat.ble (n + 0) ms = true) (h8 : rest8 st = true) (kk : S M lvl mc ms Q pc' lv st h1 k n) : S M lvl mc ms Q pc lv (a3 :: a2 :: a1 :: a0 :: st) h k n :=
  s_callS (As := [a0, a1, a2, a3]) d V K hl hk hn h8 (fun v h' q => by obtain ⟨rfl, rfl⟩ := q; exact kk)
theorem s_v5 {idx ci len : Nat} {nm : Nm} {f : Nat → PV} {a0 a1 a2 a3 a4 : PV} {r : PV} (d : Dc M pc (.invokevirtual idx) 3 pc') (V : CV M.1.cls idx ci M' 5) (hc : h nm = some (ci, len, f)) (K : ConF M' lvl' (vR nm :: [a0, a1, a2, a3, a4]) h (some r) h1) (hl : Nat.blt lvl' lvl = true) (hk : Nat.ble (k + 0) mc = true) (hn : Nat.ble (n + 0) ms = true) (h8 : rest8 st = true) (kk : S M lvl mc ms Q pc' lv (r :: st) h1 k n) : S M lvl mc ms Q pc lv (a4 :: a3 :: a2 :: a1 :: a0 :: vR nm :: st) h k n :=
  s_callV (As := [a0, a1, a2, a3, a4]) d V hc K hl hk hn h8 (fun v h' q => by obtain ⟨rfl, rfl⟩ := q; exact kk)
theorem s_t5 {idx : Nat} {a0 a1 a2 a3 a4 : PV} {r : PV} (d : Dc M pc (.invokestatic idx) 3 pc') (V : CS M.1.cls idx M' 5) (K : ConF M' lvl' [a0, a1, a2, a3, a4] h (some r) h1) (hl : Nat.blt lvl' lvl = true) (hk : Nat.ble (k + 0) mc = true) (hn : Nat.ble (n + 0) ms = true) (h8 : rest8 st = true) (kk : S M lvl mc ms Q pc' lv (r :: st) h1 k n) : S M lvl mc ms Q pc lv (a4 :: a3 :: a2 :: a1 :: a0 :: st) h k n :=
  s_callS (As := [a0, a1, a2, a3, a4]) d V K hl hk hn h8 (fun v h' q => by obtain ⟨rfl, rfl⟩ := q; exact kk)
theorem s_v5v {idx ci len : Nat} {nm : Nm} {f : Nat → PV} {a0 a1 a2 a3 a4 : PV} (d : Dc M pc (.invokevirtual idx) 3 pc') (V : CV M.1.cls idx ci M' 5) (hc : h nm = some (ci, len, f)) (K : ConF M' lvl' (vR nm :: [a0, a1, a2, a3, a4]) h none h1) (hl : Nat.blt lvl' lvl = true) (hk : Nat.ble (k + 0) mc = true) (hn : Nat.ble (n + 0) ms = true) (h8 : rest8 st = true) (kk : S M lvl mc ms Q pc' lv st h1 k n) : S M lvl mc ms Q pc lv (a4 :: a3 :: a2 :: a1 :: a0 :: vR nm :: st) h k n :=
  s_callV (As := [a0, a1, a2, a3, a4]) d V hc K hl hk hn h8 (fun v h' q => by obtain ⟨rfl, rfl⟩ := q; exact kk)
theorem s_t5v {idx : Nat} {a0 a1 a2 a3 a4 : PV} (d : Dc M pc (.invokestatic idx) 3 pc') (V : CS M.1.cls idx M' 5) (K : ConF M' lvl' [a0, a1, a2, a3, a4] h none h1) (hl : Nat.blt lvl' lvl = true) (hk : Nat.ble (k + 0) mc = true) (hn : Nat.ble (n + 0) ms = true) (h8 : rest8 st = true) (kk : S M lvl mc ms Q pc' lv st h1 k n) : S M lvl mc ms Q pc lv (a4 :: a3 :: a2 :: a1 :: a0 :: st) h k n :=
  s_callS (As := [a0, a1, a2, a3, a4]) d V K hl hk hn h8 (fun v h' q => by obtain ⟨rfl, rfl⟩ := q; exact kk)
theorem s_v6 {idx ci len : Nat} {nm : Nm} {f : Nat → PV} {a0 a1 a2 a3 a4 a5 : PV} {r : PV} (d : Dc M pc (.invokevirtual idx) 3 pc') (V : CV M.1.cls idx ci M' 6) (hc : h nm = some (ci, len, f)) (K : ConF M' lvl' (vR nm :: [a0, a1, a2, a3, a4, a5]) h (some r) h1) (hl : Nat.blt lvl' lvl = true) (hk : Nat.ble (k + 0) mc = true) (hn : Nat.ble (n + 0) ms = true) (h8 : rest8 st = true) (kk : S M lvl mc ms Q pc' lv (r :: st) h1 k n) : S M lvl mc ms Q pc lv (a5 :: a4 :: a3 :: a2 :: a1 :: a0 :: vR nm :: st) h k n :=
  s_callV (As := [a0, a1, a2, a3, a4, a5]) d V hc K hl hk hn h8 (fun v h' q => by obtain ⟨rfl, rfl⟩ := q; exact kk)
theorem s_t6 {idx : Nat} {a0 a1 a2 a3 a4 a5 : PV} {r : PV} (d : Dc M pc (.invokestatic idx) 3 pc') (V : CS M.1.cls idx M' 6) (K : ConF M' lvl' [a0, a1, a2, a3, a4, a5] h (some r) h1) (hl : Nat.blt lvl' lvl = true) (hk : Nat.ble (k + 0) mc = true) (hn : Nat.ble (n + 0) ms = true) (h8 : rest8 st = true) (kk : S M lvl mc ms Q pc' lv (r :: st) h1 k n) : S M lvl mc ms Q pc lv (a5 :: a4 :: a3 :: a2 :: a1 :: a0 :: st) h k n :=
  s_callS (As := [a0, a1, a2, a3, a4, a5]) d V K hl hk hn h8 (fun v h' q => by obtain ⟨rfl, rfl⟩ := q; exact kk)
theorem s_v6v {idx ci len : Nat} {nm : Nm} {f : Nat → PV} {a0 a1 a2 a3 a4 a5 : PV} (d : Dc M pc (.invokevirtual idx) 3 pc') (V : CV M.1.cls idx ci M' 6) (hc : h nm = some (ci, len, f)) (K : ConF M' lvl' (vR nm :: [a0, a1, a2, a3, a4, a5]) h none h1) (hl : Nat.blt lvl' lvl = true) (hk : Nat.ble (k + 0) mc = true) (hn : Nat.ble (n + 0) ms = true) (h8 : rest8 st = true) (kk : S M lvl mc ms Q pc' lv st h1 k n) : S M lvl mc ms Q pc lv (a5 :: a4 :: a3 :: a2 :: a1 :: a0 :: vR nm :: st) h k n :=
  s_callV (As := [a0, a1, a2, a3, a4, a5]) d V hc K hl hk hn h8 (fun v h' q => by obtain ⟨rfl, rfl⟩ := q; exact kk)
theorem s_t6v {idx : Nat} {a0 a1 a2 a3 a4 a5 : PV} (d : Dc M pc (.invokestatic idx) 3 pc') (V : CS M.1.cls idx M' 6) (K : ConF M' lvl' [a0, a1, a2, a3, a4, a5] h none h1) (hl : Nat.blt lvl' lvl = true) (hk : Nat.ble (k + 0) mc = true) (hn : Nat.ble (n + 0) ms = true) (h8 : rest8 st = true) (kk : S M lvl mc ms Q pc' lv st h1 k n) : S M lvl mc ms Q pc lv (a5 :: a4 :: a3 :: a2 :: a1 :: a0 :: st) h k n :=
  s_callS (As := [a0, a1, a2, a3, a4, a5]) d V K hl hk hn h8 (fun v h' q => by obtain ⟨rfl, rfl⟩ := q; exact kk)
end MR
