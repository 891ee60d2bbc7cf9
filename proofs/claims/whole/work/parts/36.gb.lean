/-! glue: what an act leaves, and what it changes -/
def AGl (M N : Int → Int) (x : Int) : Prop := ∀ w : Int, 0 ≤ w → w < 500 → LF M x w = LF N x w
def AGv (M N : Int → Int) : Prop := ∀ j : Int, 3 ≤ j → j < 483 → M j = N j
theorem LVf_ag {M N : Int → Int} {x : Int} (h : AGl M N x) : LVf M x = LVf N x := by
  funext k
  unfold LVf
  simp only [h 0 (by decide) (by decide), h 1 (by decide) (by decide), h 2 (by decide) (by decide), h 3 (by decide) (by decide), h 4 (by decide) (by decide), h 5 (by decide) (by decide), h 6 (by decide) (by decide), h 7 (by decide) (by decide), h 8 (by decide) (by decide), h 9 (by decide) (by decide), h 10 (by decide) (by decide), h 11 (by decide) (by decide), h 12 (by decide) (by decide), h 13 (by decide) (by decide)]
theorem WFl_ag {M N : Int → Int} {x : Int} (h : AGl M N x) (hL : WFl N x) : WFl M x := by
  unfold WFl
  simp only [h 0 (by decide) (by decide), h 1 (by decide) (by decide), h 2 (by decide) (by decide), h 3 (by decide) (by decide), h 4 (by decide) (by decide), h 5 (by decide) (by decide), h 6 (by decide) (by decide), h 7 (by decide) (by decide), h 8 (by decide) (by decide), h 9 (by decide) (by decide), h 10 (by decide) (by decide), h 11 (by decide) (by decide), h 12 (by decide) (by decide), h 13 (by decide) (by decide)]
  exact hL
theorem WFb_ag {M N : Int → Int} {x : Int} (h : AGl M N x) (hb9 : WFb N x) : WFb M x := by
  unfold WFb
  rw [h 13 (by decide) (by decide), h 7 (by decide) (by decide)]
  exact hb9
theorem WFt_ag {M N : Int → Int} {x : Int} (h : AGl M N x) (hT : WFt N x) : WFt M x := by
  intro i i0 i1
  rw [h (20 + i) (by omega) (by omega), h (140 + i) (by omega) (by omega), h (260 + i) (by omega) (by omega), h (380 + i) (by omega) (by omega)]
  exact hT i i0 i1
theorem TR_ag {M N : Int → Int} {x : Int} {a : Nat → Int → Int} (h : AGl M N x) (hT : TR N x a) : TR M x a := by
  intro i i0 i1
  rw [h 5 (by decide) (by decide), h (20 + i) (by omega) (by omega), h (140 + i) (by omega) (by omega), h (260 + i) (by omega) (by omega), h (380 + i) (by omega) (by omega)]
  exact hT i i0 i1
theorem NWl_ag {M N : Int → Int} {x m : Int} (h : AGl M N x) : NWl M m x = NWl N m x := by
  unfold NWl
  rw [h 13 (by decide) (by decide), SUM_congr (f := fun i => bI (0 < LF M x (20 + i) ∧ LF M x (140 + i) = m)) (g := fun i => bI (0 < LF N x (20 + i) ∧ LF N x (140 + i) = m)) (i := 0) 120 (fun i i0 i1 => by show bI (0 < LF M x (20 + i) ∧ LF M x (140 + i) = m) = bI (0 < LF N x (20 + i) ∧ LF N x (140 + i) = m); rw [h (20 + i) (by omega) (by omega), h (140 + i) (by omega) (by omega)]),
    SUM_congr (f := fun i => bI (0 < LF M x (260 + i) ∧ LF M x (380 + i) = m)) (g := fun i => bI (0 < LF N x (260 + i) ∧ LF N x (380 + i) = m)) (i := 0) 120 (fun i i0 i1 => by show bI (0 < LF M x (260 + i) ∧ LF M x (380 + i) = m) = bI (0 < LF N x (260 + i) ∧ LF N x (380 + i) = m); rw [h (260 + i) (by omega) (by omega), h (380 + i) (by omega) (by omega)])]
theorem WFv_ag {M N : Int → Int} (h : AGv M N) (hV : WFv N) : WFv M := by
  intro m m0 m1
  rw [h (3 + m) (by omega) (by omega), h (243 + m) (by omega) (by omega)]
  exact hV m m0 m1
theorem RV_ag {M N : Int → Int} {a : Nat → Int → Int} (h : AGv M N) (hV : RV N a) : RV M a := by
  intro m m0 m1
  rw [h (3 + m) (by omega) (by omega), h (243 + m) (by omega) (by omega)]
  exact hV m m0 m1
theorem CNTV_ag {M N : Int → Int} (h : AGv M N) : ∀ n : Nat, n ≤ 240 → CNTV M n = CNTV N n := by
  intro n
  induction n with
  | zero => intro _; rfl
  | succ n ih =>
    intro hn
    show CNTV M n + bI (0 < M (3 + (n : Int))) = CNTV N n + bI (0 < N (3 + (n : Int)))
    rw [ih (by omega), h (3 + (n : Int)) (by omega) (by omega)]
theorem CNTV_SUM {N : Int → Int} : ∀ n : Nat, CNTV N n = SUM (fun j => bI (0 < N (3 + j))) 0 n := by
  intro n
  induction n with
  | zero => rfl
  | succ n ih =>
    show CNTV N n + bI (0 < N (3 + (n : Int))) = SUM (fun j => bI (0 < N (3 + j))) 0 n + bI (0 < N (3 + (0 + (n : Int))))
    rw [ih, Int.zero_add]
theorem NVs_ag {M N : Int → Int} {m : Int} (h : AGv M N) : SUM (fun j => bI (0 < M (3 + j) ∧ M (243 + j) = m)) 0 240 = SUM (fun j => bI (0 < N (3 + j) ∧ N (243 + j) = m)) 0 240 :=
  SUM_congr 240 (fun i i0 i1 => by show bI (0 < M (3 + i) ∧ M (243 + i) = m) = bI (0 < N (3 + i) ∧ N (243 + i) = m); rw [h (3 + i) (by omega) (by omega), h (243 + i) (by omega) (by omega)])
theorem NWc_ag {M N : Int → Int} {m : Int} (hv : AGv M N) (h2 : M 2 = N 2) (h : ∀ x : Int, 0 ≤ x → x < N 2 → AGl M N x) : NWc M m = NWc N m := by
  unfold NWc
  rw [NVs_ag hv, h2, SUM_congr (f := NWl M m) (g := NWl N m) (i := 0) (N 2).toNat (fun j j0 j1 => NWl_ag (h j j0 (by omega)))]
theorem NWc_one {M N : Int → Int} {m x : Int} (hv : AGv M N) (h2 : M 2 = N 2) (hx : 0 ≤ x ∧ x < N 2) (h : ∀ y : Int, 0 ≤ y → y < N 2 → y ≠ x → AGl M N y) : NWc M m = NWc N m + (NWl M m x - NWl N m x) := by
  unfold NWc
  rw [NVs_ag hv, h2, SUM_up (f := NWl M m) (g := NWl N m) (i := 0) (j := x) (N 2).toNat (fun j j0 j1 j2 => NWl_ag (h j j0 (by omega) j2)) hx.1 (by omega)]
  omega
theorem WF_one {M N : Int → Int} {x : Int} (hW : WF N) (hv : AGv M N) (h0 : M 0 = N 0) (h1 : M 1 = N 1) (h2 : M 2 = N 2) (h : ∀ y : Int, 0 ≤ y → y < N 2 → y ≠ x → AGl M N y) (hL : WFl M x) (hT : WFt M x) : WF M := by
  obtain ⟨w0, w1, w2, hV, hls⟩ := hW
  refine ⟨by rw [h0]; exact w0, by rw [h1]; exact w1, by rw [h2]; exact w2, WFv_ag hv hV, fun y y0 y1 => ?_⟩
  rw [h2] at y1
  by_cases hy : y = x
  · subst hy; exact ⟨hL, hT⟩
  · have q := h y y0 y1 hy
    exact ⟨WFl_ag q (hls y y0 y1).1, WFt_ag q (hls y y0 y1).2⟩
/-! two cells of a lease -/
def TEL (N : Int → Int) (x i j z : Int) : Int → Int := uI (uI N (483 + 500 * x + i) z) (483 + 500 * x + j) (N 0)
theorem MKT_TEL {N : Int → Int} {x r z : Int} : MKT N x r z = TEL N x (20 + r) (140 + r) z := by
  unfold MKT TEL
  rw [show 483 + 500 * x + 20 + r = 483 + 500 * x + (20 + r) by omega, show 483 + 500 * x + 140 + r = 483 + 500 * x + (140 + r) by omega]
theorem TRN_TEL {N : Int → Int} {x y z : Int} : TRN N x y z = TEL N x (260 + (y - LF N x 0)) (380 + (y - LF N x 0)) (z + 1) := by
  unfold TRN TEL
  rw [show 483 + 500 * x + 260 + y - LF N x 0 = 483 + 500 * x + (260 + (y - LF N x 0)) by omega, show 483 + 500 * x + 380 + y - LF N x 0 = 483 + 500 * x + (380 + (y - LF N x 0)) by omega]
theorem TEL_v {N : Int → Int} {x i j z : Int} (hx : 0 ≤ x) (hi : 0 ≤ i) (hj : 0 ≤ j) : AGv (TEL N x i j z) N := by
  intro k k0 k1
  unfold TEL
  rw [uI_n (by omega), uI_n (by omega)]
theorem TEL_h {N : Int → Int} {x i j z k : Int} (hx : 0 ≤ x) (hi : 0 ≤ i) (hj : 0 ≤ j) (hk : k < 483) : TEL N x i j z k = N k := by
  unfold TEL
  rw [uI_n (by omega), uI_n (by omega)]
theorem TEL_l {N : Int → Int} {x y i j z : Int} (hi : 0 ≤ i ∧ i < 500) (hj : 0 ≤ j ∧ j < 500) (h : y ≠ x) : AGl (TEL N x i j z) N y := by
  intro w w0 w1
  unfold TEL
  rw [LF_uI (by omega), LF_uI (by omega)]
theorem TEL_n {N : Int → Int} {x w i j z : Int} (h1 : w ≠ i) (h2 : w ≠ j) : LF (TEL N x i j z) x w = LF N x w := by
  unfold TEL
  rw [LF_uI (by omega), LF_uI (by omega)]
theorem TEL_i {N : Int → Int} {x i j z : Int} (h : i ≠ j) : LF (TEL N x i j z) x i = z := by
  unfold TEL
  rw [LF_uI (by omega)]
  exact uI_s
theorem TEL_j {N : Int → Int} {x i j z : Int} : LF (TEL N x i j z) x j = N 0 := by
  unfold TEL
  exact uI_s
theorem NWl_MK {N : Int → Int} {x r z m : Int} (hr : 0 ≤ r ∧ r ≤ 119) (hz : 1 ≤ z) (h : ¬ 0 < LF N x (20 + r)) : NWl (TEL N x (20 + r) (140 + r) z) m x = NWl N m x + bI (N 0 = m) := by
  obtain ⟨M, hM⟩ : ∃ M, M = TEL N x (20 + r) (140 + r) z := ⟨_, rfl⟩
  rw [← hM]
  have e1 : ∀ w : Int, w ≠ 20 + r → w ≠ 140 + r → LF M x w = LF N x w := fun w a b => by rw [hM]; exact TEL_n a b
  have e2 : LF M x (20 + r) = z := by rw [hM]; exact TEL_i (by omega)
  have e3 : LF M x (140 + r) = N 0 := by rw [hM]; exact TEL_j
  have s1 := SUM_up (f := fun i => bI (0 < LF M x (20 + i) ∧ LF M x (140 + i) = m)) (g := fun i => bI (0 < LF N x (20 + i) ∧ LF N x (140 + i) = m)) (i := 0) (j := r) 120 (fun i i0 i1 i2 => by show bI (0 < LF M x (20 + i) ∧ LF M x (140 + i) = m) = bI (0 < LF N x (20 + i) ∧ LF N x (140 + i) = m); rw [e1 (20 + i) (by omega) (by omega), e1 (140 + i) (by omega) (by omega)]) hr.1 (by omega)
  have s2 := SUM_congr (f := fun i => bI (0 < LF M x (260 + i) ∧ LF M x (380 + i) = m)) (g := fun i => bI (0 < LF N x (260 + i) ∧ LF N x (380 + i) = m)) (i := 0) 120 (fun i i0 i1 => by show bI (0 < LF M x (260 + i) ∧ LF M x (380 + i) = m) = bI (0 < LF N x (260 + i) ∧ LF N x (380 + i) = m); rw [e1 (260 + i) (by omega) (by omega), e1 (380 + i) (by omega) (by omega)])
  have t1 : bI (0 < LF M x (20 + r) ∧ LF M x (140 + r) = m) = bI (N 0 = m) := by
    rw [e2, e3]
    exact ite_q ⟨fun q => q.2, fun q => ⟨by omega, q⟩⟩
  have t2 : bI (0 < LF N x (20 + r) ∧ LF N x (140 + r) = m) = 0 := bI_f (fun q => h q.1)
  have s3 : SUM (fun i => bI (0 < LF M x (20 + i) ∧ LF M x (140 + i) = m)) 0 120 = SUM (fun i => bI (0 < LF N x (20 + i) ∧ LF N x (140 + i) = m)) 0 120 + (bI (0 < LF M x (20 + r) ∧ LF M x (140 + r) = m) - bI (0 < LF N x (20 + r) ∧ LF N x (140 + r) = m)) := s1
  rw [t1, t2] at s3
  unfold NWl
  rw [e1 13 (by omega) (by omega), s2, s3]
  omega
theorem MK_x {N : Int → Int} {x r z : Int} (h0 : 0 ≤ N 0 ∧ N 0 ≤ 239) (hL : WFl N x) (hT : WFt N x) (hr : 0 ≤ r ∧ r ≤ 119) (hz : 1 ≤ z ∧ z ≤ 99999) : WFl (TEL N x (20 + r) (140 + r) z) x ∧ WFt (TEL N x (20 + r) (140 + r) z) x := by
  obtain ⟨M, hM⟩ : ∃ M, M = TEL N x (20 + r) (140 + r) z := ⟨_, rfl⟩
  rw [← hM]
  have e1 : ∀ w : Int, w ≠ 20 + r → w ≠ 140 + r → LF M x w = LF N x w := fun w a b => by rw [hM]; exact TEL_n a b
  have e2 : LF M x (20 + r) = z := by rw [hM]; exact TEL_i (by omega)
  have e3 : LF M x (140 + r) = N 0 := by rw [hM]; exact TEL_j
  refine ⟨?_, fun i i0 i1 => ?_⟩
  · unfold WFl
    simp only [e1 0 (by omega) (by omega), e1 1 (by omega) (by omega), e1 2 (by omega) (by omega), e1 3 (by omega) (by omega), e1 4 (by omega) (by omega), e1 5 (by omega) (by omega), e1 6 (by omega) (by omega), e1 7 (by omega) (by omega), e1 8 (by omega) (by omega), e1 9 (by omega) (by omega), e1 10 (by omega) (by omega), e1 11 (by omega) (by omega), e1 12 (by omega) (by omega), e1 13 (by omega) (by omega)]
    exact hL
  · have t := hT i i0 i1
    rw [e1 (260 + i) (by omega) (by omega), e1 (380 + i) (by omega) (by omega)]
    by_cases hir : i = r
    · subst hir
      rw [e2, e3]
      omega
    · rw [e1 (20 + i) (by omega) (by omega), e1 (140 + i) (by omega) (by omega)]
      omega
theorem MK_LV {N : Int → Int} {x r z : Int} (hr : 0 ≤ r ∧ r ≤ 119) : LVf (TEL N x (20 + r) (140 + r) z) x = LVf N x := by
  have e1 : ∀ w : Int, w ≠ 20 + r → w ≠ 140 + r → LF (TEL N x (20 + r) (140 + r) z) x w = LF N x w := fun w a b => TEL_n a b
  funext k
  unfold LVf
  simp only [e1 0 (by omega) (by omega), e1 1 (by omega) (by omega), e1 2 (by omega) (by omega), e1 3 (by omega) (by omega), e1 4 (by omega) (by omega), e1 5 (by omega) (by omega), e1 6 (by omega) (by omega), e1 7 (by omega) (by omega), e1 8 (by omega) (by omega), e1 9 (by omega) (by omega), e1 10 (by omega) (by omega), e1 11 (by omega) (by omega), e1 12 (by omega) (by omega), e1 13 (by omega) (by omega)]
theorem NWl_TN {N : Int → Int} {x r z m : Int} (hr : 0 ≤ r ∧ r ≤ 119) (hz : 1 ≤ z) (h : ¬ 0 < LF N x (260 + r)) : NWl (TEL N x (260 + r) (380 + r) z) m x = NWl N m x + bI (N 0 = m) := by
  obtain ⟨M, hM⟩ : ∃ M, M = TEL N x (260 + r) (380 + r) z := ⟨_, rfl⟩
  rw [← hM]
  have e1 : ∀ w : Int, w ≠ 260 + r → w ≠ 380 + r → LF M x w = LF N x w := fun w a b => by rw [hM]; exact TEL_n a b
  have e2 : LF M x (260 + r) = z := by rw [hM]; exact TEL_i (by omega)
  have e3 : LF M x (380 + r) = N 0 := by rw [hM]; exact TEL_j
  have s1 := SUM_up (f := fun i => bI (0 < LF M x (260 + i) ∧ LF M x (380 + i) = m)) (g := fun i => bI (0 < LF N x (260 + i) ∧ LF N x (380 + i) = m)) (i := 0) (j := r) 120 (fun i i0 i1 i2 => by show bI (0 < LF M x (260 + i) ∧ LF M x (380 + i) = m) = bI (0 < LF N x (260 + i) ∧ LF N x (380 + i) = m); rw [e1 (260 + i) (by omega) (by omega), e1 (380 + i) (by omega) (by omega)]) hr.1 (by omega)
  have s2 := SUM_congr (f := fun i => bI (0 < LF M x (20 + i) ∧ LF M x (140 + i) = m)) (g := fun i => bI (0 < LF N x (20 + i) ∧ LF N x (140 + i) = m)) (i := 0) 120 (fun i i0 i1 => by show bI (0 < LF M x (20 + i) ∧ LF M x (140 + i) = m) = bI (0 < LF N x (20 + i) ∧ LF N x (140 + i) = m); rw [e1 (20 + i) (by omega) (by omega), e1 (140 + i) (by omega) (by omega)])
  have t1 : bI (0 < LF M x (260 + r) ∧ LF M x (380 + r) = m) = bI (N 0 = m) := by
    rw [e2, e3]
    exact ite_q ⟨fun q => q.2, fun q => ⟨by omega, q⟩⟩
  have t2 : bI (0 < LF N x (260 + r) ∧ LF N x (380 + r) = m) = 0 := bI_f (fun q => h q.1)
  have s3 : SUM (fun i => bI (0 < LF M x (260 + i) ∧ LF M x (380 + i) = m)) 0 120 = SUM (fun i => bI (0 < LF N x (260 + i) ∧ LF N x (380 + i) = m)) 0 120 + (bI (0 < LF M x (260 + r) ∧ LF M x (380 + r) = m) - bI (0 < LF N x (260 + r) ∧ LF N x (380 + r) = m)) := s1
  rw [t1, t2] at s3
  unfold NWl
  rw [e1 13 (by omega) (by omega), s2, s3]
  omega
theorem TN_x {N : Int → Int} {x r z : Int} (h0 : 0 ≤ N 0 ∧ N 0 ≤ 239) (hL : WFl N x) (hT : WFt N x) (hr : 0 ≤ r ∧ r ≤ 119) (hz : 1 ≤ z ∧ z ≤ 1000000) : WFl (TEL N x (260 + r) (380 + r) z) x ∧ WFt (TEL N x (260 + r) (380 + r) z) x := by
  obtain ⟨M, hM⟩ : ∃ M, M = TEL N x (260 + r) (380 + r) z := ⟨_, rfl⟩
  rw [← hM]
  have e1 : ∀ w : Int, w ≠ 260 + r → w ≠ 380 + r → LF M x w = LF N x w := fun w a b => by rw [hM]; exact TEL_n a b
  have e2 : LF M x (260 + r) = z := by rw [hM]; exact TEL_i (by omega)
  have e3 : LF M x (380 + r) = N 0 := by rw [hM]; exact TEL_j
  refine ⟨?_, fun i i0 i1 => ?_⟩
  · unfold WFl
    simp only [e1 0 (by omega) (by omega), e1 1 (by omega) (by omega), e1 2 (by omega) (by omega), e1 3 (by omega) (by omega), e1 4 (by omega) (by omega), e1 5 (by omega) (by omega), e1 6 (by omega) (by omega), e1 7 (by omega) (by omega), e1 8 (by omega) (by omega), e1 9 (by omega) (by omega), e1 10 (by omega) (by omega), e1 11 (by omega) (by omega), e1 12 (by omega) (by omega), e1 13 (by omega) (by omega)]
    exact hL
  · have t := hT i i0 i1
    rw [e1 (20 + i) (by omega) (by omega), e1 (140 + i) (by omega) (by omega)]
    by_cases hir : i = r
    · subst hir
      rw [e2, e3]
      omega
    · rw [e1 (260 + i) (by omega) (by omega), e1 (380 + i) (by omega) (by omega)]
      omega
theorem TN_LV {N : Int → Int} {x r z : Int} (hr : 0 ≤ r ∧ r ≤ 119) : LVf (TEL N x (260 + r) (380 + r) z) x = LVf N x := by
  have e1 : ∀ w : Int, w ≠ 260 + r → w ≠ 380 + r → LF (TEL N x (260 + r) (380 + r) z) x w = LF N x w := fun w a b => TEL_n a b
  funext k
  unfold LVf
  simp only [e1 0 (by omega) (by omega), e1 1 (by omega) (by omega), e1 2 (by omega) (by omega), e1 3 (by omega) (by omega), e1 4 (by omega) (by omega), e1 5 (by omega) (by omega), e1 6 (by omega) (by omega), e1 7 (by omega) (by omega), e1 8 (by omega) (by omega), e1 9 (by omega) (by omega), e1 10 (by omega) (by omega), e1 11 (by omega) (by omega), e1 12 (by omega) (by omega), e1 13 (by omega) (by omega)]
