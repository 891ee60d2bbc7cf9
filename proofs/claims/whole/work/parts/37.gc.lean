/-! glue: rows told and taken back; breaks, values, months -/
theorem TR_MK {N : Int → Int} {x r z : Int} {a b : Nat → Int → Int} (h : TR N x a) (h5 : LF N x 5 = 2) (h0 : 0 ≤ N 0 ∧ N 0 ≤ 239) (hr : 0 ≤ r ∧ r ≤ 119) (hz : 1 ≤ z ∧ z ≤ 99999) (b2 : b 2 = uI (a 2) r z) (b3 : b 3 = uI (a 3) r (N 0)) : TR (TEL N x (20 + r) (140 + r) z) x b := by
  obtain ⟨M, hM⟩ : ∃ M, M = TEL N x (20 + r) (140 + r) z := ⟨_, rfl⟩
  rw [← hM]
  have e1 : ∀ w : Int, w ≠ 20 + r → w ≠ 140 + r → LF M x w = LF N x w := fun w a b => by rw [hM]; exact TEL_n a b
  have e2 : LF M x (20 + r) = z := by rw [hM]; exact TEL_i (by omega)
  have e3 : LF M x (140 + r) = N 0 := by rw [hM]; exact TEL_j
  intro i i0 i1
  have t := h i i0 i1
  rw [b2, b3, e1 5 (by omega) (by omega), e1 (260 + i) (by omega) (by omega), e1 (380 + i) (by omega) (by omega)]
  by_cases hir : i = r
  · subst hir
    rw [uI_s, uI_s, e2, e3]
    exact ⟨fun _ => ⟨(if_pos (by omega)).symm, fun _ => by omega⟩, fun q => absurd q (by omega), by omega, by omega⟩
  · rw [uI_n hir, uI_n hir, e1 (20 + i) (by omega) (by omega), e1 (140 + i) (by omega) (by omega)]
    exact t
theorem TR_MKd {N : Int → Int} {x r z : Int} {a b : Nat → Int → Int} (h : TR (TEL N x (20 + r) (140 + r) z) x a) (h5 : LF N x 5 = 2) (hn : ¬ 0 < LF N x (20 + r)) (hr : 0 ≤ r ∧ r ≤ 119) (b2 : b 2 = uI (a 2) r 0) (b3 : b 3 = uI (a 3) r 240) : TR N x b := by
  obtain ⟨M, hM⟩ : ∃ M, M = TEL N x (20 + r) (140 + r) z := ⟨_, rfl⟩
  rw [← hM] at h
  have e1 : ∀ w : Int, w ≠ 20 + r → w ≠ 140 + r → LF M x w = LF N x w := fun w a b => by rw [hM]; exact TEL_n a b
  have e2 : LF M x (20 + r) = z := by rw [hM]; exact TEL_i (by omega)
  have e3 : LF M x (140 + r) = N 0 := by rw [hM]; exact TEL_j
  intro i i0 i1
  have t := h i i0 i1
  rw [e1 5 (by omega) (by omega), e1 (260 + i) (by omega) (by omega), e1 (380 + i) (by omega) (by omega)] at t
  rw [b2, b3]
  by_cases hir : i = r
  · subst hir
    rw [uI_s, uI_s]
    exact ⟨fun _ => ⟨(if_neg hn).symm, fun q => absurd q hn⟩, fun q => absurd q (by omega), by omega, by omega⟩
  · rw [uI_n hir, uI_n hir]
    rw [e1 (20 + i) (by omega) (by omega), e1 (140 + i) (by omega) (by omega)] at t
    exact t
theorem TR_TN {N : Int → Int} {x r z : Int} {a b : Nat → Int → Int} (h : TR N x a) (h5 : LF N x 5 = 3) (h0 : 0 ≤ N 0 ∧ N 0 ≤ 239) (hr : 0 ≤ r ∧ r ≤ 119) (hz : 0 ≤ z ∧ z ≤ 999999) (b2 : b 2 = uI (a 2) r z) (b3 : b 3 = uI (a 3) r (N 0)) : TR (TEL N x (260 + r) (380 + r) (z + 1)) x b := by
  obtain ⟨M, hM⟩ : ∃ M, M = TEL N x (260 + r) (380 + r) (z + 1) := ⟨_, rfl⟩
  rw [← hM]
  have e1 : ∀ w : Int, w ≠ 260 + r → w ≠ 380 + r → LF M x w = LF N x w := fun w a b => by rw [hM]; exact TEL_n a b
  have e2 : LF M x (260 + r) = (z + 1) := by rw [hM]; exact TEL_i (by omega)
  have e3 : LF M x (380 + r) = N 0 := by rw [hM]; exact TEL_j
  intro i i0 i1
  have t := h i i0 i1
  rw [b2, b3, e1 5 (by omega) (by omega), e1 (20 + i) (by omega) (by omega), e1 (140 + i) (by omega) (by omega)]
  by_cases hir : i = r
  · subst hir
    rw [uI_s, uI_s, e2, e3]
    exact ⟨fun q => absurd q (by omega), fun _ => ⟨(if_pos (by omega)).symm, fun _ => by omega⟩, by omega, by omega⟩
  · rw [uI_n hir, uI_n hir, e1 (260 + i) (by omega) (by omega), e1 (380 + i) (by omega) (by omega)]
    exact t
theorem TR_TNd {N : Int → Int} {x r z : Int} {a b : Nat → Int → Int} (h : TR (TEL N x (260 + r) (380 + r) (z + 1)) x a) (h5 : LF N x 5 = 3) (hn : ¬ 0 < LF N x (260 + r)) (hr : 0 ≤ r ∧ r ≤ 119) (b2 : b 2 = uI (a 2) r 0) (b3 : b 3 = uI (a 3) r 240) : TR N x b := by
  obtain ⟨M, hM⟩ : ∃ M, M = TEL N x (260 + r) (380 + r) (z + 1) := ⟨_, rfl⟩
  rw [← hM] at h
  have e1 : ∀ w : Int, w ≠ 260 + r → w ≠ 380 + r → LF M x w = LF N x w := fun w a b => by rw [hM]; exact TEL_n a b
  have e2 : LF M x (260 + r) = (z + 1) := by rw [hM]; exact TEL_i (by omega)
  have e3 : LF M x (380 + r) = N 0 := by rw [hM]; exact TEL_j
  intro i i0 i1
  have t := h i i0 i1
  rw [e1 5 (by omega) (by omega), e1 (20 + i) (by omega) (by omega), e1 (140 + i) (by omega) (by omega)] at t
  rw [b2, b3]
  by_cases hir : i = r
  · subst hir
    rw [uI_s, uI_s]
    exact ⟨fun q => absurd q (by omega), fun _ => ⟨(if_neg hn).symm, fun q => absurd q hn⟩, by omega, by omega⟩
  · rw [uI_n hir, uI_n hir]
    rw [e1 (260 + i) (by omega) (by omega), e1 (380 + i) (by omega) (by omega)] at t
    exact t
theorem uV_s {f : Nat → Int} {i : Nat} {z : Int} : uV f i z i = z := if_pos rfl
theorem uV_n {f : Nat → Int} {i j : Nat} {z : Int} (h : j ≠ i) : uV f i z j = f j := if_neg h
theorem BRK_v {N : Int → Int} {x : Int} (hx : 0 ≤ x) : AGv (BRK N x) N := by
  intro k k0 k1
  unfold BRK
  rw [uI_n (by omega)]
theorem BRK_h {N : Int → Int} {x k : Int} (hx : 0 ≤ x) (hk : k < 483) : BRK N x k = N k := by
  unfold BRK
  rw [uI_n (by omega)]
theorem BRK_l {N : Int → Int} {x y : Int} (h : y ≠ x) : AGl (BRK N x) N y := by
  intro w w0 w1
  unfold BRK
  rw [LF_uI (by omega)]
theorem BRK_n {N : Int → Int} {x w : Int} (h : w ≠ 13) : LF (BRK N x) x w = LF N x w := by
  unfold BRK
  rw [LF_uI (by omega)]
theorem BRK_s {N : Int → Int} {x : Int} : LF (BRK N x) x 13 = N 0 + 1 := by
  unfold BRK
  exact uI_s
/-- where a lease may be broken -/
abbrev WFk (N : Int → Int) (x : Int) : Prop := zand (LF N x 7) 16 ≠ 0 → LF N x 0 < LF N x 12 ∧ LF N x 12 < LF N x 0 + LF N x 1
theorem BRK_x {N : Int → Int} {x : Int} (h0 : 0 ≤ N 0 ∧ N 0 ≤ 239) (hL : WFl N x) (hT : WFt N x) (hk : WFk N x) (hb9 : zand (LF N x 7) 16 ≠ 0) : WFl (BRK N x) x ∧ WFt (BRK N x) x := by
  have e1 : ∀ w : Int, w ≠ 13 → LF (BRK N x) x w = LF N x w := fun w a => BRK_n a
  refine ⟨?_, fun i i0 i1 => ?_⟩
  · obtain ⟨l0, l1, l2, l3, l4, l5, l6, l7, l8, l9, l10, l11, l12, l13, l14, l15⟩ := id hL
    unfold WFl
    simp only [e1 0 (by omega), e1 1 (by omega), e1 2 (by omega), e1 3 (by omega), e1 4 (by omega), e1 5 (by omega), e1 6 (by omega), e1 7 (by omega), e1 8 (by omega), e1 9 (by omega), e1 10 (by omega), e1 11 (by omega), e1 12 (by omega), BRK_s]
    exact ⟨l0, l1, l2, l3, l4, l5, l6, l7, l8, l9, l10, l11, l12, by omega, fun _ => hk hb9, l15⟩
  · rw [e1 (20 + i) (by omega), e1 (140 + i) (by omega), e1 (260 + i) (by omega), e1 (380 + i) (by omega)]
    exact hT i i0 i1
theorem BRK_TR {N : Int → Int} {x : Int} {a : Nat → Int → Int} : TR (BRK N x) x a ↔ TR N x a := by
  have e1 : ∀ w : Int, w ≠ 13 → LF (BRK N x) x w = LF N x w := fun w a => BRK_n a
  constructor <;> intro h i i0 i1
  · have t := h i i0 i1
    rw [e1 5 (by omega), e1 (20 + i) (by omega), e1 (140 + i) (by omega), e1 (260 + i) (by omega), e1 (380 + i) (by omega)] at t
    exact t
  · rw [e1 5 (by omega), e1 (20 + i) (by omega), e1 (140 + i) (by omega), e1 (260 + i) (by omega), e1 (380 + i) (by omega)]
    exact h i i0 i1
theorem LVf_13 {N : Int → Int} {x : Int} : LVf N x 13 = if 0 < LF N x 13 then LF N x 13 - 1 else 240 := rfl
theorem LVf_BRKn {N : Int → Int} {x : Int} {k : Nat} (hk : k ≠ 13) : LVf (BRK N x) x k = LVf N x k := by
  have e1 : ∀ w : Int, w ≠ 13 → LF (BRK N x) x w = LF N x w := fun w a => BRK_n a
  unfold LVf
  split <;> first | exact absurd rfl hk | rfl | (simp only [e1 0 (by omega), e1 1 (by omega), e1 2 (by omega), e1 3 (by omega), e1 4 (by omega), e1 5 (by omega), e1 6 (by omega), e1 7 (by omega), e1 8 (by omega), e1 9 (by omega), e1 10 (by omega), e1 11 (by omega), e1 12 (by omega)])
theorem LVf_BRK {N : Int → Int} {x : Int} (h0 : 0 ≤ N 0) : LVf (BRK N x) x = uV (LVf N x) 13 (N 0) := by
  funext k
  by_cases hk : k = 13
  · subst hk
    rw [uV_s, LVf_13, BRK_s, if_pos (by omega)]
    omega
  · rw [uV_n hk, LVf_BRKn hk]
theorem LVf_BRKu {N : Int → Int} {x : Int} (h : ¬ 0 < LF N x 13) : uV (LVf (BRK N x) x) 13 240 = LVf N x := by
  funext k
  by_cases hk : k = 13
  · subst hk
    rw [uV_s, LVf_13, if_neg h]
  · rw [uV_n hk, LVf_BRKn hk]
theorem NWl_BRK {N : Int → Int} {x m : Int} (hm : 0 ≤ m) (h : ¬ 0 < LF N x 13) : NWl (BRK N x) m x = NWl N m x + bI (N 0 = m) := by
  have e1 : ∀ w : Int, w ≠ 13 → LF (BRK N x) x w = LF N x w := fun w a => BRK_n a
  have s1 := SUM_congr (f := fun i => bI (0 < LF (BRK N x) x (20 + i) ∧ LF (BRK N x) x (140 + i) = m)) (g := fun i => bI (0 < LF N x (20 + i) ∧ LF N x (140 + i) = m)) (i := 0) 120 (fun i i0 i1 => by show bI (0 < LF (BRK N x) x (20 + i) ∧ LF (BRK N x) x (140 + i) = m) = bI (0 < LF N x (20 + i) ∧ LF N x (140 + i) = m); rw [e1 (20 + i) (by omega), e1 (140 + i) (by omega)])
  have s2 := SUM_congr (f := fun i => bI (0 < LF (BRK N x) x (260 + i) ∧ LF (BRK N x) x (380 + i) = m)) (g := fun i => bI (0 < LF N x (260 + i) ∧ LF N x (380 + i) = m)) (i := 0) 120 (fun i i0 i1 => by show bI (0 < LF (BRK N x) x (260 + i) ∧ LF (BRK N x) x (380 + i) = m) = bI (0 < LF N x (260 + i) ∧ LF N x (380 + i) = m); rw [e1 (260 + i) (by omega), e1 (380 + i) (by omega)])
  unfold NWl
  rw [s1, s2, BRK_s, bI_f (P := LF N x 13 = m + 1) (by omega)]
  have : bI (N 0 + 1 = m + 1) = bI (N 0 = m) := ite_q (by omega)
  omega
theorem PUB_l {N : Int → Int} {x y z : Int} (hx : 0 ≤ x) (hy : 0 ≤ y ∧ y ≤ 239) : AGl (PUB N y z) N x := fun w w0 _ => LF_PUB hx w0 hy
theorem PUB_h {N : Int → Int} {y z k : Int} (hy : 0 ≤ y) (hk : k < 3) : PUB N y z k = N k := by
  unfold PUB
  rw [uI_n (by omega), uI_n (by omega)]
theorem PUB_vn {N : Int → Int} {y z m : Int} (hm : 0 ≤ m ∧ m ≤ 239) (hy : 0 ≤ y ∧ y ≤ 239) (h : m ≠ y) : PUB N y z (3 + m) = N (3 + m) ∧ PUB N y z (243 + m) = N (243 + m) := by
  unfold PUB
  rw [uI_n (show 3 + m ≠ 243 + y by omega), uI_n (show 3 + m ≠ 3 + y by omega), uI_n (show 243 + m ≠ 243 + y by omega), uI_n (show 243 + m ≠ 3 + y by omega)]
  exact ⟨rfl, rfl⟩
theorem PUB_vs {N : Int → Int} {y z : Int} (hy : 0 ≤ y ∧ y ≤ 239) : PUB N y z (3 + y) = z ∧ PUB N y z (243 + y) = N 0 := by
  unfold PUB
  rw [uI_n (show 3 + y ≠ 243 + y by omega), uI_s, uI_s]
  exact ⟨rfl, rfl⟩
theorem CNTV_PUB {N : Int → Int} {y z : Int} (hy : 0 ≤ y ∧ y ≤ 239) (hz : 1 ≤ z) (h : ¬ 0 < N (3 + y)) : CNTV (PUB N y z) 240 = CNTV N 240 + 1 := by
  have s1 : SUM (fun j => bI (0 < PUB N y z (3 + j))) 0 240 = SUM (fun j => bI (0 < N (3 + j))) 0 240 + (bI (0 < PUB N y z (3 + y)) - bI (0 < N (3 + y))) := SUM_up (f := fun j => bI (0 < PUB N y z (3 + j))) (g := fun j => bI (0 < N (3 + j))) (i := 0) (j := y) 240 (fun i i0 i1 i2 => by show bI (0 < PUB N y z (3 + i)) = bI (0 < N (3 + i)); rw [(PUB_vn ⟨i0, by omega⟩ hy i2).1]) hy.1 (by omega)
  rw [CNTV_SUM, CNTV_SUM, s1, (PUB_vs hy).1, bI_t (by omega), bI_f h]
  omega
theorem NWc_PUB {N : Int → Int} {y z m : Int} (hy : 0 ≤ y ∧ y ≤ 239) (hz : 1 ≤ z) (h : ¬ 0 < N (3 + y)) : NWc (PUB N y z) m = NWc N m + bI (N 0 = m) := by
  have s1 : SUM (fun j => bI (0 < PUB N y z (3 + j) ∧ PUB N y z (243 + j) = m)) 0 240 = SUM (fun j => bI (0 < N (3 + j) ∧ N (243 + j) = m)) 0 240 + (bI (0 < PUB N y z (3 + y) ∧ PUB N y z (243 + y) = m) - bI (0 < N (3 + y) ∧ N (243 + y) = m)) := SUM_up (f := fun j => bI (0 < PUB N y z (3 + j) ∧ PUB N y z (243 + j) = m)) (g := fun j => bI (0 < N (3 + j) ∧ N (243 + j) = m)) (i := 0) (j := y) 240 (fun i i0 i1 i2 => by show bI (0 < PUB N y z (3 + i) ∧ PUB N y z (243 + i) = m) = bI (0 < N (3 + i) ∧ N (243 + i) = m); rw [(PUB_vn ⟨i0, by omega⟩ hy i2).1, (PUB_vn ⟨i0, by omega⟩ hy i2).2]) hy.1 (by omega)
  have t1 : bI (0 < PUB N y z (3 + y) ∧ PUB N y z (243 + y) = m) = bI (N 0 = m) := by
    rw [(PUB_vs hy).1, (PUB_vs hy).2]
    exact ite_q ⟨fun q => q.2, fun q => ⟨by omega, q⟩⟩
  have t2 : bI (0 < N (3 + y) ∧ N (243 + y) = m) = 0 := bI_f (fun q => h q.1)
  rw [t1, t2] at s1
  unfold NWc
  rw [s1, PUB_h hy.1 (by decide), SUM_congr (f := NWl (PUB N y z) m) (g := NWl N m) (i := 0) (N 2).toNat (fun j j0 j1 => NWl_ag (PUB_l j0 hy))]
  omega
theorem RV_PUBd {N : Int → Int} {y z : Int} {a b : Nat → Int → Int} (h : RV (PUB N y z) a) (hy : 0 ≤ y ∧ y ≤ 239) (h0 : N (3 + y) = 0) (b0 : b 0 = uI (a 0) y 0) (b1 : b 1 = uI (a 1) y 240) : RV N b := by
  intro m m0 m1
  have hm := h m m0 m1
  rw [b0, b1]
  by_cases hmy : m = y
  · subst hmy
    rw [uI_s, uI_s, h0]
    exact ⟨rfl, fun q => absurd rfl q, by omega⟩
  · rw [uI_n hmy, uI_n hmy]
    rw [(PUB_vn ⟨m0, by omega⟩ hy hmy).1, (PUB_vn ⟨m0, by omega⟩ hy hmy).2] at hm
    exact hm
theorem PAS_n {N : Int → Int} {z k : Int} (h : k ≠ 0) : PAS N z k = N k := by
  unfold PAS
  rw [uI_n h]
theorem PAS_v {N : Int → Int} {z : Int} : AGv (PAS N z) N := fun k k0 _ => PAS_n (by omega)
theorem PAS_l {N : Int → Int} {z x : Int} (hx : 0 ≤ x) : AGl (PAS N z) N x := fun w w0 _ => by unfold LF; exact PAS_n (by omega)
theorem PAS_0 {N : Int → Int} {z : Int} : PAS N z 0 = N 0 + z := by unfold PAS; exact uI_s
theorem PAS_WF {N : Int → Int} {z : Int} (h : WF N) (hz : okA N z) : WF (PAS N z) := by
  obtain ⟨w0, w1, w2, hV, hls⟩ := h
  obtain ⟨z1, z2⟩ := hz
  refine ⟨by rw [PAS_0]; omega, by rw [PAS_n (by decide)]; exact w1, by rw [PAS_n (by decide)]; exact w2, WFv_ag PAS_v hV, fun y y0 y1 => ?_⟩
  rw [PAS_n (by decide)] at y1
  exact ⟨WFl_ag (PAS_l y0) (hls y y0 y1).1, WFt_ag (PAS_l y0) (hls y y0 y1).2⟩
