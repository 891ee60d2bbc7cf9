/-! the desk while a text is read -/
def LQ (N : Int → Int) (x : Int) : Prop := WFl N x ∧ WFk N x ∧ (LF N x 5 ≠ 0 ↔ zand (LF N x 7) 1 ≠ 0) ∧ ∀ w : Int, 13 ≤ w → w < 500 → LF N x w = 0
def ZL (N : Int → Int) (x : Int) : Prop := ∀ j : Int, 483 + 500 * x ≤ j → j < 3483 → N j = 0
def RD (N : Int → Int) (i : Int) : Prop := N 0 = 0 ∧ (0 ≤ N 1 ∧ N 1 ≤ 500) ∧ (0 ≤ N 2 ∧ N 2 ≤ 6) ∧ WFv N ∧ (CNTV N 240 = i ∧ 0 ≤ i ∧ i ≤ 20) ∧ (∀ x : Int, 0 ≤ x → x < N 2 → LQ N x) ∧ ZL N (N 2)
theorem zand0 (q : Int) : zand 0 q = 0 := by
  unfold zand
  rw [show iI 0 = (0 : Int32) from rfl, Int32.zero_and]
  rfl
theorem LQ_ag {M N : Int → Int} {x : Int} (h : AGl M N x) (hq : LQ N x) : LQ M x := by
  obtain ⟨h1, h2, h3, h4⟩ := hq
  refine ⟨?_, ?_, ?_, fun w w0 w1 => by rw [h w (by omega) w1]; exact h4 w w0 w1⟩
  · unfold WFl at *
    rw [h 0 (by omega) (by omega), h 1 (by omega) (by omega), h 2 (by omega) (by omega), h 3 (by omega) (by omega), h 4 (by omega) (by omega), h 5 (by omega) (by omega), h 6 (by omega) (by omega), h 7 (by omega) (by omega), h 8 (by omega) (by omega), h 9 (by omega) (by omega), h 10 (by omega) (by omega), h 11 (by omega) (by omega), h 12 (by omega) (by omega), h 13 (by omega) (by omega)]
    exact h1
  · unfold WFk at *
    rw [h 0 (by omega) (by omega), h 1 (by omega) (by omega), h 7 (by omega) (by omega), h 12 (by omega) (by omega)]
    exact h2
  · rw [h 5 (by omega) (by omega), h 7 (by omega) (by omega)]
    exact h3
theorem RD_ix {N : Int → Int} {i m v k : Int} (h : RD N i) (hi : i < 20) (hm : 0 ≤ m ∧ m ≤ 239) (hv : 1 ≤ v ∧ v ≤ 9999) (hk : 0 ≤ k ∧ k ≤ 239) (h0 : ¬ 0 < N (3 + m)) : RD (uI (uI N (3 + m) v) (243 + m) k) (i + 1) := by
  obtain ⟨r0, r1, r2, r3, r4, r5, r6⟩ := h
  have e : ∀ j : Int, j < 3 ∨ 483 ≤ j → uI (uI N (3 + m) v) (243 + m) k j = N j := fun j hj => by rw [uI_n (by omega), uI_n (by omega)]
  refine ⟨by rw [e 0 (by omega)]; exact r0, by rw [e 1 (by omega)]; exact r1, by rw [e 2 (by omega)]; exact r2, ?_, ⟨?_, by omega, by omega⟩, ?_, ?_⟩
  · intro q q0 q1
    have t := r3 q q0 q1
    by_cases c : q = m
    · subst c
      rw [uI_s, uI_n (by omega), uI_s]
      omega
    · rw [uI_n (by omega), uI_n (by omega), uI_n (by omega), uI_n (by omega)]
      exact t
  · have t := CNTV_PUB (N := uI N 0 k) (y := m) (z := v) hm hv.1 (by rw [uI_n (by omega)]; exact h0)
    have a1 : AGv (uI (uI N (3 + m) v) (243 + m) k) (PUB (uI N 0 k) m v) := by
      intro j j0 j1
      unfold PUB
      rw [uI_s]
      by_cases c1 : j = 243 + m
      · rw [c1, uI_s, uI_s]
      · rw [uI_n c1, uI_n c1]
        by_cases c2 : j = 3 + m
        · rw [c2, uI_s, uI_s]
        · rw [uI_n c2, uI_n c2, uI_n (by omega)]
    have a2 : AGv (uI N 0 k) N := fun j j0 j1 => uI_n (by omega)
    rw [CNTV_ag a1 240 (by decide), t, CNTV_ag a2 240 (by decide), r4.1]
  · intro x x0 x1
    rw [e 2 (by omega)] at x1
    exact LQ_ag (fun w w0 w1 => e _ (by omega)) (r5 x x0 x1)
  · rw [e 2 (by omega)]
    intro j j0 j1
    rw [e j (by omega)]
    exact r6 j j0 j1
theorem RD_le {N : Int → Int} {i b t r c g : Int} (h : RD N i) (hx : N 2 ≤ 5) (hb : 0 ≤ b ∧ b ≤ 119) (ht : 1 ≤ t ∧ t ≤ 120) (hr : 1 ≤ r ∧ r ≤ 99999) (hc : 1 ≤ c ∧ c ≤ 60) (hg : 0 ≤ g ∧ g ≤ t) : RD (uI (uI (uI (uI (uI (uI N (483 + 500 * N 2 + 0) b) (483 + 500 * N 2 + 1) t) (483 + 500 * N 2 + 2) r) (483 + 500 * N 2 + 3) c) (483 + 500 * N 2 + 4) g) 2 (N 2 + 1)) i := by
  obtain ⟨r0, r1, r2, r3, r4, r5, r6⟩ := h
  generalize hM : uI (uI (uI (uI (uI (uI N (483 + 500 * N 2 + 0) b) (483 + 500 * N 2 + 1) t) (483 + 500 * N 2 + 2) r) (483 + 500 * N 2 + 3) c) (483 + 500 * N 2 + 4) g) 2 (N 2 + 1) = M
  have e2 : M 2 = N 2 + 1 := by rw [← hM, uI_s]
  have e : ∀ j : Int, j ≠ 2 → (j < 483 + 500 * N 2 ∨ 483 + 500 * N 2 + 5 ≤ j) → M j = N j := fun j h2 hj => by rw [← hM, uI_n h2, uI_n (by omega), uI_n (by omega), uI_n (by omega), uI_n (by omega), uI_n (by omega)]
  have l : ∀ w : Int, 0 ≤ w → LF M (N 2) w = if w = 4 then g else if w = 3 then c else if w = 2 then r else if w = 1 then t else if w = 0 then b else LF N (N 2) w := fun w hw => by
    rw [← hM, LF2 (by omega) hw, LFu, LFu, LFu, LFu, LFu]
  have z : ∀ w : Int, 0 ≤ w → w < 500 → LF N (N 2) w = 0 := fun w w0 w1 => r6 _ (by omega) (by omega)
  have l0 : LF M (N 2) 0 = b := by rw [l 0 (by decide)]; rfl
  have l1 : LF M (N 2) 1 = t := by rw [l 1 (by decide)]; rfl
  have l2 : LF M (N 2) 2 = r := by rw [l 2 (by decide)]; rfl
  have l3 : LF M (N 2) 3 = c := by rw [l 3 (by decide)]; rfl
  have l4 : LF M (N 2) 4 = g := by rw [l 4 (by decide)]; rfl
  have lw : ∀ w : Int, 5 ≤ w → w < 500 → LF M (N 2) w = 0 := fun w w0 w1 => by
    rw [l w (by omega), if_neg (by omega), if_neg (by omega), if_neg (by omega), if_neg (by omega), if_neg (by omega)]
    exact z w (by omega) w1
  refine ⟨by rw [e 0 (by omega) (by omega)]; exact r0, by rw [e 1 (by omega) (by omega)]; exact r1, by rw [e2]; omega, ?_, ⟨?_, r4.2⟩, ?_, ?_⟩
  · intro q q0 q1
    rw [e (3 + q) (by omega) (by omega), e (243 + q) (by omega) (by omega)]
    exact r3 q q0 q1
  · rw [CNTV_ag (N := N) (fun j j0 j1 => e j (by omega) (by omega)) 240 (by decide)]
    exact r4.1
  · intro x x0 x1
    by_cases q : x = N 2
    · rw [q]
      refine ⟨?_, ?_, ?_, fun w w0 w1 => lw w (by omega) w1⟩
      · unfold WFl
        rw [l0, l1, l2, l3, l4, lw 5 (by omega) (by omega), lw 6 (by omega) (by omega), lw 7 (by omega) (by omega), lw 8 (by omega) (by omega), lw 9 (by omega) (by omega), lw 10 (by omega) (by omega), lw 11 (by omega) (by omega), lw 12 (by omega) (by omega), lw 13 (by omega) (by omega)]
        omega
      · unfold WFk
        rw [lw 7 (by omega) (by omega), zand0]
        exact fun q => absurd rfl q
      · rw [lw 5 (by omega) (by omega), lw 7 (by omega) (by omega), zand0]
    · exact LQ_ag (fun w w0 w1 => e _ (by omega) (by omega)) (r5 x x0 (by omega))
  · rw [e2]
    intro j j0 j1
    rw [e j (by omega) (by omega)]
    exact r6 j (by omega) j1
theorem RD_part {N M : Int → Int} {i x p : Int} (h : RD N i) (hx : x = N 2 - 1 ∧ 0 ≤ x) (hz : zand (N (483 + 500 * x + 7)) p = 0) (hP : PTS N M x p) : RD M i ∧ M 2 = N 2 ∧ LF M x 7 = zor (LF N x 7) p ∧ (∀ j : Int, (j < 483 + 500 * x + 5 ∨ 483 + 500 * x + 13 ≤ j) → M j = N j) := by
  obtain ⟨r0, r1, r2, r3, r4, r5, r6⟩ := h
  have hz : zand (LF N x 7) p = 0 := hz
  obtain ⟨q1, q2, q3, q4⟩ := r5 x hx.2 (by omega)
  have q1' := q1
  have q2' := q2
  unfold WFl at q1
  obtain ⟨f0, f1, f2, f3, f4, f5, f6, f7, f8, f9, f10, f11, f12, f13, f14, f15⟩ := q1
  have key : (∀ j : Int, (j < 483 + 500 * x + 5 ∨ 483 + 500 * x + 13 ≤ j) → M j = N j) ∧ LF M x 7 = zor (LF N x 7) p ∧ LQ M x := by
    have hw : ∀ w : Int, 13 ≤ w → w < 500 → LF N x w = 0 := q4
    rcases hP with ⟨rfl, hP | ⟨b, g, hb, hg, hbg, hP⟩⟩ | ⟨rfl, b, g, hb, hg, hP⟩ | ⟨rfl, b, g, hb, hg, hP⟩ | ⟨rfl, hP⟩ | ⟨rfl, b, hb, hP⟩
    · have B := zbI f7 (by decide) hz
      have l : ∀ w : Int, LF M x w = if w = 5 then 2 else if w = 7 then zor (LF N x 7) 1 else LF N x w := fun w => by rw [hP, LFu, LFu]; rfl
      refine ⟨fun j hj => by rw [hP, uI_n (by omega), uI_n (by omega)], by rw [l]; rfl, ?_, ?_, ?_, fun w w0 w1 => by rw [l, if_neg (by omega), if_neg (by omega)]; exact hw w w0 w1⟩
      · unfold WFl
        simp only [l, Int.reduceEq, if_true, if_false, reduceIte]
        exact ⟨f0, f1, f2, f3, f4, by decide, f6, B.1.1, f8, f9, f10, f11, f12, f13, f14, fun q => absurd q (by decide)⟩
      · unfold WFk
        simp only [l, Int.reduceEq, reduceIte]
        intro q
        exact q2 (((B.1.2 16 (by decide)).mp q).elim id (fun q => absurd q (by decide)))
      · simp only [l, Int.reduceEq, reduceIte]
        exact ⟨fun _ => (B.1.2 1 (by decide)).mpr (Or.inr rfl), fun _ => by decide⟩
    · have B := zbI f7 (by decide) hz
      have l : ∀ w : Int, LF M x w = if w = 6 then g else if w = 5 then b else if w = 7 then zor (LF N x 7) 1 else LF N x w := fun w => by rw [hP, LFu, LFu, LFu]; rfl
      refine ⟨fun j hj => by rw [hP, uI_n (by omega), uI_n (by omega), uI_n (by omega)], by rw [l]; rfl, ?_, ?_, ?_, fun w w0 w1 => by rw [l, if_neg (by omega), if_neg (by omega), if_neg (by omega)]; exact hw w w0 w1⟩
      · unfold WFl
        simp only [l, Int.reduceEq, reduceIte]
        exact ⟨f0, f1, f2, f3, f4, by omega, hg, B.1.1, f8, f9, f10, f11, f12, f13, f14, hbg⟩
      · unfold WFk
        simp only [l, Int.reduceEq, reduceIte]
        intro q
        exact q2 (((B.1.2 16 (by decide)).mp q).elim id (fun q => absurd q (by decide)))
      · simp only [l, Int.reduceEq, reduceIte]
        exact ⟨fun _ => (B.1.2 1 (by decide)).mpr (Or.inr rfl), fun _ => by omega⟩
    · have B := zbI f7 (by decide) hz
      have l : ∀ w : Int, LF M x w = if w = 9 then g else if w = 8 then b else if w = 7 then zor (LF N x 7) 2 else LF N x w := fun w => by rw [hP, LFu, LFu, LFu]; rfl
      refine ⟨fun j hj => by rw [hP, uI_n (by omega), uI_n (by omega), uI_n (by omega)], by rw [l]; rfl, ?_, ?_, ?_, fun w w0 w1 => by rw [l, if_neg (by omega), if_neg (by omega), if_neg (by omega)]; exact hw w w0 w1⟩
      · unfold WFl
        simp only [l, Int.reduceEq, reduceIte]
        exact ⟨f0, f1, f2, f3, f4, f5, f6, B.1.1, hb, hg, f10, f11, f12, f13, f14, f15⟩
      · unfold WFk
        simp only [l, Int.reduceEq, reduceIte]
        intro q
        exact q2 (((B.1.2 16 (by decide)).mp q).elim id (fun q => absurd q (by decide)))
      · simp only [l, Int.reduceEq, reduceIte]
        exact ⟨fun q => (B.1.2 1 (by decide)).mpr (Or.inl (q3.mp q)), fun q => q3.mpr (((B.1.2 1 (by decide)).mp q).elim id (fun q => absurd q (by decide)))⟩
    · have B := zbI f7 (by decide) hz
      have l : ∀ w : Int, LF M x w = if w = 11 then g else if w = 10 then b else if w = 7 then zor (LF N x 7) 4 else LF N x w := fun w => by rw [hP, LFu, LFu, LFu]; rfl
      refine ⟨fun j hj => by rw [hP, uI_n (by omega), uI_n (by omega), uI_n (by omega)], by rw [l]; rfl, ?_, ?_, ?_, fun w w0 w1 => by rw [l, if_neg (by omega), if_neg (by omega), if_neg (by omega)]; exact hw w w0 w1⟩
      · unfold WFl
        simp only [l, Int.reduceEq, reduceIte]
        exact ⟨f0, f1, f2, f3, f4, f5, f6, B.1.1, f8, f9, hb, hg, f12, f13, f14, f15⟩
      · unfold WFk
        simp only [l, Int.reduceEq, reduceIte]
        intro q
        exact q2 (((B.1.2 16 (by decide)).mp q).elim id (fun q => absurd q (by decide)))
      · simp only [l, Int.reduceEq, reduceIte]
        exact ⟨fun q => (B.1.2 1 (by decide)).mpr (Or.inl (q3.mp q)), fun q => q3.mpr (((B.1.2 1 (by decide)).mp q).elim id (fun q => absurd q (by decide)))⟩
    · have B := zbI f7 (by decide) hz
      have l : ∀ w : Int, LF M x w = if w = 7 then zor (LF N x 7) 8 else LF N x w := fun w => by rw [hP, LFu]; rfl
      refine ⟨fun j hj => by rw [hP, uI_n (by omega)], by rw [l]; rfl, ?_, ?_, ?_, fun w w0 w1 => by rw [l, if_neg (by omega)]; exact hw w w0 w1⟩
      · unfold WFl
        simp only [l, Int.reduceEq, reduceIte]
        exact ⟨f0, f1, f2, f3, f4, f5, f6, B.1.1, f8, f9, f10, f11, f12, f13, f14, f15⟩
      · unfold WFk
        simp only [l, Int.reduceEq, reduceIte]
        intro q
        exact q2 (((B.1.2 16 (by decide)).mp q).elim id (fun q => absurd q (by decide)))
      · simp only [l, Int.reduceEq, reduceIte]
        exact ⟨fun q => (B.1.2 1 (by decide)).mpr (Or.inl (q3.mp q)), fun q => q3.mpr (((B.1.2 1 (by decide)).mp q).elim id (fun q => absurd q (by decide)))⟩
    · have B := zbI f7 (by decide) hz
      have l : ∀ w : Int, LF M x w = if w = 12 then b else if w = 7 then zor (LF N x 7) 16 else LF N x w := fun w => by rw [hP, LFu, LFu]; rfl
      have hb : LF N x 0 + 1 ≤ b ∧ b ≤ LF N x 0 + LF N x 1 - 1 := hb
      refine ⟨fun j hj => by rw [hP, uI_n (by omega), uI_n (by omega)], by rw [l]; rfl, ?_, ?_, ?_, fun w w0 w1 => by rw [l, if_neg (by omega), if_neg (by omega)]; exact hw w w0 w1⟩
      · unfold WFl
        simp only [l, Int.reduceEq, reduceIte]
        exact ⟨f0, f1, f2, f3, f4, f5, f6, B.1.1, f8, f9, f10, f11, by omega, f13, fun _ => by omega, f15⟩
      · unfold WFk
        simp only [l, Int.reduceEq, reduceIte]
        intro _
        omega
      · simp only [l, Int.reduceEq, reduceIte]
        exact ⟨fun q => (B.1.2 1 (by decide)).mpr (Or.inl (q3.mp q)), fun q => q3.mpr (((B.1.2 1 (by decide)).mp q).elim id (fun q => absurd q (by decide)))⟩
  obtain ⟨e, e7, eL⟩ := key
  have e2 : M 2 = N 2 := e 2 (by omega)
  refine ⟨⟨by rw [e 0 (by omega)]; exact r0, by rw [e 1 (by omega)]; exact r1, by rw [e2]; exact r2, ?_, ⟨?_, r4.2⟩, ?_, ?_⟩, e2, e7, e⟩
  · intro q q0 q1
    rw [e (3 + q) (by omega), e (243 + q) (by omega)]
    exact r3 q q0 q1
  · rw [CNTV_ag (N := N) (fun j j0 j1 => e j (by omega)) 240 (by decide)]
    exact r4.1
  · intro x1 a0 a1
    by_cases q : x1 = x
    · rw [q]; exact eL
    · exact LQ_ag (fun w w0 w1 => e _ (by omega)) (r5 x1 a0 (by omega))
  · rw [e2]
    intro j j0 j1
    rw [e j (by omega)]
    exact r6 j j0 j1
