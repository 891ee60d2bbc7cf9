/-! a lease while it is read: the class and the desk -/
def LX (N : Int → Int) (x : Int) (f : Nat → Int) : Prop := f 4 = LF N x 0 ∧ f 5 = LF N x 1 ∧ f 6 = LF N x 2 ∧ f 7 = LF N x 3 ∧ f 8 = LF N x 4 ∧ f 9 = LF N x 5 ∧ f 10 = LF N x 6 ∧ f 11 = bI (zand (LF N x 7) 8 ≠ 0) ∧ f 12 = (if zand (LF N x 7) 16 ≠ 0 then LF N x 12 else -1) ∧ f 13 = (if 0 < LF N x 13 then LF N x 13 - 1 else 240) ∧ f 20 = bI (zand (LF N x 7) 2 ≠ 0) ∧ f 21 = LF N x 8 ∧ f 22 = LF N x 9 ∧ f 30 = bI (zand (LF N x 7) 4 ≠ 0) ∧ f 31 = LF N x 10 ∧ f 32 = LF N x 11
def LXo (ff : Int) (N : Int → Int) (x : Int) (f : Nat → Int) : Prop := ff = 0 → LX N x f
theorem bI_congr {P Q : Prop} [Decidable P] [Decidable Q] (h : P ↔ Q) : bI P = bI Q := by
  by_cases q : P
  · rw [bI_t q, bI_t (h.mp q)]
  · rw [bI_f q, bI_f (fun w => q (h.mpr w))]
theorem ite_congr9 {P Q : Prop} [Decidable P] [Decidable Q] {a b : Int} (h : P ↔ Q) : (if P then a else b) = if Q then a else b := by
  by_cases q : P
  · rw [if_pos q, if_pos (h.mp q)]
  · rw [if_neg q, if_neg (fun w => q (h.mpr w))]
theorem LX_ag {M N : Int → Int} {x : Int} {f : Nat → Int} (h : AGl M N x) (hq : LX N x f) : LX M x f := by
  unfold LX at *
  rw [h 0 (by omega) (by omega), h 1 (by omega) (by omega), h 2 (by omega) (by omega), h 3 (by omega) (by omega), h 4 (by omega) (by omega), h 5 (by omega) (by omega), h 6 (by omega) (by omega), h 7 (by omega) (by omega), h 8 (by omega) (by omega), h 9 (by omega) (by omega), h 10 (by omega) (by omega), h 11 (by omega) (by omega), h 12 (by omega) (by omega), h 13 (by omega) (by omega)]
  exact hq
theorem LE5 {N : Int → Int} {x b t r e g k : Int} (hx : 0 ≤ x) : LF (uI (uI (uI (uI (uI (uI N (483 + 500 * x + 0) b) (483 + 500 * x + 1) t) (483 + 500 * x + 2) r) (483 + 500 * x + 3) e) (483 + 500 * x + 4) g) 2 k) x 0 = b ∧ LF (uI (uI (uI (uI (uI (uI N (483 + 500 * x + 0) b) (483 + 500 * x + 1) t) (483 + 500 * x + 2) r) (483 + 500 * x + 3) e) (483 + 500 * x + 4) g) 2 k) x 1 = t ∧ LF (uI (uI (uI (uI (uI (uI N (483 + 500 * x + 0) b) (483 + 500 * x + 1) t) (483 + 500 * x + 2) r) (483 + 500 * x + 3) e) (483 + 500 * x + 4) g) 2 k) x 2 = r ∧ LF (uI (uI (uI (uI (uI (uI N (483 + 500 * x + 0) b) (483 + 500 * x + 1) t) (483 + 500 * x + 2) r) (483 + 500 * x + 3) e) (483 + 500 * x + 4) g) 2 k) x 3 = e ∧ LF (uI (uI (uI (uI (uI (uI N (483 + 500 * x + 0) b) (483 + 500 * x + 1) t) (483 + 500 * x + 2) r) (483 + 500 * x + 3) e) (483 + 500 * x + 4) g) 2 k) x 4 = g ∧ ∀ w : Int, 5 ≤ w → LF (uI (uI (uI (uI (uI (uI N (483 + 500 * x + 0) b) (483 + 500 * x + 1) t) (483 + 500 * x + 2) r) (483 + 500 * x + 3) e) (483 + 500 * x + 4) g) 2 k) x w = LF N x w := by
  refine ⟨?_, ?_, ?_, ?_, ?_, fun w w0 => ?_⟩
  · rw [LF2 hx (by decide)]; simp only [LFu, Int.reduceEq, reduceIte]
  · rw [LF2 hx (by decide)]; simp only [LFu, Int.reduceEq, reduceIte]
  · rw [LF2 hx (by decide)]; simp only [LFu, Int.reduceEq, reduceIte]
  · rw [LF2 hx (by decide)]; simp only [LFu, Int.reduceEq, reduceIte]
  · rw [LF2 hx (by decide)]; simp only [LFu, Int.reduceEq, reduceIte]
  · rw [LF2 hx (by omega), LFu, if_neg (by omega), LFu, if_neg (by omega), LFu, if_neg (by omega), LFu, if_neg (by omega), LFu, if_neg (by omega)]
theorem pl_t {N : Int → Int} {x b t r e : Int} : uI (uI (uI (uI N (483 + 500 * x + 0) b) (483 + 500 * x + 1) t) (483 + 500 * x + 2) r) (483 + 500 * x + 3) e (483 + 500 * x + 1) = t := by
  rw [uI_n (by omega), uI_n (by omega), uI_s]
theorem LX_1m {N : Int → Int} {x : Int} {f : Nat → Int}  (h : LX N x f) (h7 : 0 ≤ LF N x 7 ∧ LF N x 7 ≤ 31) (hz : zand (LF N x 7) 1 = 0) : LX (uI (uI N (483 + 500 * x + 7) (zor (N (483 + 500 * x + 7)) 1)) (483 + 500 * x + 5) 2) x (uV f 9 2) := by
  have B := (zbI h7 (by decide) hz).1.2
  have l : ∀ w : Int, LF (uI (uI N (483 + 500 * x + 7) (zor (N (483 + 500 * x + 7)) 1)) (483 + 500 * x + 5) 2) x w = if w = 5 then 2 else if w = 7 then zor (LF N x 7) 1 else LF N x w := fun w => by rw [LFu, LFu]; rfl
  obtain ⟨f4, f5, f6, f7, f8, f9, f10, f11, f12, f13, f20, f21, f22, f30, f31, f32⟩ := h
  unfold LX
  simp only [l, Int.reduceEq, reduceIte, uV, Nat.reduceEqDiff]
  exact ⟨(f4), (f5), (f6), (f7), (f8), (by first | trivial | rfl), (f10), (f11.trans (bI_congr ⟨fun w => (B 8 (by decide)).mpr (Or.inl w), fun w => ((B 8 (by decide)).mp w).elim id (fun e => absurd e (by decide))⟩)), (f12.trans (ite_congr9 ⟨fun w => (B 16 (by decide)).mpr (Or.inl w), fun w => ((B 16 (by decide)).mp w).elim id (fun e => absurd e (by decide))⟩)), (f13), (f20.trans (bI_congr ⟨fun w => (B 2 (by decide)).mpr (Or.inl w), fun w => ((B 2 (by decide)).mp w).elim id (fun e => absurd e (by decide))⟩)), (f21), (f22), (f30.trans (bI_congr ⟨fun w => (B 4 (by decide)).mpr (Or.inl w), fun w => ((B 4 (by decide)).mp w).elim id (fun e => absurd e (by decide))⟩)), (f31), (f32)⟩
theorem LX_1 {N : Int → Int} {x : Int} {f : Nat → Int} {b g : Int} (h : LX N x f) (h7 : 0 ≤ LF N x 7 ∧ LF N x 7 ≤ 31) (hz : zand (LF N x 7) 1 = 0) : LX (uI (uI (uI N (483 + 500 * x + 7) (zor (N (483 + 500 * x + 7)) 1)) (483 + 500 * x + 5) b) (483 + 500 * x + 6) g) x (uV (uV f 9 b) 10 g) := by
  have B := (zbI h7 (by decide) hz).1.2
  have l : ∀ w : Int, LF (uI (uI (uI N (483 + 500 * x + 7) (zor (N (483 + 500 * x + 7)) 1)) (483 + 500 * x + 5) b) (483 + 500 * x + 6) g) x w = if w = 6 then g else if w = 5 then b else if w = 7 then zor (LF N x 7) 1 else LF N x w := fun w => by rw [LFu, LFu, LFu]; rfl
  obtain ⟨f4, f5, f6, f7, f8, f9, f10, f11, f12, f13, f20, f21, f22, f30, f31, f32⟩ := h
  unfold LX
  simp only [l, Int.reduceEq, reduceIte, uV, Nat.reduceEqDiff]
  exact ⟨(f4), (f5), (f6), (f7), (f8), (by first | trivial | rfl), (by first | trivial | rfl), (f11.trans (bI_congr ⟨fun w => (B 8 (by decide)).mpr (Or.inl w), fun w => ((B 8 (by decide)).mp w).elim id (fun e => absurd e (by decide))⟩)), (f12.trans (ite_congr9 ⟨fun w => (B 16 (by decide)).mpr (Or.inl w), fun w => ((B 16 (by decide)).mp w).elim id (fun e => absurd e (by decide))⟩)), (f13), (f20.trans (bI_congr ⟨fun w => (B 2 (by decide)).mpr (Or.inl w), fun w => ((B 2 (by decide)).mp w).elim id (fun e => absurd e (by decide))⟩)), (f21), (f22), (f30.trans (bI_congr ⟨fun w => (B 4 (by decide)).mpr (Or.inl w), fun w => ((B 4 (by decide)).mp w).elim id (fun e => absurd e (by decide))⟩)), (f31), (f32)⟩
theorem LX_2 {N : Int → Int} {x : Int} {f : Nat → Int} {b g : Int} (h : LX N x f) (h7 : 0 ≤ LF N x 7 ∧ LF N x 7 ≤ 31) (hz : zand (LF N x 7) 2 = 0) : LX (uI (uI (uI N (483 + 500 * x + 7) (zor (N (483 + 500 * x + 7)) 2)) (483 + 500 * x + 8) b) (483 + 500 * x + 9) g) x (uV (uV (uV f 21 b) 22 g) 20 1) := by
  have B := (zbI h7 (by decide) hz).1.2
  have l : ∀ w : Int, LF (uI (uI (uI N (483 + 500 * x + 7) (zor (N (483 + 500 * x + 7)) 2)) (483 + 500 * x + 8) b) (483 + 500 * x + 9) g) x w = if w = 9 then g else if w = 8 then b else if w = 7 then zor (LF N x 7) 2 else LF N x w := fun w => by rw [LFu, LFu, LFu]; rfl
  obtain ⟨f4, f5, f6, f7, f8, f9, f10, f11, f12, f13, f20, f21, f22, f30, f31, f32⟩ := h
  unfold LX
  simp only [l, Int.reduceEq, reduceIte, uV, Nat.reduceEqDiff]
  exact ⟨(f4), (f5), (f6), (f7), (f8), (f9), (f10), (f11.trans (bI_congr ⟨fun w => (B 8 (by decide)).mpr (Or.inl w), fun w => ((B 8 (by decide)).mp w).elim id (fun e => absurd e (by decide))⟩)), (f12.trans (ite_congr9 ⟨fun w => (B 16 (by decide)).mpr (Or.inl w), fun w => ((B 16 (by decide)).mp w).elim id (fun e => absurd e (by decide))⟩)), (f13), ((bI_t ((B 2 (by decide)).mpr (Or.inr rfl))).symm), (by first | trivial | rfl), (by first | trivial | rfl), (f30.trans (bI_congr ⟨fun w => (B 4 (by decide)).mpr (Or.inl w), fun w => ((B 4 (by decide)).mp w).elim id (fun e => absurd e (by decide))⟩)), (f31), (f32)⟩
theorem LX_4 {N : Int → Int} {x : Int} {f : Nat → Int} {b g : Int} (h : LX N x f) (h7 : 0 ≤ LF N x 7 ∧ LF N x 7 ≤ 31) (hz : zand (LF N x 7) 4 = 0) : LX (uI (uI (uI N (483 + 500 * x + 7) (zor (N (483 + 500 * x + 7)) 4)) (483 + 500 * x + 10) b) (483 + 500 * x + 11) g) x (uV (uV (uV f 31 b) 32 g) 30 1) := by
  have B := (zbI h7 (by decide) hz).1.2
  have l : ∀ w : Int, LF (uI (uI (uI N (483 + 500 * x + 7) (zor (N (483 + 500 * x + 7)) 4)) (483 + 500 * x + 10) b) (483 + 500 * x + 11) g) x w = if w = 11 then g else if w = 10 then b else if w = 7 then zor (LF N x 7) 4 else LF N x w := fun w => by rw [LFu, LFu, LFu]; rfl
  obtain ⟨f4, f5, f6, f7, f8, f9, f10, f11, f12, f13, f20, f21, f22, f30, f31, f32⟩ := h
  unfold LX
  simp only [l, Int.reduceEq, reduceIte, uV, Nat.reduceEqDiff]
  exact ⟨(f4), (f5), (f6), (f7), (f8), (f9), (f10), (f11.trans (bI_congr ⟨fun w => (B 8 (by decide)).mpr (Or.inl w), fun w => ((B 8 (by decide)).mp w).elim id (fun e => absurd e (by decide))⟩)), (f12.trans (ite_congr9 ⟨fun w => (B 16 (by decide)).mpr (Or.inl w), fun w => ((B 16 (by decide)).mp w).elim id (fun e => absurd e (by decide))⟩)), (f13), (f20.trans (bI_congr ⟨fun w => (B 2 (by decide)).mpr (Or.inl w), fun w => ((B 2 (by decide)).mp w).elim id (fun e => absurd e (by decide))⟩)), (f21), (f22), ((bI_t ((B 4 (by decide)).mpr (Or.inr rfl))).symm), (by first | trivial | rfl), (by first | trivial | rfl)⟩
theorem LX_8 {N : Int → Int} {x : Int} {f : Nat → Int}  (h : LX N x f) (h7 : 0 ≤ LF N x 7 ∧ LF N x 7 ≤ 31) (hz : zand (LF N x 7) 8 = 0) : LX (uI N (483 + 500 * x + 7) (zor (N (483 + 500 * x + 7)) 8)) x (uV f 11 1) := by
  have B := (zbI h7 (by decide) hz).1.2
  have l : ∀ w : Int, LF (uI N (483 + 500 * x + 7) (zor (N (483 + 500 * x + 7)) 8)) x w = if w = 7 then zor (LF N x 7) 8 else LF N x w := fun w => by rw [LFu]; rfl
  obtain ⟨f4, f5, f6, f7, f8, f9, f10, f11, f12, f13, f20, f21, f22, f30, f31, f32⟩ := h
  unfold LX
  simp only [l, Int.reduceEq, reduceIte, uV, Nat.reduceEqDiff]
  exact ⟨(f4), (f5), (f6), (f7), (f8), (f9), (f10), ((bI_t ((B 8 (by decide)).mpr (Or.inr rfl))).symm), (f12.trans (ite_congr9 ⟨fun w => (B 16 (by decide)).mpr (Or.inl w), fun w => ((B 16 (by decide)).mp w).elim id (fun e => absurd e (by decide))⟩)), (f13), (f20.trans (bI_congr ⟨fun w => (B 2 (by decide)).mpr (Or.inl w), fun w => ((B 2 (by decide)).mp w).elim id (fun e => absurd e (by decide))⟩)), (f21), (f22), (f30.trans (bI_congr ⟨fun w => (B 4 (by decide)).mpr (Or.inl w), fun w => ((B 4 (by decide)).mp w).elim id (fun e => absurd e (by decide))⟩)), (f31), (f32)⟩
theorem LX_16 {N : Int → Int} {x : Int} {f : Nat → Int} {b : Int} (h : LX N x f) (h7 : 0 ≤ LF N x 7 ∧ LF N x 7 ≤ 31) (hz : zand (LF N x 7) 16 = 0) : LX (uI (uI N (483 + 500 * x + 7) (zor (N (483 + 500 * x + 7)) 16)) (483 + 500 * x + 12) b) x (uV f 12 b) := by
  have B := (zbI h7 (by decide) hz).1.2
  have l : ∀ w : Int, LF (uI (uI N (483 + 500 * x + 7) (zor (N (483 + 500 * x + 7)) 16)) (483 + 500 * x + 12) b) x w = if w = 12 then b else if w = 7 then zor (LF N x 7) 16 else LF N x w := fun w => by rw [LFu, LFu]; rfl
  obtain ⟨f4, f5, f6, f7, f8, f9, f10, f11, f12, f13, f20, f21, f22, f30, f31, f32⟩ := h
  unfold LX
  simp only [l, Int.reduceEq, reduceIte, uV, Nat.reduceEqDiff]
  exact ⟨(f4), (f5), (f6), (f7), (f8), (f9), (f10), (f11.trans (bI_congr ⟨fun w => (B 8 (by decide)).mpr (Or.inl w), fun w => ((B 8 (by decide)).mp w).elim id (fun e => absurd e (by decide))⟩)), ((if_pos ((B 16 (by decide)).mpr (Or.inr rfl))).symm), (f13), (f20.trans (bI_congr ⟨fun w => (B 2 (by decide)).mpr (Or.inl w), fun w => ((B 2 (by decide)).mp w).elim id (fun e => absurd e (by decide))⟩)), (f21), (f22), (f30.trans (bI_congr ⟨fun w => (B 4 (by decide)).mpr (Or.inl w), fun w => ((B 4 (by decide)).mp w).elim id (fun e => absurd e (by decide))⟩)), (f31), (f32)⟩
