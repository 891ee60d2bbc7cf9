/-! what a text that is read makes of the desk -/
theorem bnd_inv {r : PR} {k : Int → (Int → Int) → PR} {f y : Int} {N : Int → Int} (h : bnd r k = (f, y, N)) (hf : f = 0) : ∃ y1 N1, r = (0, y1, N1) ∧ k y1 N1 = (f, y, N) := by
  unfold bnd at h
  split at h
  · next q => exact ⟨r.2.1, r.2.2, by rw [← q], h⟩
  · next q =>
    have : r.1 = f := congrArg Prod.fst h
    omega
theorem Pend_0 {T : Int → Int} {z y f y1 : Int} {N N1 : Int → Int} (h : Pend T z y N = (f, y1, N1)) (hf : f = 0) : tkS T z y = 4 ∧ y1 = tkB T z y ∧ N1 = N := by
  unfold Pend at h
  split at h
  · have := congrArg Prod.fst h; exact absurd (show (1 : Int) = f from this) (by omega)
  · injection h with e1 e2
    injection e2 with e2 e3
    exact ⟨by omega, e2.symm, e3.symm⟩
theorem Pix_0 {T : Int → Int} {z y f y1 : Int} {N N1 : Int → Int} (h : Pix T z y N = (f, y1, N1)) (hf : f = 0) : ∃ m v k : Int, (0 ≤ m ∧ m ≤ 239) ∧ (1 ≤ v ∧ v ≤ 9999) ∧ (0 ≤ k ∧ k ≤ 239) ∧ ¬ 0 < N (3 + m) ∧ N1 = uI (uI N (3 + m) v) (243 + m) k := by
  unfold Pix at h
  split at h
  · have := congrArg Prod.fst h; exact absurd (show (1 : Int) = f from this) (by omega)
  · next q1 =>
    split at h
    · have := congrArg Prod.fst h; exact absurd (show (2 : Int) = f from this) (by omega)
    · next q2 =>
      have hm := tkN_R (T := T) (z := z) (y := y) (by omega)
      obtain ⟨y2, N2, e1, h⟩ := bnd_inv h hf
      obtain ⟨y3, N3, e2, h⟩ := bnd_inv h hf
      have a1 := Pnum_0 e1 rfl
      have a2 := Pnum_0 e2 rfl
      have a3 := Pend_0 h hf
      exact ⟨tkN T z y, _, _, by omega, a1.2.1, a2.2.1, by omega, by rw [a3.2.2, a2.2.2.2, a1.2.2.2]⟩
theorem Ple_0 {T : Int → Int} {z x y f y1 : Int} {N N1 : Int → Int} (hx : 0 ≤ x) (h : Ple T z x y N = (f, y1, N1)) (hf : f = 0) : ∃ b t r e g : Int, (0 ≤ b ∧ b ≤ 119) ∧ (1 ≤ t ∧ t ≤ 120) ∧ (1 ≤ r ∧ r ≤ 99999) ∧ (1 ≤ e ∧ e ≤ 60) ∧ (0 ≤ g ∧ g ≤ t) ∧ N1 = uI (uI (uI (uI (uI (uI N (483 + 500 * x + 0) b) (483 + 500 * x + 1) t) (483 + 500 * x + 2) r) (483 + 500 * x + 3) e) (483 + 500 * x + 4) g) 2 (N 2 + 1) := by
  unfold Ple at h
  obtain ⟨y2, N2, e1, h⟩ := bnd_inv h hf
  obtain ⟨y3, N3, e2, h⟩ := bnd_inv h hf
  obtain ⟨y4, N4, e3, h⟩ := bnd_inv h hf
  obtain ⟨y5, N5, e4, h⟩ := bnd_inv h hf
  obtain ⟨y6, N6, e5, h⟩ := bnd_inv h hf
  have a1 := Pnum_0 e1 rfl
  have a2 := Pnum_0 e2 rfl
  have a3 := Pnum_0 e3 rfl
  have a4 := Pnum_0 e4 rfl
  have a5 := Pnum_0 e5 rfl
  have a6 := Pend_0 h hf
  have ht : N5 (483 + 500 * x + 1) = tkN T z y2 := by rw [a4.2.2.2, uI_n (by omega), a3.2.2.2, uI_n (by omega), a2.2.2.2, uI_s]
  rw [ht] at a5
  have h2 : N6 2 = N 2 := by rw [a5.2.2.2, uI_n (by omega), a4.2.2.2, uI_n (by omega), a3.2.2.2, uI_n (by omega), a2.2.2.2, uI_n (by omega), a1.2.2.2, uI_n (by omega)]
  exact ⟨_, _, _, _, _, a1.2.1, a2.2.1, a3.2.1, a4.2.1, a5.2.1, by rw [a6.2.2, h2, a5.2.2.2, a4.2.2.2, a3.2.2.2, a2.2.2.2, a1.2.2.2]⟩
theorem BWc (k : Int) : BW k = 0 ∨ (k = 6 ∧ BW k = 1) ∨ (k = 9 ∧ BW k = 2) ∨ (k = 10 ∧ BW k = 3) ∨ (k = 11 ∧ BW k = 4) := by
  unfold BW
  by_cases h8 : k = 6
  · subst h8; decide
  by_cases h12 : k = 9
  · subst h12; decide
  by_cases h13 : k = 10
  · subst h13; decide
  by_cases h14 : k = 11
  · subst h14; decide
  rw [if_neg h8, if_neg h12, if_neg h13, if_neg h14]
  exact Or.inl rfl
/-- what a part that is read has written, by the part's bit -/
def PTS (N N1 : Int → Int) (x p : Int) : Prop :=
  (p = 1 ∧ ((N1 = uI (uI N (483 + 500 * x + 7) (zor (N (483 + 500 * x + 7)) 1)) (483 + 500 * x + 5) 2) ∨ ∃ b g : Int, (b = 1 ∨ b = 3 ∨ b = 4) ∧ (0 ≤ g ∧ g ≤ 999) ∧ (b = 1 → g ≤ 12) ∧ N1 = uI (uI (uI N (483 + 500 * x + 7) (zor (N (483 + 500 * x + 7)) 1)) (483 + 500 * x + 5) b) (483 + 500 * x + 6) g)) ∨
  (p = 2 ∧ ∃ b g : Int, (0 ≤ b ∧ b ≤ 999) ∧ (0 ≤ g ∧ g ≤ 999) ∧ N1 = uI (uI (uI N (483 + 500 * x + 7) (zor (N (483 + 500 * x + 7)) 2)) (483 + 500 * x + 8) b) (483 + 500 * x + 9) g) ∨
  (p = 4 ∧ ∃ b g : Int, (0 ≤ b ∧ b ≤ 999) ∧ (0 ≤ g ∧ g ≤ 999) ∧ N1 = uI (uI (uI N (483 + 500 * x + 7) (zor (N (483 + 500 * x + 7)) 4)) (483 + 500 * x + 10) b) (483 + 500 * x + 11) g) ∨
  (p = 8 ∧ N1 = uI N (483 + 500 * x + 7) (zor (N (483 + 500 * x + 7)) 8)) ∨
  (p = 16 ∧ ∃ b : Int, (N (483 + 500 * x + 0) + 1 ≤ b ∧ b ≤ N (483 + 500 * x + 0) + N (483 + 500 * x + 1) - 1) ∧ N1 = uI (uI N (483 + 500 * x + 7) (zor (N (483 + 500 * x + 7)) 16)) (483 + 500 * x + 12) b)
theorem Ppart_0 {T : Int → Int} {z x y f y1 : Int} {N N1 : Int → Int} (hp : PB (KND T z y) ≠ 0) (h : Ppart T z x y N = (f, y1, N1)) (hf : f = 0) : zand (N (483 + 500 * x + 7)) (PB (KND T z y)) = 0 ∧ PTS N N1 x (PB (KND T z y)) := by
  unfold Ppart at h
  split at h
  · have := congrArg Prod.fst h; exact absurd (show (4 : Int) = f from this) (by omega)
  · next q1 =>
    refine ⟨by omega, ?_⟩
    obtain ⟨y2, N2, e1, h⟩ := bnd_inv h hf
    have a3 := Pend_0 h hf
    rw [a3.2.2]
    clear h
    unfold PTS
    rcases PBc (KND T z y) with e9 | ⟨hk, e9⟩ | ⟨hk, e9⟩ | ⟨hk, e9⟩ | ⟨hk, e9⟩ | ⟨hk, e9⟩
    · exact absurd e9 hp
    · rw [e9, hk] at e1
      rw [e9]
      refine Or.inl ⟨rfl, ?_⟩
      have e1 : Pby T z x (tkB T z y) (uI N (483 + 500 * x + 7) (zor (N (483 + 500 * x + 7)) 1)) = (0, y2, N2) := e1
      unfold Pby at e1
      rcases BWc (KND T z (tkB T z y)) with b9 | ⟨_, b9⟩ | ⟨_, b9⟩ | ⟨_, b9⟩ | ⟨_, b9⟩
      · rw [b9, if_pos rfl] at e1
        exact absurd (show (1 : Int) = 0 from congrArg Prod.fst e1) (by decide)
      · rw [b9, if_neg (by decide), if_neg (by decide), if_pos rfl] at e1
        have a := Pnum_0 e1 rfl
        exact Or.inr ⟨1, _, by decide, by omega, fun _ => a.2.1.2, a.2.2.2⟩
      · rw [b9, if_neg (by decide), if_pos rfl] at e1
        injection e1 with e1 e2
        injection e2 with e2 e3
        exact Or.inl e3.symm
      · rw [b9, if_neg (by decide), if_neg (by decide), if_neg (by decide)] at e1
        have a := Pnum_0 e1 rfl
        exact Or.inr ⟨3, _, by decide, a.2.1, fun q => absurd q (by decide), a.2.2.2⟩
      · rw [b9, if_neg (by decide), if_neg (by decide), if_neg (by decide)] at e1
        have a := Pnum_0 e1 rfl
        exact Or.inr ⟨4, _, by decide, a.2.1, fun q => absurd q (by decide), a.2.2.2⟩
    · rw [e9, hk] at e1
      rw [e9]
      unfold Ppt at e1
      rw [if_neg (by decide), if_pos rfl] at e1
      obtain ⟨y3, N3, e1, e2⟩ := bnd_inv e1 rfl
      have a := Pnum_0 e1 rfl
      have b := Pnum_0 e2 rfl
      exact Or.inr (Or.inl ⟨rfl, _, _, a.2.1, b.2.1, by rw [b.2.2.2, a.2.2.2]⟩)
    · rw [e9, hk] at e1
      rw [e9]
      unfold Ppt at e1
      rw [if_neg (by decide), if_neg (by decide), if_pos rfl] at e1
      obtain ⟨y3, N3, e1, e2⟩ := bnd_inv e1 rfl
      have a := Pnum_0 e1 rfl
      have b := Pnum_0 e2 rfl
      exact Or.inr (Or.inr (Or.inl ⟨rfl, _, _, a.2.1, b.2.1, by rw [b.2.2.2, a.2.2.2]⟩))
    · rw [e9, hk] at e1
      rw [e9]
      unfold Ppt at e1
      rw [if_neg (by decide), if_neg (by decide), if_neg (by decide), if_neg (by decide)] at e1
      injection e1 with e1 e2
      injection e2 with e2 e3
      exact Or.inr (Or.inr (Or.inr (Or.inl ⟨rfl, e3.symm⟩)))
    · rw [e9, hk] at e1
      rw [e9]
      unfold Ppt at e1
      rw [if_neg (by decide), if_neg (by decide), if_neg (by decide), if_pos rfl] at e1
      have a := Pnum_0 e1 rfl
      rw [uI_n (by omega), uI_n (by omega)] at a
      exact Or.inr (Or.inr (Or.inr (Or.inr ⟨rfl, _, a.2.1, a.2.2.2⟩)))
theorem LFu {N : Int → Int} {x k z w : Int} : LF (uI N (483 + 500 * x + k) z) x w = if w = k then z else LF N x w := by
  unfold LF uI
  by_cases q : w = k
  · rw [if_pos q, if_pos (by omega)]
  · rw [if_neg q, if_neg (by omega)]
theorem LFo {N : Int → Int} {x x1 k z w : Int} (h : x1 ≠ x) (hw : 0 ≤ w ∧ w < 500) (hk : 0 ≤ k ∧ k < 500) : LF (uI N (483 + 500 * x + k) z) x1 w = LF N x1 w := by
  unfold LF
  exact uI_n (by omega)
theorem LF2 {N : Int → Int} {x z w : Int} (hx : 0 ≤ x) (hw : 0 ≤ w) : LF (uI N 2 z) x w = LF N x w := by
  unfold LF
  exact uI_n (by omega)
theorem zb : ∀ w : Fin 32, ∀ p ∈ [(1 : Int), 2, 4, 8, 16], zand (w.val : Int) p = 0 → (0 ≤ zor (w.val : Int) p ∧ zor (w.val : Int) p ≤ 31) ∧ ∀ q ∈ [(1 : Int), 2, 4, 8, 16], (zand (zor (w.val : Int) p) q ≠ 0 ↔ (zand (w.val : Int) q ≠ 0 ∨ q = p)) := by decide +kernel
def PC (w : Int) : Int := bI (zand w 1 ≠ 0) + bI (zand w 2 ≠ 0) + bI (zand w 4 ≠ 0) + bI (zand w 8 ≠ 0) + bI (zand w 16 ≠ 0)
theorem zc : ∀ w : Fin 32, ∀ p ∈ [(1 : Int), 2, 4, 8, 16], zand (w.val : Int) p = 0 → PC (zor (w.val : Int) p) = PC (w.val : Int) + 1 ∧ PC (w.val : Int) ≤ 4 := by decide +kernel
theorem zbI {w p : Int} (hw : 0 ≤ w ∧ w ≤ 31) (hp : p = 1 ∨ p = 2 ∨ p = 4 ∨ p = 8 ∨ p = 16) (h : zand w p = 0) : ((0 ≤ zor w p ∧ zor w p ≤ 31) ∧ ∀ q ∈ [(1 : Int), 2, 4, 8, 16], (zand (zor w p) q ≠ 0 ↔ (zand w q ≠ 0 ∨ q = p))) ∧ PC (zor w p) = PC w + 1 ∧ PC w ≤ 4 := by
  have e : (((⟨w.toNat, by omega⟩ : Fin 32).val : Nat) : Int) = w := by show ((w.toNat : Nat) : Int) = w; omega
  have hm : p ∈ [(1 : Int), 2, 4, 8, 16] := by rcases hp with rfl | rfl | rfl | rfl | rfl <;> decide
  have a := zb ⟨w.toNat, by omega⟩ p hm
  have b := zc ⟨w.toNat, by omega⟩ p hm
  rw [e] at a b
  exact ⟨a h, b h⟩
