/-! glue: news -/
theorem SUM_congr {f g : Int → Int} {i : Int} : ∀ n : Nat, (∀ j : Int, i ≤ j → j < i + (n : Int) → f j = g j) → SUM f i n = SUM g i n := by
  intro n
  induction n with
  | zero => intro _; rfl
  | succ n ih =>
    intro h
    show SUM f i n + f (i + (n : Int)) = SUM g i n + g (i + (n : Int))
    rw [ih (fun j a b => h j a (by omega)), h (i + (n : Int)) (by omega) (by omega)]
theorem SUM_up {f g : Int → Int} {i j : Int} : ∀ n : Nat, (∀ k : Int, i ≤ k → k < i + (n : Int) → k ≠ j → f k = g k) → i ≤ j → j < i + (n : Int) → SUM f i n = SUM g i n + (f j - g j) := by
  intro n
  induction n with
  | zero => intro _ h1 h2; omega
  | succ n ih =>
    intro h h1 h2
    show SUM f i n + f (i + (n : Int)) = SUM g i n + g (i + (n : Int)) + (f j - g j)
    by_cases hj : j = i + (n : Int)
    · rw [SUM_congr n (fun k a b => h k a (by omega) (by omega)), hj]; omega
    · rw [ih (fun k a b c9 => h k a (by omega) c9) h1 (by omega), h (i + (n : Int)) (by omega) (by omega) (by omega)]; omega
theorem SUM_ge {f : Int → Int} {i : Int} (h : ∀ j, 0 ≤ f j) : ∀ n : Nat, 0 ≤ SUM f i n := by
  intro n
  induction n with
  | zero => exact Int.le_refl 0
  | succ n ih =>
    show 0 ≤ SUM f i n + f (i + (n : Int))
    have := h (i + (n : Int)); omega
theorem SUM_le {f : Int → Int} {i j : Int} (h : ∀ j, 0 ≤ f j) : ∀ n : Nat, i ≤ j → j < i + (n : Int) → f j ≤ SUM f i n := by
  intro n
  induction n with
  | zero => intro h1 h2; omega
  | succ n ih =>
    intro h1 h2
    show f j ≤ SUM f i n + f (i + (n : Int))
    by_cases hj : j = i + (n : Int)
    · have := SUM_ge (i := i) h n; rw [hj]; omega
    · have := ih h1 (by omega); have := h (i + (n : Int)); omega
theorem bI_0 {P : Prop} [Decidable P] : 0 ≤ bI P := by unfold bI; split <;> omega
theorem bI_le {P : Prop} [Decidable P] (h : bI P ≤ 0) : ¬ P := fun q => by rw [bI_t q] at h; omega
/-- how many facts of a lease become known in m -/
def NWl (N : Int → Int) (m x : Int) : Int := SUM (fun i => bI (0 < LF N x (20 + i) ∧ LF N x (140 + i) = m)) 0 120 + SUM (fun i => bI (0 < LF N x (260 + i) ∧ LF N x (380 + i) = m)) 0 120 + bI (LF N x 13 = m + 1)
/-- how many facts become known in m -/
def NWc (N : Int → Int) (m : Int) : Int := SUM (fun j => bI (0 < N (3 + j) ∧ N (243 + j) = m)) 0 240 + SUM (NWl N m) 0 (N 2).toNat
theorem NWl_0 {N : Int → Int} {m x : Int} : 0 ≤ NWl N m x := by
  have a1 := SUM_ge (f := fun i => bI (0 < LF N x (20 + i) ∧ LF N x (140 + i) = m)) (i := 0) (fun _ => bI_0) 120
  have a2 := SUM_ge (f := fun i => bI (0 < LF N x (260 + i) ∧ LF N x (380 + i) = m)) (i := 0) (fun _ => bI_0) 120
  have a3 : 0 ≤ bI (LF N x 13 = m + 1) := bI_0
  unfold NWl; omega
theorem NWc_0 {N : Int → Int} {m : Int} : 0 ≤ NWc N m := by
  have a1 := SUM_ge (f := fun j => bI (0 < N (3 + j) ∧ N (243 + j) = m)) (i := 0) (fun _ => bI_0) 240
  have a2 := SUM_ge (f := NWl N m) (i := 0) (fun _ => NWl_0) (N 2).toNat
  unfold NWc; omega
/-- nothing becomes known in m -/
def QUI (N : Int → Int) (x m : Int) : Prop := (∀ j : Int, 0 ≤ j → j ≤ 239 → 0 < N (3 + j) → N (243 + j) ≠ m) ∧ (∀ i : Int, 0 ≤ i → i ≤ 119 → (0 < LF N x (20 + i) → LF N x (140 + i) ≠ m) ∧ (0 < LF N x (260 + i) → LF N x (380 + i) ≠ m)) ∧ LF N x 13 ≠ m + 1
theorem QUI_of {N : Int → Int} {x m : Int} (hx : 0 ≤ x ∧ x < N 2) (h : NWc N m ≤ 0) : QUI N x m := by
  have a1 := SUM_ge (f := fun j => bI (0 < N (3 + j) ∧ N (243 + j) = m)) (i := 0) (fun _ => bI_0) 240
  have a2 := SUM_ge (f := NWl N m) (i := 0) (fun _ => NWl_0) (N 2).toNat
  have a3 := SUM_le (f := NWl N m) (i := 0) (j := x) (fun _ => NWl_0) (N 2).toNat (by omega) (by omega)
  unfold NWc at h
  have b1 := SUM_ge (f := fun i => bI (0 < LF N x (20 + i) ∧ LF N x (140 + i) = m)) (i := 0) (fun _ => bI_0) 120
  have b2 := SUM_ge (f := fun i => bI (0 < LF N x (260 + i) ∧ LF N x (380 + i) = m)) (i := 0) (fun _ => bI_0) 120
  have b3 : 0 ≤ bI (LF N x 13 = m + 1) := bI_0
  have b4 : NWl N m x ≤ 0 := by omega
  unfold NWl at b4
  refine ⟨fun j j0 j1 jp jm => ?_, fun i i0 i1 => ⟨fun ip im => ?_, fun ip im => ?_⟩, fun q => ?_⟩
  · have := SUM_le (f := fun j => bI (0 < N (3 + j) ∧ N (243 + j) = m)) (i := 0) (j := j) (fun _ => bI_0) 240 (by omega) (by omega)
    exact bI_le (P := 0 < N (3 + j) ∧ N (243 + j) = m) (by show bI (0 < N (3 + j) ∧ N (243 + j) = m) ≤ 0; have t : bI (0 < N (3 + j) ∧ N (243 + j) = m) ≤ _ := this; omega) ⟨jp, jm⟩
  · have := SUM_le (f := fun i => bI (0 < LF N x (20 + i) ∧ LF N x (140 + i) = m)) (i := 0) (j := i) (fun _ => bI_0) 120 (by omega) (by omega)
    exact bI_le (P := 0 < LF N x (20 + i) ∧ LF N x (140 + i) = m) (by have t : bI (0 < LF N x (20 + i) ∧ LF N x (140 + i) = m) ≤ _ := this; omega) ⟨ip, im⟩
  · have := SUM_le (f := fun i => bI (0 < LF N x (260 + i) ∧ LF N x (380 + i) = m)) (i := 0) (j := i) (fun _ => bI_0) 120 (by omega) (by omega)
    exact bI_le (P := 0 < LF N x (260 + i) ∧ LF N x (380 + i) = m) (by have t : bI (0 < LF N x (260 + i) ∧ LF N x (380 + i) = m) ≤ _ := this; omega) ⟨ip, im⟩
  · exact bI_le (P := LF N x 13 = m + 1) (by omega) q
theorem isV_q {N : Int → Int} {x m j : Int} (h : QUI N x m) : isV N j m ↔ isV N j (m - 1) := by
  constructor
  · rintro ⟨h1, h2, h3, h4⟩
    exact ⟨h1, h2, h3, by have := h.1 j h1 h2 h3; omega⟩
  · rintro ⟨h1, h2, h3, h4⟩
    exact ⟨h1, h2, h3, by omega⟩
theorem ite_q {P Q : Prop} [Decidable P] [Decidable Q] {a b : Int} (h : P ↔ Q) : (if P then a else b) = if Q then a else b := by
  by_cases q : P
  · rw [if_pos q, if_pos (h.mp q)]
  · rw [if_neg q, if_neg (fun r => q (h.mpr r))]
theorem dnv_q {N : Int → Int} {x m : Int} (h : QUI N x m) : ∀ n : Nat, dnv N m n = dnv N (m - 1) n := by
  intro n
  induction n with
  | zero => rfl
  | succ n ih =>
    show (if isV N (n : Int) m then (n : Int) else dnv N m n) = if isV N (n : Int) (m - 1) then (n : Int) else dnv N (m - 1) n
    rw [ih]; exact ite_q (isV_q h)
theorem upv_q {N : Int → Int} {x m : Int} (h : QUI N x m) : ∀ n : Nat, upv N m n = upv N (m - 1) n := by
  intro n
  induction n with
  | zero => rfl
  | succ n ih =>
    show (if isV N (240 - ((n + 1 : Nat) : Int)) m then 240 - ((n + 1 : Nat) : Int) else upv N m n) = if isV N (240 - ((n + 1 : Nat) : Int)) (m - 1) then 240 - ((n + 1 : Nat) : Int) else upv N (m - 1) n
    rw [ih]; exact ite_q (isV_q h)
theorem IDX_q {N : Int → Int} {x m y : Int} (h : QUI N x m) : IDX N y m = IDX N y (m - 1) := by
  unfold IDX
  rw [dnv_q h, upv_q h]
theorem BYI_q {N : Int → Int} {x m t : Int} (h : QUI N x m) : BYI N x t m = BYI N x t (m - 1) := by
  unfold BYI
  rw [IDX_q h, IDX_q (y := t - LF N x 6) h]
theorem tsm_q {N : Int → Int} {x m i : Int} (h : QUI N x m) (hT : WFt N x) (hi : 0 ≤ i) : ∀ n : Nat, i + (n : Int) ≤ 120 → tsm N x m i n = tsm N x (m - 1) i n := by
  intro n
  induction n with
  | zero => intro _; rfl
  | succ n ih =>
    intro hn
    show (if tsm N x m i n < 0 then -1 else if LF N x (260 + (i + (n : Int))) = 0 ∨ m < LF N x (380 + (i + (n : Int))) then -1 else tsm N x m i n + (LF N x (260 + (i + (n : Int))) - 1)) = (if tsm N x (m - 1) i n < 0 then -1 else if LF N x (260 + (i + (n : Int))) = 0 ∨ m - 1 < LF N x (380 + (i + (n : Int))) then -1 else tsm N x (m - 1) i n + (LF N x (260 + (i + (n : Int))) - 1))
    rw [ih (by omega)]
    have t1 := (h.2.1 (i + (n : Int)) (by omega) (by omega)).2
    have t2 := hT (i + (n : Int)) (by omega) (by omega)
    congr 1
    refine ite_q ?_
    omega
theorem BYT_q {N : Int → Int} {x m r : Int} (h : QUI N x m) (hL : WFl N x) (hT : WFt N x) (h1 : 1 ≤ r) (h2 : r ≤ REV N x) : BYT N x r m = BYT N x r (m - 1) := by
  have hR := REV_R hL
  obtain ⟨l0, l1, l2, l3, -⟩ := id hL
  have e1 : 0 ≤ (r - 1) * LF N x 3 := Int.mul_nonneg (by omega) (by omega)
  have e2 : r * LF N x 3 ≤ REV N x * LF N x 3 := Int.mul_le_mul_of_nonneg_right h2 (by omega)
  have e3 : (r - 1) * LF N x 3 = r * LF N x 3 - LF N x 3 := by rw [Int.sub_mul, Int.one_mul]
  unfold BYT
  rw [tsm_q h hT e1 (LF N x 3).toNat (by omega)]
theorem WNT_q {N : Int → Int} {x m was r : Int} (h : QUI N x m) (hL : WFl N x) (hT : WFt N x) (h1 : 1 ≤ r) (h2 : r ≤ REV N x) : WNT N x m was r = WNT N x (m - 1) was r := by
  have hR := REV_R hL
  have t1 := (h.2.1 r (by omega) (by omega)).1
  unfold WNT
  rw [BYI_q h, BYT_q h hL hT h1 h2]
  congr 1
  congr 1
  refine ite_q ?_
  constructor
  · rintro ⟨a, b⟩; exact ⟨a, by have := t1 a; omega⟩
  · rintro ⟨a, b⟩; exact ⟨a, by omega⟩
theorem RNT_q {N : Int → Int} {x m : Int} (h : QUI N x m) (hL : WFl N x) (hT : WFt N x) : ∀ n : Nat, (n : Int) ≤ REV N x → RNT N x m n = RNT N x (m - 1) n := by
  intro n
  induction n with
  | zero => intro _; rfl
  | succ n ih =>
    intro hn
    have i1 := ih (by omega)
    have i2 := WNT_q (was := RNT N x (m - 1) n) (r := ((n + 1 : Nat) : Int)) h hL hT (by omega) hn
    show (if WNT N x m (RNT N x m n) ((n + 1 : Nat) : Int) = -1 then RNT N x m n else HLD N x (WNT N x m (RNT N x m n) ((n + 1 : Nat) : Int)) (RNT N x m n) (LST N x (n + 1)) (MST N x (n + 1))) = _
    rw [i1, i2]
    rfl
theorem DUE_q {N : Int → Int} {x m y : Int} (h : QUI N x m) (hL : WFl N x) (hT : WFt N x) : DUE N x m y = DUE N x (m - 1) y := by
  have hR := REV_R hL
  unfold DUE RNTm
  rw [RNT_q h hL hT (RVW N x y).toNat (by unfold RVW; split <;> omega)]
theorem END_q {N : Int → Int} {x m : Int} (h : QUI N x m) : END N x m = END N x (m - 1) := by
  have := h.2.2
  unfold END
  refine ite_q ?_
  omega
theorem ALLD_q {N : Int → Int} {x m : Int} (h : QUI N x m) (hL : WFl N x) (hT : WFt N x) : ALLD N x m = ALLD N x (m - 1) := by
  unfold ALLD
  rw [END_q h]
  exact SUM_congr _ (fun j _ _ => DUE_q h hL hT)
theorem NWS_of {N : Int → Int} {f : Int → Int} (hWF : WF N) (h : ∀ m : Int, 0 ≤ m → m ≤ 239 → f m = NWc N m) : NWS N f := by
  intro i m hi hm h9 hf
  obtain ⟨w0, w1, w2, hV, hls⟩ := id hWF
  obtain ⟨hL, hT⟩ := hls i (by omega) hi
  have := hL.1
  rw [h m (by omega) h9] at hf
  exact ALLD_q (QUI_of ⟨by omega, hi⟩ (by omega)) hL hT
