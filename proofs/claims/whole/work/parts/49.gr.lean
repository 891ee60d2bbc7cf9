/-! the grammar -/
theorem wN_0 : wN 0 = 355568 := by decide +kernel
theorem wN_1 : wN 1 = 5061606 := by decide +kernel
theorem wN_2 : wN 2 = 6476954 := by decide +kernel
theorem wN_3 : wN 3 = 79 := by decide +kernel
theorem wN_4 : wN 4 = 187429700 := by decide +kernel
theorem wN_5 : wN 5 = 217608926265 := by decide +kernel
theorem wN_6 : wN 6 = 388708 := by decide +kernel
theorem wN_7 : wN 7 = 51263325 := by decide +kernel
theorem wN_8 : wN 8 = 6129995853 := by decide +kernel
theorem wN_9 : wN 9 = 310284031 := by decide +kernel
theorem wN_10 : wN 10 = 1420859 := by decide +kernel
theorem WKD_d (w : Int) : WKD w = if w = 355568 then 5 else if w = 5061606 then 6 else if w = 6476954 then 7 else if w = 79 then 8 else if w = 187429700 then 9 else if w = 217608926265 then 10 else if w = 388708 then 11 else if w = 51263325 then 12 else if w = 6129995853 then 13 else if w = 310284031 then 14 else if w = 1420859 then 15 else 4 := by
  unfold WKD
  rw [wN_0, wN_1, wN_2, wN_3, wN_4, wN_5, wN_6, wN_7, wN_8, wN_9, wN_10]
/-- the run's signs -/
theorem RUN_all {T : Int → Int} {z : Int} : ∀ (n : Nat) (y : Int), ∀ j : Int, y ≤ j → j < RUN T z y n → isLt (T j) ∨ isDg (T j) := by
  intro n
  induction n with
  | zero => intro y j j0 j1; exact absurd j1 (by show ¬ j < y; omega)
  | succ n ih =>
    intro y j j0 j1
    have j1 : j < (if y < z ∧ (isLt (T y) ∨ isDg (T y)) then RUN T z (y + 1) n else y) := j1
    split at j1
    · next q =>
      by_cases e : j = y
      · rw [e]; exact q.2
      · exact ih (y + 1) j (by omega) j1
    · omega
theorem BHD_all {T : Int → Int} {z y j : Int} (h0 : y ≤ j) (h1 : j < BHD T z y) : isLt (T j) ∨ isDg (T j) := RUN_all _ _ j h0 h1
theorem LC_none {T : Int → Int} {y : Int} : ∀ n : Nat, LC T y n = 0 → ∀ j : Int, y ≤ j → j < y + (n : Int) → ¬ isLt (T j) := by
  intro n
  induction n with
  | zero => intro _ j j0 j1; omega
  | succ n ih =>
    intro h j j0 j1
    have l := LC_R (T := T) (y := y) n
    rw [LC_s] at h
    have hb9 : bI (isLt (T (y + (n : Int)))) = 0 ∧ LC T y n = 0 := by
      have : 0 ≤ bI (isLt (T (y + (n : Int)))) := by unfold bI; split <;> omega
      omega
    by_cases q : j < y + (n : Int)
    · exact ih hb9.2 j j0 q
    · rw [show j = y + (n : Int) by omega]
      intro t
      have := bI_t t; omega
theorem NUM_D {T : Int → Int} {y : Int} : ∀ n : Nat, n ≤ 5 → (∀ j : Int, y ≤ j → j < y + (n : Int) → isDg (T j)) → 0 ≤ NUM T y n ∧ NUM T y n < 10 ^ n := by
  intro n
  induction n with
  | zero => intro _ _; show (0 : Int) ≤ 0 ∧ (0 : Int) < 10 ^ 0; decide
  | succ n ih =>
    intro hn h
    have i9 := ih (by omega) (fun j j0 j1 => h j j0 (by omega))
    have t : 48 ≤ T (y + (n : Int)) ∧ T (y + (n : Int)) ≤ 57 := h (y + (n : Int)) (by omega) (by omega)
    show 0 ≤ (if n < 5 then 10 * NUM T y n + T (y + (n : Int)) - 48 else NUM T y n) ∧ (if n < 5 then 10 * NUM T y n + T (y + (n : Int)) - 48 else NUM T y n) < 10 ^ (n + 1)
    rw [if_pos (by omega), Int.pow_succ]
    omega
theorem tkS_R {T : Int → Int} {z y : Int} : 0 ≤ tkS T z y ∧ tkS T z y ≤ 4 := by
  unfold tkS SRT
  repeat' split
  all_goals decide
theorem SK_L {T : Int → Int} {z y : Int} (h : 0 ≤ y ∧ y ≤ z) : y ≤ SK T z y ∧ SK T z y ≤ z := by
  have := SK_R (T := T) (z := z) (y := y)
  omega
theorem tkB_R {T : Int → Int} {z y : Int} (h : 0 ≤ y ∧ y ≤ z) : y ≤ tkB T z y ∧ tkB T z y ≤ z ∧ (2 ≤ tkS T z y → y < tkB T z y) := by
  have s1 := SK_L (T := T) h
  have b1 := BHD_R (T := T) (z := z) (y := SK T z y)
  unfold tkB
  split
  · next q =>
    refine ⟨by omega, by omega, fun w => ?_⟩
    exfalso
    unfold tkS at w
    rcases q with q | q
    · rw [if_pos q] at w; omega
    · split at w <;> omega
  · next q =>
    split
    · next r =>
      have := BHD_1 (T := T) (z := z) (p := SK T z y) (by omega) r
      omega
    · omega
theorem tkP_R {T : Int → Int} {z y : Int} (h : 0 ≤ y ∧ y ≤ z) : 0 ≤ tkP T z y ∧ tkP T z y ≤ z := by
  have s1 := SK_L (T := T) h
  unfold tkP
  split <;> omega
theorem tkN_R {T : Int → Int} {z y : Int} (h : tkS T z y = 3) : 0 ≤ tkN T z y ∧ tkN T z y ≤ 99999 := by
  unfold tkS at h
  split at h
  · omega
  · split at h
    · omega
    · split at h
      · unfold SRT at h
        split at h
        · omega
        · split at h
          · next q =>
            unfold tkN
            have t := NUM_D (T := T) (y := SK T z y) (BHD T z (SK T z y) - SK T z y).toNat q.2 (fun j j0 j1 => by
              have := BHD_R (T := T) (z := z) (y := SK T z y)
              rcases BHD_all (T := T) (z := z) (y := SK T z y) (j := j) j0 (by omega) with w | w
              · exact absurd w (LC_none _ q.1 j j0 j1)
              · exact w)
            have hn := q.2
            have hp : ∀ n : Nat, n ≤ 5 → (10 : Int) ^ n ≤ 100000 := by decide
            have := hp _ hn
            omega
          · omega
      · split at h <;> omega
theorem tkW_R {T : Int → Int} {z y : Int} (hz : 0 ≤ y ∧ y ≤ z ∧ z ≤ 640) (hT : ∀ j : Int, 0 ≤ j → j < 640 → 0 ≤ T j ∧ T j ≤ 255) : -10578455953408000 ≤ tkW T z y ∧ tkW T z y ≤ 10578455953408000 := by
  have s1 := SK_L (T := T) (z := z) (y := y) ⟨hz.1, hz.2.1⟩
  have b1 := BHD_R (T := T) (z := z) (y := SK T z y)
  exact WRD_L (fun j j0 j1 => hT j (by omega) (by omega))
theorem KND_R {T : Int → Int} {z y : Int} : 0 ≤ KND T z y ∧ KND T z y ≤ 15 := by
  have := tkS_R (T := T) (z := z) (y := y)
  have w := WKD_R (tkW T z y)
  unfold KND
  repeat' split
  all_goals omega
theorem KND_S {T : Int → Int} {z y : Int} : (KND T z y = 0 ↔ tkS T z y = 0) ∧ (KND T z y = 1 ↔ tkS T z y = 1) ∧ (KND T z y = 2 ↔ tkS T z y = 4) ∧ (KND T z y = 3 ↔ tkS T z y = 3) ∧ (4 ≤ KND T z y ↔ tkS T z y = 2) := by
  have := tkS_R (T := T) (z := z) (y := y)
  have w := WKD_R (tkW T z y)
  have e : (tkS T z y = 2 ∧ KND T z y = WKD (tkW T z y)) ∨ (tkS T z y = 4 ∧ KND T z y = 2) ∨ (tkS T z y ≠ 2 ∧ tkS T z y ≠ 4 ∧ KND T z y = tkS T z y) := by
    unfold KND
    by_cases q : tkS T z y = 2
    · exact Or.inl ⟨q, if_pos q⟩
    · by_cases r : tkS T z y = 4
      · exact Or.inr (Or.inl ⟨r, by rw [if_neg q, if_pos r]⟩)
      · exact Or.inr (Or.inr ⟨q, r, by rw [if_neg q, if_neg r]⟩)
  generalize KND T z y = k at e ⊢
  generalize tkS T z y = t at *
  refine ⟨⟨?_, ?_⟩, ⟨?_, ?_⟩, ⟨?_, ?_⟩, ⟨?_, ?_⟩, ⟨?_, ?_⟩⟩ <;> intro h <;> omega
theorem WK_5 {w : Int} : WKD w = 5 ↔ w = 355568 := by
  rw [WKD_d]
  constructor
  · intro h
    repeat' (split at h)
    all_goals first | assumption | exact absurd h (by decide)
  · intro h; subst h; rfl
theorem KND_5 {T : Int → Int} {z y : Int} : KND T z y = 5 ↔ tkS T z y = 2 ∧ tkW T z y = 355568 := by
  have t := tkS_R (T := T) (z := z) (y := y)
  unfold KND
  by_cases q : tkS T z y = 2
  · rw [if_pos q, WK_5]
    exact ⟨fun h => ⟨q, h⟩, fun h => h.2⟩
  · rw [if_neg q]
    constructor
    · intro h; split at h <;> omega
    · intro h; exact absurd h.1 q
theorem WK_6 {w : Int} : WKD w = 6 ↔ w = 5061606 := by
  rw [WKD_d]
  constructor
  · intro h
    repeat' (split at h)
    all_goals first | assumption | exact absurd h (by decide)
  · intro h; subst h; rfl
theorem KND_6 {T : Int → Int} {z y : Int} : KND T z y = 6 ↔ tkS T z y = 2 ∧ tkW T z y = 5061606 := by
  have t := tkS_R (T := T) (z := z) (y := y)
  unfold KND
  by_cases q : tkS T z y = 2
  · rw [if_pos q, WK_6]
    exact ⟨fun h => ⟨q, h⟩, fun h => h.2⟩
  · rw [if_neg q]
    constructor
    · intro h; split at h <;> omega
    · intro h; exact absurd h.1 q
theorem WK_7 {w : Int} : WKD w = 7 ↔ w = 6476954 := by
  rw [WKD_d]
  constructor
  · intro h
    repeat' (split at h)
    all_goals first | assumption | exact absurd h (by decide)
  · intro h; subst h; rfl
theorem KND_7 {T : Int → Int} {z y : Int} : KND T z y = 7 ↔ tkS T z y = 2 ∧ tkW T z y = 6476954 := by
  have t := tkS_R (T := T) (z := z) (y := y)
  unfold KND
  by_cases q : tkS T z y = 2
  · rw [if_pos q, WK_7]
    exact ⟨fun h => ⟨q, h⟩, fun h => h.2⟩
  · rw [if_neg q]
    constructor
    · intro h; split at h <;> omega
    · intro h; exact absurd h.1 q
theorem WK_8 {w : Int} : WKD w = 8 ↔ w = 79 := by
  rw [WKD_d]
  constructor
  · intro h
    repeat' (split at h)
    all_goals first | assumption | exact absurd h (by decide)
  · intro h; subst h; rfl
theorem KND_8 {T : Int → Int} {z y : Int} : KND T z y = 8 ↔ tkS T z y = 2 ∧ tkW T z y = 79 := by
  have t := tkS_R (T := T) (z := z) (y := y)
  unfold KND
  by_cases q : tkS T z y = 2
  · rw [if_pos q, WK_8]
    exact ⟨fun h => ⟨q, h⟩, fun h => h.2⟩
  · rw [if_neg q]
    constructor
    · intro h; split at h <;> omega
    · intro h; exact absurd h.1 q
theorem WK_9 {w : Int} : WKD w = 9 ↔ w = 187429700 := by
  rw [WKD_d]
  constructor
  · intro h
    repeat' (split at h)
    all_goals first | assumption | exact absurd h (by decide)
  · intro h; subst h; rfl
theorem KND_9 {T : Int → Int} {z y : Int} : KND T z y = 9 ↔ tkS T z y = 2 ∧ tkW T z y = 187429700 := by
  have t := tkS_R (T := T) (z := z) (y := y)
  unfold KND
  by_cases q : tkS T z y = 2
  · rw [if_pos q, WK_9]
    exact ⟨fun h => ⟨q, h⟩, fun h => h.2⟩
  · rw [if_neg q]
    constructor
    · intro h; split at h <;> omega
    · intro h; exact absurd h.1 q
theorem WK_10 {w : Int} : WKD w = 10 ↔ w = 217608926265 := by
  rw [WKD_d]
  constructor
  · intro h
    repeat' (split at h)
    all_goals first | assumption | exact absurd h (by decide)
  · intro h; subst h; rfl
theorem KND_10 {T : Int → Int} {z y : Int} : KND T z y = 10 ↔ tkS T z y = 2 ∧ tkW T z y = 217608926265 := by
  have t := tkS_R (T := T) (z := z) (y := y)
  unfold KND
  by_cases q : tkS T z y = 2
  · rw [if_pos q, WK_10]
    exact ⟨fun h => ⟨q, h⟩, fun h => h.2⟩
  · rw [if_neg q]
    constructor
    · intro h; split at h <;> omega
    · intro h; exact absurd h.1 q
theorem WK_11 {w : Int} : WKD w = 11 ↔ w = 388708 := by
  rw [WKD_d]
  constructor
  · intro h
    repeat' (split at h)
    all_goals first | assumption | exact absurd h (by decide)
  · intro h; subst h; rfl
theorem KND_11 {T : Int → Int} {z y : Int} : KND T z y = 11 ↔ tkS T z y = 2 ∧ tkW T z y = 388708 := by
  have t := tkS_R (T := T) (z := z) (y := y)
  unfold KND
  by_cases q : tkS T z y = 2
  · rw [if_pos q, WK_11]
    exact ⟨fun h => ⟨q, h⟩, fun h => h.2⟩
  · rw [if_neg q]
    constructor
    · intro h; split at h <;> omega
    · intro h; exact absurd h.1 q
theorem WK_12 {w : Int} : WKD w = 12 ↔ w = 51263325 := by
  rw [WKD_d]
  constructor
  · intro h
    repeat' (split at h)
    all_goals first | assumption | exact absurd h (by decide)
  · intro h; subst h; rfl
theorem KND_12 {T : Int → Int} {z y : Int} : KND T z y = 12 ↔ tkS T z y = 2 ∧ tkW T z y = 51263325 := by
  have t := tkS_R (T := T) (z := z) (y := y)
  unfold KND
  by_cases q : tkS T z y = 2
  · rw [if_pos q, WK_12]
    exact ⟨fun h => ⟨q, h⟩, fun h => h.2⟩
  · rw [if_neg q]
    constructor
    · intro h; split at h <;> omega
    · intro h; exact absurd h.1 q
theorem WK_13 {w : Int} : WKD w = 13 ↔ w = 6129995853 := by
  rw [WKD_d]
  constructor
  · intro h
    repeat' (split at h)
    all_goals first | assumption | exact absurd h (by decide)
  · intro h; subst h; rfl
theorem KND_13 {T : Int → Int} {z y : Int} : KND T z y = 13 ↔ tkS T z y = 2 ∧ tkW T z y = 6129995853 := by
  have t := tkS_R (T := T) (z := z) (y := y)
  unfold KND
  by_cases q : tkS T z y = 2
  · rw [if_pos q, WK_13]
    exact ⟨fun h => ⟨q, h⟩, fun h => h.2⟩
  · rw [if_neg q]
    constructor
    · intro h; split at h <;> omega
    · intro h; exact absurd h.1 q
theorem WK_14 {w : Int} : WKD w = 14 ↔ w = 310284031 := by
  rw [WKD_d]
  constructor
  · intro h
    repeat' (split at h)
    all_goals first | assumption | exact absurd h (by decide)
  · intro h; subst h; rfl
theorem KND_14 {T : Int → Int} {z y : Int} : KND T z y = 14 ↔ tkS T z y = 2 ∧ tkW T z y = 310284031 := by
  have t := tkS_R (T := T) (z := z) (y := y)
  unfold KND
  by_cases q : tkS T z y = 2
  · rw [if_pos q, WK_14]
    exact ⟨fun h => ⟨q, h⟩, fun h => h.2⟩
  · rw [if_neg q]
    constructor
    · intro h; split at h <;> omega
    · intro h; exact absurd h.1 q
theorem WK_15 {w : Int} : WKD w = 15 ↔ w = 1420859 := by
  rw [WKD_d]
  constructor
  · intro h
    repeat' (split at h)
    all_goals first | assumption | exact absurd h (by decide)
  · intro h; subst h; rfl
theorem KND_15 {T : Int → Int} {z y : Int} : KND T z y = 15 ↔ tkS T z y = 2 ∧ tkW T z y = 1420859 := by
  have t := tkS_R (T := T) (z := z) (y := y)
  unfold KND
  by_cases q : tkS T z y = 2
  · rw [if_pos q, WK_15]
    exact ⟨fun h => ⟨q, h⟩, fun h => h.2⟩
  · rw [if_neg q]
    constructor
    · intro h; split at h <;> omega
    · intro h; exact absurd h.1 q
/-- the reference's reader stands at the token that comes at y -/
def MT (T : Int → Int) (z y b4 b5 b6 b7 b10 : Int) : Prop := (0 ≤ y ∧ y ≤ z) ∧ b4 = tkB T z y ∧ b5 = tkP T z y ∧ b6 = tkS T z y ∧ (b6 = 2 → b10 = tkW T z y) ∧ (b6 = 3 → b7 = tkN T z y)
theorem MT_R {T : Int → Int} {z y b4 b5 b6 b7 b10 : Int} (h : MT T z y b4 b5 b6 b7 b10) (hz : z ≤ 640) (hT : ∀ j : Int, 0 ≤ j → j < 640 → 0 ≤ T j ∧ T j ≤ 255) : (0 ≤ b4 ∧ b4 ≤ z ∧ 0 ≤ b5 ∧ b5 ≤ 640 ∧ 0 ≤ b6 ∧ b6 ≤ 4) ∧ (b6 = 3 → 0 ≤ b7 ∧ b7 ≤ 99999) ∧ (b6 = 2 → -9223372036854775808 ≤ b10 ∧ b10 < 9223372036854775808) := by
  obtain ⟨h0, h1, h2, h3, h4, h5⟩ := h
  have a1 := tkB_R (T := T) h0
  have a2 := tkP_R (T := T) h0
  have a3 := tkS_R (T := T) (z := z) (y := y)
  refine ⟨by omega, fun q => ?_, fun q => ?_⟩
  · have := tkN_R (T := T) (z := z) (y := y) (by omega)
    have := h5 q
    omega
  · have := tkW_R (T := T) (z := z) (y := y) ⟨h0.1, h0.2, hz⟩ hT
    have := h4 q
    omega
theorem MT_go {T : Int → Int} {z y b4 b5 b6 b7 b10 c4 c5 c6 c7 c10 : Int} (h : MT T z y b4 b5 b6 b7 b10) (g : c4 = tkB T z b4 ∧ c5 = tkP T z b4 ∧ c6 = tkS T z b4 ∧ (c6 = 2 → c10 = tkW T z b4) ∧ (c6 = 3 → c7 = tkN T z b4)) : MT T z (tkB T z y) c4 c5 c6 c7 c10 := by
  have a1 := tkB_R (T := T) h.1
  rw [← h.2.1] at a1 ⊢
  exact ⟨⟨by have := h.1; omega, a1.2.1⟩, g⟩
abbrev PR : Type := Int × Int × (Int → Int)
def bnd (r : PR) (k : Int → (Int → Int) → PR) : PR := if r.1 = 0 then k r.2.1 r.2.2 else r
theorem bnd_0 {f y : Int} {N : Int → Int} {k : Int → (Int → Int) → PR} (h : f = 0) : bnd (f, y, N) k = k y N := if_pos h
theorem bnd_1 {f y : Int} {N : Int → Int} {k : Int → (Int → Int) → PR} (h : ¬ f = 0) : bnd (f, y, N) k = (f, y, N) := if_neg h
/-- a number between lo and hi, told into p -/
def Pnum (T : Int → Int) (z p lo hi y : Int) (N : Int → Int) : PR := if tkS T z y ≠ 3 then (1, y, N) else if tkN T z y < lo ∨ hi < tkN T z y then (2, y, N) else (0, tkB T z y, uI N p (tkN T z y))
theorem Pnum_0 {T : Int → Int} {z p lo hi y f y1 : Int} {N N1 : Int → Int} (h : Pnum T z p lo hi y N = (f, y1, N1)) (hf : f = 0) : tkS T z y = 3 ∧ (lo ≤ tkN T z y ∧ tkN T z y ≤ hi) ∧ y1 = tkB T z y ∧ N1 = uI N p (tkN T z y) := by
  unfold Pnum at h
  split at h
  · have := congrArg Prod.fst h; exact absurd (show (1 : Int) = f from this) (by omega)
  · split at h
    · have := congrArg Prod.fst h; exact absurd (show (2 : Int) = f from this) (by omega)
    · injection h with e1 e2
      injection e2 with e2 e3
      exact ⟨by omega, by omega, e2.symm, e3.symm⟩
theorem Pnum_1 {T : Int → Int} {z p lo hi y f y1 : Int} {N N1 : Int → Int} (h : Pnum T z p lo hi y N = (f, y1, N1)) (hf : ¬ f = 0) : y1 = y ∧ N1 = N ∧ 1 ≤ f ∧ f ≤ 2 := by
  unfold Pnum at h
  split at h
  · injection h with e1 e2
    injection e2 with e2 e3
    exact ⟨e2.symm, e3.symm, by omega, by omega⟩
  · split at h
    · injection h with e1 e2
      injection e2 with e2 e3
      exact ⟨e2.symm, e3.symm, by omega, by omega⟩
    · injection h with e1 e2
      omega
/-- a semicolon -/
def Pend (T : Int → Int) (z y : Int) (N : Int → Int) : PR := if tkS T z y ≠ 4 then (1, y, N) else (0, tkB T z y, N)
/-- a line of an index, behind its word -/
def Pix (T : Int → Int) (z y : Int) (N : Int → Int) : PR := if tkS T z y ≠ 3 then (1, y, N) else if 240 ≤ tkN T z y ∨ 0 < N (3 + tkN T z y) then (2, y, N) else bnd (Pnum T z (3 + tkN T z y) 1 9999 (tkB T z y) N) fun y1 N1 => bnd (Pnum T z (243 + tkN T z y) 0 239 y1 N1) fun y2 N2 => Pend T z y2 N2
/-- a lease's own line, behind its word -/
def Ple (T : Int → Int) (z x y : Int) (N : Int → Int) : PR := bnd (Pnum T z (483 + 500 * x + 0) 0 119 y N) fun y1 N1 => bnd (Pnum T z (483 + 500 * x + 1) 1 120 y1 N1) fun y2 N2 => bnd (Pnum T z (483 + 500 * x + 2) 1 99999 y2 N2) fun y3 N3 => bnd (Pnum T z (483 + 500 * x + 3) 1 60 y3 N3) fun y4 N4 => bnd (Pnum T z (483 + 500 * x + 4) 0 (N4 (483 + 500 * x + 1)) y4 N4) fun y5 N5 => Pend T z y5 (uI N5 2 (N5 2 + 1))
def PB (k : Int) : Int := if k = 8 then 1 else if k = 12 then 2 else if k = 13 then 4 else if k = 14 then 8 else if k = 15 then 16 else 0
def BW (k : Int) : Int := if k = 6 then 1 else if k = 9 then 2 else if k = 10 then 3 else if k = 11 then 4 else 0
def Pby (T : Int → Int) (z x y : Int) (N : Int → Int) : PR := if BW (KND T z y) = 0 then (1, y, N) else if BW (KND T z y) = 2 then (0, tkB T z y, uI N (483 + 500 * x + 5) 2) else Pnum T z (483 + 500 * x + 6) 0 (if BW (KND T z y) = 1 then 12 else 999) (tkB T z y) (uI N (483 + 500 * x + 5) (BW (KND T z y)))
/-- a part behind its word, by the word's kind -/
def Ppt (T : Int → Int) (z x k y : Int) (N : Int → Int) : PR := if k = 8 then Pby T z x y N else if k = 12 then bnd (Pnum T z (483 + 500 * x + 8) 0 999 y N) fun y1 N1 => Pnum T z (483 + 500 * x + 9) 0 999 y1 N1 else if k = 13 then bnd (Pnum T z (483 + 500 * x + 10) 0 999 y N) fun y1 N1 => Pnum T z (483 + 500 * x + 11) 0 999 y1 N1 else if k = 15 then Pnum T z (483 + 500 * x + 12) (N (483 + 500 * x + 0) + 1) (N (483 + 500 * x + 0) + N (483 + 500 * x + 1) - 1) y N else (0, y, N)
def Ppart (T : Int → Int) (z x y : Int) (N : Int → Int) : PR := if zand (N (483 + 500 * x + 7)) (PB (KND T z y)) ≠ 0 then (4, y, N) else bnd (Ppt T z x (KND T z y) (tkB T z y) (uI N (483 + 500 * x + 7) (zor (N (483 + 500 * x + 7)) (PB (KND T z y))))) fun y1 N1 => Pend T z y1 N1
def Pprts (T : Int → Int) (z x : Int) : Nat → Int → (Int → Int) → PR
  | 0, y, N => (0, y, N)
  | n + 1, y, N => if PB (KND T z y) = 0 then (0, y, N) else bnd (Ppart T z x y N) (Pprts T z x n)
def Plss (T : Int → Int) (z : Int) : Nat → Int → (Int → Int) → PR
  | 0, y, N => (0, y, N)
  | n + 1, y, N => if KND T z y ≠ 7 then (0, y, N) else if n = 0 then (3, y, N) else bnd (Ple T z (N 2) (tkB T z y) N) fun y1 N1 => bnd (Pprts T z (N1 2 - 1) 6 y1 N1) (Plss T z n)
def Pixs (T : Int → Int) (z : Int) : Nat → Int → (Int → Int) → PR
  | 0, y, N => (0, y, N)
  | n + 1, y, N => if KND T z y ≠ 6 then (0, y, N) else if n = 0 then (3, y, N) else bnd (Pix T z (tkB T z y) N) (Pixs T z n)
def Pfin (T : Int → Int) (z y : Int) (N : Int → Int) : PR := if KND T z y = 0 then (0, y, N) else (1, y, N)
def Pall (T : Int → Int) (z : Int) (N : Int → Int) : PR := if KND T z 0 ≠ 5 then (1, 0, N) else bnd (Pnum T z 1 0 500 (tkB T z 0) N) fun y1 N1 => bnd (Pend T z y1 N1) fun y2 N2 => bnd (Pixs T z 21 y2 N2) fun y3 N3 => bnd (Plss T z 7 y3 N3) fun y4 N4 => Pfin T z y4 N4
