/-! ===== what the desk is: the numbers of its row N (the model's layout), and what is asked of them ===== -/
def LF (N : Int → Int) (x w : Int) : Int := N (483 + 500 * x + w)
def END (N : Int → Int) (x k : Int) : Int := if 0 < LF N x 13 ∧ LF N x 13 - 1 ≤ k then LF N x 12 else LF N x 0 + LF N x 1
def REV (N : Int → Int) (x : Int) : Int := if LF N x 5 = 0 then 0 else (LF N x 1 - 1).tdiv (LF N x 3)
abbrev isV (N : Int → Int) (m k : Int) : Prop := 0 ≤ m ∧ m ≤ 239 ∧ 0 < N (3 + m) ∧ N (243 + m) ≤ k
/-- the latest month ahead of n with a value that is known in k; -1 -/
def dnv (N : Int → Int) (k : Int) : Nat → Int
  | 0 => -1
  | n + 1 => if isV N (n : Int) k then (n : Int) else dnv N k n
/-- the first month from 240 - j on with a value that is known in k; 240 -/
def upv (N : Int → Int) (k : Int) : Nat → Int
  | 0 => 240
  | j + 1 => if isV N (240 - ((j + 1 : Nat) : Int)) k then 240 - ((j + 1 : Nat) : Int) else upv N k j
def IDX (N : Int → Int) (x k : Int) : Int :=
  if 0 ≤ x ∧ x ≤ 239 then
    if dnv N k (x + 1).toNat < 0 ∨ 240 ≤ upv N k (240 - x).toNat then -1
    else N (3 + dnv N k (x + 1).toNat) + ((N (3 + upv N k (240 - x).toNat) - N (3 + dnv N k (x + 1).toNat)) * (x - dnv N k (x + 1).toNat)).tdiv (upv N k (240 - x).toNat - dnv N k (x + 1).toNat)
  else -1
def BYI (N : Int → Int) (x t k : Int) : Int := if IDX N (LF N x 0 - LF N x 6) k = -1 ∨ IDX N (t - LF N x 6) k = -1 then -1 else (LF N x 2 * IDX N (t - LF N x 6) k).tdiv (IDX N (LF N x 0 - LF N x 6) k)
/-- turnovers of n months from the i-th on, together; -1: one is not known -/
def tsm (N : Int → Int) (x k i : Int) : Nat → Int
  | 0 => 0
  | n + 1 => if tsm N x k i n < 0 then -1 else if LF N x (260 + (i + (n : Int))) = 0 ∨ k < LF N x (380 + (i + (n : Int))) then -1 else tsm N x k i n + (LF N x (260 + (i + (n : Int))) - 1)
def BYT (N : Int → Int) (x r k : Int) : Int :=
  if tsm N x k ((r - 1) * LF N x 3) (LF N x 3).toNat < 0 then -1
  else if ((tsm N x k ((r - 1) * LF N x 3) (LF N x 3).toNat * LF N x 6).tdiv 1000).tdiv (LF N x 3) < LF N x 2 then LF N x 2
  else ((tsm N x k ((r - 1) * LF N x 3) (LF N x 3).toNat * LF N x 6).tdiv 1000).tdiv (LF N x 3)
def WNT (N : Int → Int) (x k was r : Int) : Int :=
  if LF N x 5 = 1 then BYI N x (LF N x 0 + r * LF N x 3) k
  else if LF N x 5 = 2 then (if 0 < LF N x (20 + r) ∧ LF N x (140 + r) ≤ k then LF N x (20 + r) else -1)
  else if LF N x 5 = 3 then BYT N x r k
  else (was * (1000 + LF N x 6)).tdiv 1000
def clampZ (v lo hi : Int) : Int := if v < lo then lo else if hi < v then hi else v
def HLD1 (N : Int → Int) (x w was : Int) : Int := if zand (LF N x 7) 2 ≠ 0 then clampZ w ((was * (1000 - LF N x 8)).tdiv 1000) ((was * (1000 + LF N x 9)).tdiv 1000) else w
def HLD2 (N : Int → Int) (x v lo hi : Int) : Int := if zand (LF N x 7) 4 ≠ 0 then clampZ v lo hi else v
def HLD3 (N : Int → Int) (x v was : Int) : Int := if zand (LF N x 7) 8 ≠ 0 ∧ v < was then was else v
def HLD (N : Int → Int) (x w was lo hi : Int) : Int := clampZ (HLD3 N x (HLD2 N x (HLD1 N x w was) lo hi) was) 1 999999
def LST (N : Int → Int) (x : Int) : Nat → Int
  | 0 => LF N x 2
  | r + 1 => (LST N x r * (1000 - LF N x 10)).tdiv 1000
def MST (N : Int → Int) (x : Int) : Nat → Int
  | 0 => LF N x 2
  | r + 1 => if 999999 < (MST N x r * (1000 + LF N x 11)).tdiv 1000 then 999999 else (MST N x r * (1000 + LF N x 11)).tdiv 1000
def RNT (N : Int → Int) (x k : Int) : Nat → Int
  | 0 => LF N x 2
  | r + 1 => if WNT N x k (RNT N x k r) ((r + 1 : Nat) : Int) = -1 then RNT N x k r else HLD N x (WNT N x k (RNT N x k r) ((r + 1 : Nat) : Int)) (RNT N x k r) (LST N x (r + 1)) (MST N x (r + 1))
/-- which review's rent a month has -/
def RVW (N : Int → Int) (x m : Int) : Int := if REV N x < (m - LF N x 0).tdiv (LF N x 3) then REV N x else (m - LF N x 0).tdiv (LF N x 3)
def RNTm (N : Int → Int) (x k m : Int) : Int := RNT N x k (RVW N x m).toNat
def DUE (N : Int → Int) (x k m : Int) : Int := if m < LF N x 0 + LF N x 4 then 0 else RNTm N x k m
/-- f over n whole numbers from i on, together -/
def SUM (f : Int → Int) (i : Int) : Nat → Int
  | 0 => 0
  | n + 1 => SUM f i n + f (i + (n : Int))
def TRU (N : Int → Int) (x k : Int) (m : Int) : Int := DUE N x k m - DUE N x (k - 1) m
def INTR (N : Int → Int) (x k : Int) (m : Int) : Int := (TRU N x k m * N 1 * (k - m)).tdiv 12000
/-- how many months ahead of k are of the lease -/
def AHD (N : Int → Int) (x k : Int) : Int := if END N x k < k then END N x k else k
def TRUED (N : Int → Int) (x k : Int) : Int := SUM (TRU N x k) (LF N x 0) (AHD N x k - LF N x 0).toNat
def INTED (N : Int → Int) (x k : Int) : Int := SUM (INTR N x k) (LF N x 0) (AHD N x k - LF N x 0).toNat
def ALLD (N : Int → Int) (x m : Int) : Int := SUM (DUE N x m) (LF N x 0) (END N x m - LF N x 0).toNat
def SPR1 (N : Int → Int) (x m g : Int) : Int := if m < END N x m then (ALLD N x m - g).tdiv (END N x m - m) else 0
/-- spreads of the first i months, together -/
def TOG (N : Int → Int) (x : Int) : Nat → Int
  | 0 => 0
  | i + 1 => TOG N x i + SPR1 N x (LF N x 0 + (i : Int)) (TOG N x i)
def SPR (N : Int → Int) (x m : Int) : Int := SPR1 N x m (TOG N x (m - LF N x 0).toNat)
/-- how many months have values -/
def CNTV (N : Int → Int) : Nat → Int
  | 0 => 0
  | n + 1 => CNTV N n + bI (0 < N (3 + (n : Int)))
/-! the desk is as it must be -/
def WFv (N : Int → Int) : Prop := ∀ m : Int, 0 ≤ m → m ≤ 239 → 0 ≤ N (3 + m) ∧ N (3 + m) ≤ 9999 ∧ 0 ≤ N (243 + m) ∧ N (243 + m) ≤ 239 ∧ (N (3 + m) = 0 → N (243 + m) = 0)
def WFl (N : Int → Int) (x : Int) : Prop :=
  (0 ≤ LF N x 0 ∧ LF N x 0 ≤ 119) ∧ (1 ≤ LF N x 1 ∧ LF N x 1 ≤ 120) ∧ (1 ≤ LF N x 2 ∧ LF N x 2 ≤ 99999) ∧ (1 ≤ LF N x 3 ∧ LF N x 3 ≤ 60) ∧ (0 ≤ LF N x 4 ∧ LF N x 4 ≤ LF N x 1) ∧ (0 ≤ LF N x 5 ∧ LF N x 5 ≤ 4) ∧ (0 ≤ LF N x 6 ∧ LF N x 6 ≤ 999) ∧ (0 ≤ LF N x 7 ∧ LF N x 7 ≤ 31) ∧
  (0 ≤ LF N x 8 ∧ LF N x 8 ≤ 999) ∧ (0 ≤ LF N x 9 ∧ LF N x 9 ≤ 999) ∧ (0 ≤ LF N x 10 ∧ LF N x 10 ≤ 999) ∧ (0 ≤ LF N x 11 ∧ LF N x 11 ≤ 999) ∧ (0 ≤ LF N x 12 ∧ LF N x 12 ≤ 239) ∧ (0 ≤ LF N x 13 ∧ LF N x 13 ≤ 240) ∧ (0 < LF N x 13 → LF N x 0 < LF N x 12 ∧ LF N x 12 < LF N x 0 + LF N x 1) ∧ (LF N x 5 = 1 → LF N x 6 ≤ 12)
def WFt (N : Int → Int) (x : Int) : Prop := ∀ i : Int, 0 ≤ i → i ≤ 119 → (0 ≤ LF N x (20 + i) ∧ LF N x (20 + i) ≤ 99999) ∧ (0 ≤ LF N x (140 + i) ∧ LF N x (140 + i) ≤ 239) ∧ (0 ≤ LF N x (260 + i) ∧ LF N x (260 + i) ≤ 1000000) ∧ (0 ≤ LF N x (380 + i) ∧ LF N x (380 + i) ≤ 239)
def WF (N : Int → Int) : Prop := (0 ≤ N 0 ∧ N 0 ≤ 239) ∧ (0 ≤ N 1 ∧ N 1 ≤ 500) ∧ (0 ≤ N 2 ∧ N 2 ≤ 6) ∧ WFv N ∧ ∀ x : Int, 0 ≤ x → x < N 2 → WFl N x ∧ WFt N x
/-! ===== numbers ===== -/
theorem mul_R {p q P Q : Int} (h1 : -P ≤ p ∧ p ≤ P) (h2 : 0 ≤ q ∧ q ≤ Q) : -(P * Q) ≤ p * q ∧ p * q ≤ P * Q := by
  have hP : 0 ≤ P := by omega
  have a1 : p * q ≤ P * q := Int.mul_le_mul_of_nonneg_right h1.2 h2.1
  have a2 : P * q ≤ P * Q := Int.mul_le_mul_of_nonneg_left h2.2 hP
  have a3 : -P * q ≤ p * q := Int.mul_le_mul_of_nonneg_right h1.1 h2.1
  have a4 : -P * q = -(P * q) := Int.neg_mul P q
  omega
theorem mul_P {p q P Q : Int} (h1 : 0 ≤ p ∧ p ≤ P) (h2 : 0 ≤ q ∧ q ≤ Q) : 0 ≤ p * q ∧ p * q ≤ P * Q := by
  have hP : 0 ≤ P := by omega
  have a0 : 0 ≤ p * q := Int.mul_nonneg h1.1 h2.1
  have a1 : p * q ≤ P * q := Int.mul_le_mul_of_nonneg_right h1.2 h2.1
  have a2 : P * q ≤ P * Q := Int.mul_le_mul_of_nonneg_left h2.2 hP
  omega
theorem tdiv_P {a b : Int} (ha : 0 ≤ a) (hb : 0 < b) : 0 ≤ a.tdiv b ∧ a.tdiv b ≤ a ∧ a.tdiv b = a / b := by
  have h1 : a.tdiv b = a / b := Int.tdiv_eq_ediv_of_nonneg ha
  rw [h1]
  refine ⟨Int.ediv_nonneg ha (Int.le_of_lt hb), ?_, rfl⟩
  exact Int.ediv_le_self b ha
theorem tdiv_R {a b M : Int} (h : -M ≤ a ∧ a ≤ M) : -M ≤ a.tdiv b ∧ a.tdiv b ≤ M := by
  have h1 : (a.tdiv b).natAbs ≤ a.natAbs := by rw [Int.natAbs_tdiv]; exact Nat.div_le_self _ _
  omega
/-- thousandths of an amount -/
theorem thou_P {a f : Int} (ha : 0 ≤ a ∧ a ≤ 999999) (hf : 0 ≤ f ∧ f ≤ 1999) : 0 ≤ (a * f).tdiv 1000 ∧ (a * f).tdiv 1000 ≤ 1998999 ∧ (0 ≤ a * f ∧ a * f ≤ 1998998001) := by
  have h := mul_P (P := 999999) (Q := 1999) ha hf
  have h2 := tdiv_P (b := 1000) h.1 (by decide)
  omega
theorem clampZ_R {v lo hi a b : Int} (h1 : a ≤ v ∧ v ≤ b) (h2 : a ≤ lo ∧ lo ≤ b) (h3 : a ≤ hi ∧ hi ≤ b) : a ≤ clampZ v lo hi ∧ clampZ v lo hi ≤ b := by
  unfold clampZ
  split
  · exact h2
  · split
    · exact h3
    · exact h1
/-! ===== the index ===== -/
theorem dnv_eq {N : Int → Int} {k : Int} : ∀ (n : Nat) (a : Int), -1 ≤ a → a < n → (∀ j : Int, a < j → j < n → ¬ isV N j k) → (a = -1 ∨ isV N a k) → dnv N k n = a := by
  intro n
  induction n with
  | zero => intro a h1 h2 _ _; show (-1 : Int) = a; omega
  | succ n ih =>
    intro a h1 h2 h3 h4
    show (if isV N (n : Int) k then (n : Int) else dnv N k n) = a
    by_cases h : a = n
    · subst h
      rw [if_pos]
      rcases h4 with h4 | h4
      · omega
      · exact h4
    · rw [if_neg (h3 n (by omega) (by omega))]
      exact ih a h1 (by omega) (fun j hj1 hj2 => h3 j hj1 (by omega)) h4
theorem upv_eq {N : Int → Int} {k : Int} : ∀ (j : Nat) (b : Int), j ≤ 240 → b ≤ 240 → 240 - (j : Int) ≤ b → (∀ i : Int, 240 - (j : Int) ≤ i → i < b → ¬ isV N i k) → (b = 240 ∨ isV N b k) → upv N k j = b := by
  intro j
  induction j with
  | zero => intro b _ h1 h2 _ _; show (240 : Int) = b; omega
  | succ j ih =>
    intro b hj h1 h2 h3 h4
    show (if isV N (240 - ((j + 1 : Nat) : Int)) k then 240 - ((j + 1 : Nat) : Int) else upv N k j) = b
    by_cases h : b = 240 - ((j + 1 : Nat) : Int)
    · rw [if_pos]
      · exact h.symm
      · rcases h4 with h4 | h4
        · omega
        · rw [← h]; exact h4
    · rw [if_neg (h3 _ (Int.le_refl _) (by omega))]
      exact ih b (by omega) h1 (by omega) (fun i hi1 hi2 => h3 i (by omega) hi2) h4
theorem IDX_of {N : Int → Int} {x k a b : Int} (hx : 0 ≤ x ∧ x ≤ 239) (ha : -1 ≤ a ∧ a ≤ x) (ha2 : ∀ j : Int, a < j → j ≤ x → ¬ isV N j k) (ha3 : a = -1 ∨ isV N a k) (hb : x ≤ b ∧ b ≤ 240) (hb2 : ∀ j : Int, x ≤ j → j < b → ¬ isV N j k) (hb3 : b = 240 ∨ isV N b k) :
    IDX N x k = if a < 0 ∨ 240 ≤ b then -1 else N (3 + a) + ((N (3 + b) - N (3 + a)) * (x - a)).tdiv (b - a) := by
  have h1 : dnv N k (x + 1).toNat = a := dnv_eq _ a ha.1 (by omega) (fun j h1 h2 => ha2 j h1 (by omega)) ha3
  have h2 : upv N k (240 - x).toNat = b := upv_eq _ b (by omega) hb.2 (by omega) (fun j h1 h2 => hb2 j (by omega) h2) hb3
  unfold IDX
  rw [if_pos hx, h1, h2]
theorem IDX_self {N : Int → Int} {x k : Int} (h : isV N x k) : IDX N x k = N (3 + x) := by
  rw [IDX_of (a := x) (b := x) ⟨h.1, h.2.1⟩ ⟨by have := h.1; omega, Int.le_refl _⟩ (fun j h1 h2 => by omega) (Or.inr h) ⟨Int.le_refl _, by have := h.2.1; omega⟩ (fun j h1 h2 => by omega) (Or.inr h)]
  rw [if_neg (by have := h.1; have := h.2.1; omega)]
  simp
theorem IDX_out {N : Int → Int} {x k : Int} (h : x < 0 ∨ 239 < x) : IDX N x k = -1 := by
  unfold IDX
  rw [if_neg (by omega)]
/-- between two values -/
theorem interp {d u w : Int} (hu : 0 ≤ u ∧ u ≤ w) (hw : 0 < w) : (0 ≤ d → 0 ≤ (d * u).tdiv w ∧ (d * u).tdiv w ≤ d) ∧ (d ≤ 0 → d ≤ (d * u).tdiv w ∧ (d * u).tdiv w ≤ 0) := by
  have key : ∀ n : Int, 0 ≤ n → 0 ≤ (n * u).tdiv w ∧ (n * u).tdiv w ≤ n := by
    intro n hn
    have h0 : 0 ≤ n * u := Int.mul_nonneg hn hu.1
    have h1 : n * u ≤ n * w := Int.mul_le_mul_of_nonneg_left hu.2 hn
    have h2 := tdiv_P h0 hw
    refine ⟨h2.1, ?_⟩
    rw [h2.2.2]
    have h3 : n * u / w ≤ n * w / w := Int.ediv_le_ediv hw h1
    rwa [Int.mul_ediv_cancel _ (by omega)] at h3
  refine ⟨key d, fun hd => ?_⟩
  have h := key (-d) (by omega)
  have e : (d * u).tdiv w = -((-d * u).tdiv w) := by
    rw [show d * u = -(-d * u) by rw [Int.neg_mul, Int.neg_neg], Int.neg_tdiv]
  omega
theorem IDX_R {N : Int → Int} (hV : WFv N) (x k : Int) : IDX N x k = -1 ∨ (1 ≤ IDX N x k ∧ IDX N x k ≤ 9999) := by
  by_cases hx : 0 ≤ x ∧ x ≤ 239
  · have hd : ∀ n : Nat, n ≤ 240 → (dnv N k n = -1 ∨ (isV N (dnv N k n) k ∧ dnv N k n < n)) := by
      intro n
      induction n with
      | zero => intro _; exact Or.inl rfl
      | succ n ih =>
        intro hn
        have e : dnv N k (n + 1) = if isV N (n : Int) k then (n : Int) else dnv N k n := rfl
        by_cases h : isV N (n : Int) k
        · rw [e, if_pos h]; exact Or.inr ⟨h, by omega⟩
        · rw [e, if_neg h]
          rcases ih (by omega) with h1 | h1
          · exact Or.inl h1
          · exact Or.inr ⟨h1.1, by omega⟩
    have hu : ∀ j : Nat, j ≤ 240 → (upv N k j = 240 ∨ (isV N (upv N k j) k ∧ 240 - (j : Int) ≤ upv N k j)) := by
      intro j
      induction j with
      | zero => intro _; exact Or.inl rfl
      | succ j ih =>
        intro hj
        have e : upv N k (j + 1) = if isV N (240 - ((j + 1 : Nat) : Int)) k then 240 - ((j + 1 : Nat) : Int) else upv N k j := rfl
        by_cases h : isV N (240 - ((j + 1 : Nat) : Int)) k
        · rw [e, if_pos h]; exact Or.inr ⟨h, by omega⟩
        · rw [e, if_neg h]
          rcases ih (by omega) with h1 | h1
          · exact Or.inl h1
          · exact Or.inr ⟨h1.1, by omega⟩
    have h1 := hd (x + 1).toNat (by omega)
    have h2 := hu (240 - x).toNat (by omega)
    unfold IDX
    rw [if_pos hx]
    generalize dnv N k (x + 1).toNat = a at *
    generalize upv N k (240 - x).toNat = b at *
    by_cases hc : a < 0 ∨ 240 ≤ b
    · rw [if_pos hc]; exact Or.inl rfl
    · rw [if_neg hc]
      right
      have ha : isV N a k ∧ a < ((x + 1).toNat : Int) := by
        rcases h1 with h | h
        · omega
        · exact h
      have hb : isV N b k ∧ 240 - ((240 - x).toNat : Int) ≤ b := by
        rcases h2 with h | h
        · omega
        · exact h
      have va := hV a ha.1.1 ha.1.2.1
      have vb := hV b hb.1.1 hb.1.2.1
      have pa := ha.1.2.2.1
      have pb := hb.1.2.2.1
      by_cases hab : a = b
      · subst hab
        simp
        omega
      · have hi := interp (d := N (3 + b) - N (3 + a)) (u := x - a) (w := b - a) ⟨by omega, by omega⟩ (by omega)
        by_cases hs : 0 ≤ N (3 + b) - N (3 + a)
        · have := hi.1 hs; omega
        · have := hi.2 (by omega); omega
  · left; exact IDX_out (by omega)
theorem BYI_R {N : Int → Int} (hV : WFv N) {x t k : Int} (hr : 1 ≤ LF N x 2 ∧ LF N x 2 ≤ 99999) : -1 ≤ BYI N x t k ∧ BYI N x t k ≤ 999890001 := by
  unfold BYI
  split
  · decide
  · rename_i h
    have h1 := IDX_R hV (LF N x 0 - LF N x 6) k
    have h2 := IDX_R hV (t - LF N x 6) k
    have h3 := mul_P (p := LF N x 2) (q := IDX N (t - LF N x 6) k) (P := 99999) (Q := 9999) (by omega) (by omega)
    have h4 := tdiv_P (b := IDX N (LF N x 0 - LF N x 6) k) h3.1 (by omega)
    omega
theorem tsm_neg {N : Int → Int} {x k i : Int} {n : Nat} (h : tsm N x k i n < 0) : ∀ m : Nat, tsm N x k i (n + m) < 0 := by
  intro m
  induction m with
  | zero => exact h
  | succ m ih =>
    show tsm N x k i (n + m + 1) < 0
    unfold tsm
    rw [if_pos ih]
    decide
theorem tsm_R {N : Int → Int} {x k i : Int} (hT : WFt N x) (hi : 0 ≤ i) : ∀ n : Nat, i + (n : Int) ≤ 120 → -1 ≤ tsm N x k i n ∧ tsm N x k i n ≤ 1000000 * (n : Int) := by
  intro n
  induction n with
  | zero => intro _; show -1 ≤ (0 : Int) ∧ (0 : Int) ≤ _; omega
  | succ n ih =>
    intro hn
    have h := ih (by omega)
    have ht := hT (i + n) (by omega) (by omega)
    unfold tsm
    split
    · omega
    · split
      · omega
      · omega
theorem BYT_R {N : Int → Int} {x r k : Int} (hL : WFl N x) (hT : WFt N x) (hr : 1 ≤ r) (hr2 : r * LF N x 3 ≤ 119) : -1 ≤ BYT N x r k ∧ BYT N x r k ≤ 999890001 := by
  obtain ⟨h0, h1, h2, h3, h4, h5, h6, -⟩ := hL
  have he : (r - 1) * LF N x 3 = r * LF N x 3 - LF N x 3 := by rw [Int.sub_mul, Int.one_mul]
  have hi : 0 ≤ (r - 1) * LF N x 3 := Int.mul_nonneg (by omega) (by omega)
  have ht := tsm_R (k := k) hT hi (LF N x 3).toNat (by omega)
  unfold BYT
  split
  · decide
  · rename_i hn
    have hm := mul_P (p := tsm N x k ((r - 1) * LF N x 3) (LF N x 3).toNat) (q := LF N x 6) (P := 60000000) (Q := 999) (by omega) (by omega)
    have hd := tdiv_P (b := 1000) hm.1 (by decide)
    have hd2 := tdiv_P (b := LF N x 3) hd.1 (by omega)
    split
    · omega
    · omega
theorem LST_R {N : Int → Int} {x : Int} (hL : WFl N x) : ∀ n : Nat, 0 ≤ LST N x n ∧ LST N x n ≤ LF N x 2 := by
  obtain ⟨h0, h1, h2, h3, h4, h5, h6, h7, h8, h9, h10, h11, -⟩ := hL
  intro n
  induction n with
  | zero => show 0 ≤ LF N x 2 ∧ LF N x 2 ≤ LF N x 2; omega
  | succ n ih =>
    show 0 ≤ (LST N x n * (1000 - LF N x 10)).tdiv 1000 ∧ (LST N x n * (1000 - LF N x 10)).tdiv 1000 ≤ LF N x 2
    have hm : 0 ≤ LST N x n * (1000 - LF N x 10) := Int.mul_nonneg ih.1 (by omega)
    have hm2 : LST N x n * (1000 - LF N x 10) ≤ LST N x n * 1000 := Int.mul_le_mul_of_nonneg_left (by omega) ih.1
    have hd := tdiv_P (b := 1000) hm (by decide)
    omega
theorem MST_R {N : Int → Int} {x : Int} (hL : WFl N x) : ∀ n : Nat, LF N x 2 ≤ MST N x n ∧ MST N x n ≤ 999999 := by
  obtain ⟨h0, h1, h2, h3, h4, h5, h6, h7, h8, h9, h10, h11, -⟩ := hL
  intro n
  induction n with
  | zero => show LF N x 2 ≤ LF N x 2 ∧ LF N x 2 ≤ 999999; omega
  | succ n ih =>
    unfold MST
    have hm2 : MST N x n * 1000 ≤ MST N x n * (1000 + LF N x 11) := Int.mul_le_mul_of_nonneg_left (by omega) (by omega)
    have hd := tdiv_P (a := MST N x n * (1000 + LF N x 11)) (b := 1000) (by omega) (by decide)
    split <;> omega
theorem RNT_R {N : Int → Int} {x k : Int} (hL : WFl N x) : ∀ n : Nat, 1 ≤ RNT N x k n ∧ RNT N x k n ≤ 999999 := by
  obtain ⟨h0, h1, h2, -⟩ := hL
  intro n
  induction n with
  | zero => show 1 ≤ LF N x 2 ∧ LF N x 2 ≤ 999999; omega
  | succ n ih =>
    unfold RNT
    split
    · exact ih
    · unfold HLD
      generalize HLD3 N x _ _ = v
      unfold clampZ
      split
      · decide
      · split
        · decide
        · omega
theorem REV_R {N : Int → Int} {x : Int} (hL : WFl N x) : 0 ≤ REV N x ∧ REV N x ≤ 119 ∧ REV N x * LF N x 3 ≤ LF N x 1 - 1 := by
  obtain ⟨h0, h1, h2, h3, h4, h5, -⟩ := hL
  unfold REV
  split
  · omega
  · have hd := tdiv_P (a := LF N x 1 - 1) (b := LF N x 3) (by omega) (by omega)
    refine ⟨hd.1, by omega, ?_⟩
    rw [hd.2.2]
    exact Int.ediv_mul_le _ (by omega)
theorem WNT_R {N : Int → Int} {x k was r : Int} (hV : WFv N) (hL : WFl N x) (hT : WFt N x) (hw : 1 ≤ was ∧ was ≤ 999999) (hr : 1 ≤ r) (hr2 : r ≤ REV N x) : -1 ≤ WNT N x k was r ∧ WNT N x k was r ≤ 999890001 := by
  have hR := REV_R hL
  have hL' := hL
  obtain ⟨h0, h1, h2, h3, h4, h5, h6, -⟩ := hL
  have hr3 : r * LF N x 3 ≤ REV N x * LF N x 3 := Int.mul_le_mul_of_nonneg_right hr2 (by omega)
  unfold WNT
  split
  · exact BYI_R hV h2
  · split
    · split
      · have := hT r (by omega) (by omega); omega
      · decide
    · split
      · exact BYT_R hL' hT hr (by omega)
      · have := thou_P (a := was) (f := 1000 + LF N x 6) (by omega) (by omega)
        omega
