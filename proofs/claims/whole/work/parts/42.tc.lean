/-! the text: tokens -/
abbrev isBk (z : Int) : Prop := z = 32 ∨ z = 10
/-- behind the blanks from y on, n steps at most -/
def SKP (T : Int → Int) (z y : Int) : Nat → Int
  | 0 => y
  | n + 1 => if y < z ∧ isBk (T y) then SKP T z (y + 1) n else y
def SK (T : Int → Int) (z y : Int) : Int := SKP T z y (z - y).toNat
theorem SK_go {T : Int → Int} {z y : Int} (h : y < z ∧ isBk (T y)) : SK T z y = SK T z (y + 1) := by
  unfold SK
  rw [show (z - y).toNat = (z - (y + 1)).toNat + 1 by omega]
  exact if_pos h
theorem SK_end {T : Int → Int} {z y : Int} (h : ¬ (y < z ∧ isBk (T y))) : SK T z y = y := by
  unfold SK
  cases (z - y).toNat with
  | zero => rfl
  | succ n => exact if_neg h
theorem SKP_R {T : Int → Int} {z : Int} : ∀ (n : Nat) (y : Int), y ≤ SKP T z y n ∧ (SKP T z y n ≤ z ∨ SKP T z y n = y) := by
  intro n
  induction n with
  | zero => intro y; exact ⟨Int.le_refl _, Or.inr rfl⟩
  | succ n ih =>
    intro y
    show y ≤ (if y < z ∧ isBk (T y) then SKP T z (y + 1) n else y) ∧ ((if y < z ∧ isBk (T y) then SKP T z (y + 1) n else y) ≤ z ∨ (if y < z ∧ isBk (T y) then SKP T z (y + 1) n else y) = y)
    have t := ih (y + 1)
    split <;> omega
theorem SK_R {T : Int → Int} {z y : Int} : y ≤ SK T z y ∧ (SK T z y ≤ z ∨ SK T z y = y) := SKP_R _ _
/-- how many letters are among n signs from y on -/
def LC (T : Int → Int) (y : Int) (n : Nat) : Int := SUM (fun j => bI (isLt (T j))) y n
theorem LC_s {T : Int → Int} {y : Int} {n : Nat} : LC T y (n + 1) = LC T y n + bI (isLt (T (y + (n : Int)))) := rfl
theorem LC_R {T : Int → Int} {y : Int} : ∀ n : Nat, 0 ≤ LC T y n ∧ LC T y n ≤ n := by
  intro n
  induction n with
  | zero => show 0 ≤ (0 : Int) ∧ (0 : Int) ≤ _; omega
  | succ n ih =>
    rw [LC_s]
    unfold bI
    split <;> omega
/-- the first nine letters of a word as one number -/
def WRD (T : Int → Int) (y : Int) : Nat → Int
  | 0 => 0
  | n + 1 => if n < 9 then 27 * WRD T y n + T (y + (n : Int)) - 96 else WRD T y n
/-- the first five digits of a number -/
def NUM (T : Int → Int) (y : Int) : Nat → Int
  | 0 => 0
  | n + 1 => if n < 5 then 10 * NUM T y n + T (y + (n : Int)) - 48 else NUM T y n
/-- the sort of a run of n signs from y on: 2 a word, 3 a number, 1 neither -/
def SRT (T : Int → Int) (y : Int) (n : Nat) : Int := if LC T y n = n then 2 else if LC T y n = 0 ∧ n ≤ 5 then 3 else 1
/-- the token that comes at y, in a tape of z bytes: its place, its sort (0 end, 1 none, 2 word, 3 number, 4 semicolon), what is behind it -/
def tkP (T : Int → Int) (z y : Int) : Int := if 600 < z ∧ 600 ≤ SK T z y then 600 else SK T z y
def tkS (T : Int → Int) (z y : Int) : Int := if 600 < z ∧ 600 ≤ SK T z y then 1 else if z ≤ SK T z y then 0 else if isLt (T (SK T z y)) ∨ isDg (T (SK T z y)) then SRT T (SK T z y) (BHD T z (SK T z y) - SK T z y).toNat else if T (SK T z y) = 59 then 4 else 1
def tkB (T : Int → Int) (z y : Int) : Int := if (600 < z ∧ 600 ≤ SK T z y) ∨ z ≤ SK T z y then SK T z y else if isLt (T (SK T z y)) ∨ isDg (T (SK T z y)) then BHD T z (SK T z y) else SK T z y + 1
/-- the word's number and the number, of a token that is a run -/
def tkW (T : Int → Int) (z y : Int) : Int := WRD T (SK T z y) (BHD T z (SK T z y) - SK T z y).toNat
def tkN (T : Int → Int) (z y : Int) : Int := NUM T (SK T z y) (BHD T z (SK T z y) - SK T z y).toNat
theorem pow_1 {b : Int} (hb9 : 1 ≤ b) : ∀ k : Nat, (1 : Int) ≤ b ^ k := by
  intro k
  induction k with
  | zero => rw [Int.pow_zero]; exact Int.le_refl 1
  | succ k i9 =>
    rw [Int.pow_succ]
    have := Int.mul_le_mul i9 hb9 (by decide) (by omega)
    omega
theorem WRD_R {T : Int → Int} {y : Int} : ∀ n : Nat, (∀ j : Int, y ≤ j → j < y + (n : Int) → 0 ≤ T j ∧ T j ≤ 255) → -(1000 * 28 ^ (min n 9)) ≤ WRD T y n ∧ WRD T y n ≤ 1000 * 28 ^ (min n 9) := by
  intro n
  induction n with
  | zero => intro _; show -(1000 * 28 ^ (min 0 9)) ≤ (0 : Int) ∧ (0 : Int) ≤ _; decide
  | succ n ih =>
    intro hT
    have ih := ih (fun j j0 j1 => hT j j0 (by omega))
    show -(1000 * 28 ^ (min (n + 1) 9)) ≤ (if n < 9 then 27 * WRD T y n + T (y + (n : Int)) - 96 else WRD T y n) ∧ (if n < 9 then 27 * WRD T y n + T (y + (n : Int)) - 96 else WRD T y n) ≤ 1000 * 28 ^ (min (n + 1) 9)
    have t := hT (y + (n : Int)) (by omega) (by omega)
    by_cases q : n < 9
    · rw [if_pos q, show min (n + 1) 9 = n + 1 by omega]
      rw [show min n 9 = n by omega] at ih
      have e : (28 : Int) ^ (n + 1) = 28 ^ n * 28 := Int.pow_succ 28 n
      have p2 := pow_1 (b := 28) (by decide) n
      omega
    · rw [if_neg q, show min (n + 1) 9 = 9 by omega]
      rw [show min n 9 = 9 by omega] at ih
      exact ih
theorem pow_9 {n : Nat} : (28 : Int) ^ (min n 9) ≤ 10578455953408 := by
  have h : min n 9 = 0 ∨ min n 9 = 1 ∨ min n 9 = 2 ∨ min n 9 = 3 ∨ min n 9 = 4 ∨ min n 9 = 5 ∨ min n 9 = 6 ∨ min n 9 = 7 ∨ min n 9 = 8 ∨ min n 9 = 9 := by omega
  rcases h with h | h | h | h | h | h | h | h | h | h <;> rw [h] <;> decide
/-- a word's number is no long number -/
theorem WRD_L {T : Int → Int} {y : Int} {n : Nat} (hT : ∀ j : Int, y ≤ j → j < y + (n : Int) → 0 ≤ T j ∧ T j ≤ 255) : -10578455953408000 ≤ WRD T y n ∧ WRD T y n ≤ 10578455953408000 := by
  have h := WRD_R n hT
  have q := pow_9 (n := n)
  omega
theorem NUM_R {T : Int → Int} {y : Int} : ∀ n : Nat, (∀ j : Int, y ≤ j → j < y + (n : Int) → 0 ≤ T j ∧ T j ≤ 255) → -(1000 * 11 ^ (min n 5)) ≤ NUM T y n ∧ NUM T y n ≤ 1000 * 11 ^ (min n 5) := by
  intro n
  induction n with
  | zero => intro _; show -(1000 * 11 ^ (min 0 5)) ≤ (0 : Int) ∧ (0 : Int) ≤ _; decide
  | succ n ih =>
    intro hT
    have ih := ih (fun j j0 j1 => hT j j0 (by omega))
    show -(1000 * 11 ^ (min (n + 1) 5)) ≤ (if n < 5 then 10 * NUM T y n + T (y + (n : Int)) - 48 else NUM T y n) ∧ (if n < 5 then 10 * NUM T y n + T (y + (n : Int)) - 48 else NUM T y n) ≤ 1000 * 11 ^ (min (n + 1) 5)
    have t := hT (y + (n : Int)) (by omega) (by omega)
    by_cases q : n < 5
    · rw [if_pos q, show min (n + 1) 5 = n + 1 by omega]
      rw [show min n 5 = n by omega] at ih
      have e : (11 : Int) ^ (n + 1) = 11 ^ n * 11 := Int.pow_succ 11 n
      have p2 := pow_1 (b := 11) (by decide) n
      omega
    · rw [if_neg q, show min (n + 1) 5 = 5 by omega]
      rw [show min n 5 = 5 by omega] at ih
      exact ih
theorem pow_5 {n : Nat} : (11 : Int) ^ (min n 5) ≤ 161051 := by
  have h : min n 5 = 0 ∨ min n 5 = 1 ∨ min n 5 = 2 ∨ min n 5 = 3 ∨ min n 5 = 4 ∨ min n 5 = 5 := by omega
  rcases h with h | h | h | h | h | h <;> rw [h] <;> decide
theorem NUM_L {T : Int → Int} {y : Int} {n : Nat} (hT : ∀ j : Int, y ≤ j → j < y + (n : Int) → 0 ≤ T j ∧ T j ≤ 255) : -161051000 ≤ NUM T y n ∧ NUM T y n ≤ 161051000 := by
  have h := NUM_R n hT
  have q := pow_5 (n := n)
  omega
