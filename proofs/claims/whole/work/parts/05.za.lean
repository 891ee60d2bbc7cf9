/-! ===== whole numbers behind ints and longs ===== -/
def iI (z : Int) : Int32 := Int32.ofInt z
def lI (z : Int) : Int64 := Int64.ofInt z
abbrev R3 (a : Int) : Prop := -2147483648 ≤ a ∧ a < 2147483648
abbrev R6 (a : Int) : Prop := -9223372036854775808 ≤ a ∧ a < 9223372036854775808
/-- an int array's contents -/
def aI (f : Int → Int) : Nat → Int32 := fun j => iI (f (j : Int))
/-- a long array's contents -/
def aL (f : Int → Int) : Nat → Int64 := fun j => lI (f (j : Int))
/-- one place of a row written -/
def uI (f : Int → Int) (i z : Int) : Int → Int := fun j => if j = i then z else f j
/-- one slot of an object written -/
def uV (v : Nat → Int) (k : Nat) (z : Int) : Nat → Int := fun j => if j = k then z else v j
/-- one row of an object written -/
def uA (a : Nat → Int → Int) (k : Nat) (f : Int → Int) : Nat → Int → Int := fun j => if j = k then f else a j
def bI (P : Prop) [Decidable P] : Int := if P then 1 else 0
theorem bI_t {P : Prop} [Decidable P] (h : P) : bI P = 1 := if_pos h
theorem bI_f {P : Prop} [Decidable P] (h : ¬ P) : bI P = 0 := if_neg h
theorem bI_R {P : Prop} [Decidable P] : R3 (bI P) := by unfold bI; split <;> decide
theorem iI_toInt {a : Int} (h : R3 a) : (iI a).toInt = a := by
  unfold iI
  rw [Int32.toInt_ofInt]
  exact Int.bmod_eq_of_le (by have := h.1; simp; omega) (by have := h.2; simp; omega)
theorem lI_toInt {a : Int} (h : R6 a) : (lI a).toInt = a := by
  unfold lI
  rw [Int64.toInt_ofInt]
  exact Int.bmod_eq_of_le (by have := h.1; simp; omega) (by have := h.2; simp; omega)
theorem iI_R (x : Int32) : R3 x.toInt := ⟨Int32.le_toInt x, Int32.toInt_lt x⟩
theorem iI_of (x : Int32) : x = iI x.toInt := by unfold iI; exact (Int32.ofInt_toInt x).symm
theorem iI_ex (x : Int32) : ∃ z : Int, R3 z ∧ x = iI z := ⟨x.toInt, iI_R x, iI_of x⟩
theorem iI_add (a b : Int) : iI a + iI b = iI (a + b) := by unfold iI; exact (Int32.ofInt_add a b).symm
theorem iI_sub (a b : Int) : iI a - iI b = iI (a - b) := by unfold iI; exact (Int32.ofInt_sub a b).symm
theorem iI_mul (a b : Int) : iI a * iI b = iI (a * b) := by unfold iI; exact (Int32.ofInt_mul a b).symm
theorem iI_neg (a : Int) : - iI a = iI (-a) := by unfold iI; exact (Int32.ofInt_neg a).symm
theorem lI_add (a b : Int) : lI a + lI b = lI (a + b) := by unfold lI; exact (Int64.ofInt_add a b).symm
theorem lI_sub (a b : Int) : lI a - lI b = lI (a - b) := by unfold lI; exact (Int64.ofInt_sub a b).symm
theorem lI_mul (a b : Int) : lI a * lI b = lI (a * b) := by unfold lI; exact (Int64.ofInt_mul a b).symm
theorem iI_lt {a b : Int} (ha : R3 a) (hb : R3 b) : iI a < iI b ↔ a < b := by rw [Int32.lt_iff_toInt_lt, iI_toInt ha, iI_toInt hb]
theorem iI_le {a b : Int} (ha : R3 a) (hb : R3 b) : iI a ≤ iI b ↔ a ≤ b := by rw [Int32.le_iff_toInt_le, iI_toInt ha, iI_toInt hb]
theorem iI_eq {a b : Int} (ha : R3 a) (hb : R3 b) : iI a = iI b ↔ a = b := by rw [← Int32.toInt_inj, iI_toInt ha, iI_toInt hb]
theorem lI_lt {a b : Int} (ha : R6 a) (hb : R6 b) : lI a < lI b ↔ a < b := by rw [Int64.lt_iff_toInt_lt, lI_toInt ha, lI_toInt hb]
theorem lI_le {a b : Int} (ha : R6 a) (hb : R6 b) : lI a ≤ lI b ↔ a ≤ b := by rw [Int64.le_iff_toInt_le, lI_toInt ha, lI_toInt hb]
theorem lI_eq {a b : Int} (ha : R6 a) (hb : R6 b) : lI a = lI b ↔ a = b := by rw [← Int64.toInt_inj, lI_toInt ha, lI_toInt hb]
theorem iI_0 : (0 : Int32) = iI 0 := rfl
theorem lI_0 : (0 : Int64) = lI 0 := rfl
theorem iI_nat (n : Nat) : Int32.ofNat n = iI (n : Int) := by unfold iI; exact (Int32.ofInt_eq_ofNat).symm
theorem iI_long {a : Int} (h : R3 a) : (iI a).toInt64 = lI a := by
  rw [← Int64.toInt_inj, Int32.toInt_toInt64, iI_toInt h, lI_toInt ⟨by have := h.1; omega, by have := h.2; omega⟩]
theorem lI_int (a : Int) : (lI a).toInt32 = iI a := by
  unfold lI iI
  exact Int64.toInt32_ofInt
theorem tdiv_R3 {a b : Int} (ha : R3 a) (hb : b ≠ 0) (hm : ¬ (a = -2147483648 ∧ b = -1)) : R3 (a.tdiv b) := by
  have h1 : (a.tdiv b).natAbs ≤ a.natAbs := by rw [Int.natAbs_tdiv]; exact Nat.div_le_self _ _
  by_cases hb1 : b = -1
  · subst hb1
    have : a.tdiv (-1) = -a := by rw [Int.tdiv_neg, Int.tdiv_one]
    rw [this]; omega
  · by_cases ha0 : a = -2147483648
    · by_cases hb2 : b = 1
      · subst hb2; rw [Int.tdiv_one]; exact ha
      · have h2 : (a.tdiv b).natAbs ≤ a.natAbs / 2 := by
          rw [Int.natAbs_tdiv]
          exact Nat.div_le_div_left (by omega) (by omega)
        omega
    · omega
theorem iI_div {a b : Int} (ha : R3 a) (hb : R3 b) (h0 : b ≠ 0) (hm : ¬ (a = -2147483648 ∧ b = -1)) : iI a / iI b = iI (a.tdiv b) := by
  rw [← Int32.toInt_inj, Int32.toInt_div, iI_toInt ha, iI_toInt hb, iI_toInt (tdiv_R3 ha h0 hm)]
  have := tdiv_R3 ha h0 hm
  exact Int.bmod_eq_of_le (by have := this.1; simp; omega) (by have := this.2; simp; omega)
theorem iI_in {i : Int} {n : Nat} (h0 : 0 ≤ i) (h : i < n) (hn : n < 2147483648) : vp_in (iI i) n := by
  rw [vp_in_iff, iI_toInt ⟨by omega, by omega⟩]; exact ⟨h0, h⟩
theorem iI_clamp {i : Int} (h0 : 0 ≤ i) (h : i < 2147483648) : (((iI i).toNatClampNeg : Nat) : Int) = i := by
  have h1 := iI_toInt (a := i) ⟨by omega, h⟩
  have h2 : (iI i).toNatClampNeg = (iI i).toInt.toNat := rfl
  rw [h2, h1]; omega
theorem aI_at {f : Int → Int} {i : Int} (h0 : 0 ≤ i) (h : i < 2147483648) : aI f (iI i).toNatClampNeg = iI (f i) := by
  unfold aI; rw [iI_clamp h0 h]
theorem aL_at {f : Int → Int} {i : Int} (h0 : 0 ≤ i) (h : i < 2147483648) : aL f (iI i).toNatClampNeg = lI (f i) := by
  unfold aL; rw [iI_clamp h0 h]
theorem aI_up {f : Int → Int} {i z : Int} (h0 : 0 ≤ i) (h : i < 2147483648) : upd (aI f) (iI i).toNatClampNeg (iI z) = aI (uI f i z) := by
  funext j
  have hc := iI_clamp h0 h
  unfold upd aI uI
  by_cases hj : j = (iI i).toNatClampNeg
  · rw [if_pos hj, if_pos (by omega)]
  · rw [if_neg hj, if_neg (by omega)]
theorem aL_up {f : Int → Int} {i z : Int} (h0 : 0 ≤ i) (h : i < 2147483648) : vp_updL (aL f) (iI i).toNatClampNeg (lI z) = aL (uI f i z) := by
  funext j
  have hc := iI_clamp h0 h
  unfold vp_updL aL uI
  by_cases hj : j = (iI i).toNatClampNeg
  · rw [if_pos hj, if_pos (by omega)]
  · rw [if_neg hj, if_neg (by omega)]
theorem uI_s {f : Int → Int} {i z : Int} : uI f i z i = z := if_pos rfl
theorem uI_n {f : Int → Int} {i j z : Int} (h : j ≠ i) : uI f i z j = f j := if_neg h
theorem tdiv_R6 {a b : Int} (ha : R6 a) (hb : b ≠ 0) (hm : ¬ (a = -9223372036854775808 ∧ b = -1)) : R6 (a.tdiv b) := by
  have h1 : (a.tdiv b).natAbs ≤ a.natAbs := by rw [Int.natAbs_tdiv]; exact Nat.div_le_self _ _
  by_cases hb1 : b = -1
  · subst hb1
    have : a.tdiv (-1) = -a := by rw [Int.tdiv_neg, Int.tdiv_one]
    rw [this]; omega
  · by_cases ha0 : a = -9223372036854775808
    · by_cases hb2 : b = 1
      · subst hb2; rw [Int.tdiv_one]; exact ha
      · have h2 : (a.tdiv b).natAbs ≤ a.natAbs / 2 := by
          rw [Int.natAbs_tdiv]
          exact Nat.div_le_div_left (by omega) (by omega)
        omega
    · omega
theorem lI_div {a b : Int} (ha : R6 a) (hb : R6 b) (h0 : b ≠ 0) (hm : ¬ (a = -9223372036854775808 ∧ b = -1)) : lI a / lI b = lI (a.tdiv b) := by
  rw [← Int64.toInt_inj, Int64.toInt_div, lI_toInt ha, lI_toInt hb, lI_toInt (tdiv_R6 ha h0 hm)]
  have := tdiv_R6 ha h0 hm
  exact Int.bmod_eq_of_le (by have := this.1; simp; omega) (by have := this.2; simp; omega)
