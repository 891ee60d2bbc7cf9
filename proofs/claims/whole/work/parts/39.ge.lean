/-! glue: the acts that are kept, and the past -/
/-- the act k of the lease x at the place y made M of N -/
def STEP (k x y : Int) (N M : Int → Int) : Prop := (k = 1 ∧ x = -1 ∧ ∃ z, ¬ WHY N y z < 0 ∧ M = PUB N y z) ∨ (k = 2 ∧ ((∃ z, okM N x y z ∧ M = MKT N x y z) ∨ ∃ t z, okT N x t z ∧ y = t - LF N x 0 ∧ M = TRN N x t z)) ∨ (k = 3 ∧ y = -1 ∧ okB N x ∧ M = BRK N x) ∨ (k = 4 ∧ x = -1 ∧ okA N y ∧ M = PAS N y)
def CHN (S : Int → Int) (n : Int) (g0 g1 g2 N : Int → Int) : Prop := 0 ≤ n ∧ n ≤ 10 ∧ ∃ f : Int → Int → Int, f n = N ∧ ∀ i : Int, 0 ≤ i → i < n → GOOD (f i) ∧ STEP (g0 i) (g1 i) (g2 i) (f i) (f (i + 1)) ∧ ∀ j : Int, 0 ≤ j → j < 3483 → S (3483 * i + j) = f i j
theorem SH_n {f : Int → Int} {j : Int} (h : j < 9) : SH f j = f (j + 1) := if_pos h
theorem CHN_0 {S g0 g1 g2 N : Int → Int} : CHN S 0 g0 g1 g2 N := ⟨Int.le_refl 0, by decide, fun _ => N, rfl, fun i a b => by omega⟩
theorem GOOD_STEP {k x y : Int} {N M : Int → Int} (hG : GOOD N) (h : STEP k x y N M) : GOOD M := by
  rcases h with ⟨-, -, z, a, rfl⟩ | ⟨-, ⟨z, a, rfl⟩ | ⟨t, z, a, -, rfl⟩⟩ | ⟨-, -, a, rfl⟩ | ⟨-, -, a, rfl⟩
  · exact GOOD_PUB hG a
  · exact GOOD_MKT hG a
  · exact GOOD_TRN hG a
  · exact GOOD_BRK hG a
  · exact GOOD_PAS hG a
theorem CHN_push {S f g0 g1 g2 r0 r1 r2 N M : Int → Int} {n n2 k x y : Int} (h : CHN S n g0 g1 g2 N) (hG : GOOD N) (hs : STEP k x y N M) (hf : SNAPPED S N n f n2) (k0 : KEPT g0 n k r0) (k1 : KEPT g1 n x r1) (k2 : KEPT g2 n y r2) : CHN f n2 r0 r1 r2 M := by
  obtain ⟨n0, n1, F9, e9, H9⟩ := h
  obtain ⟨e2, hf⟩ := hf
  by_cases q : n = 10
  · rw [if_pos q] at e2
    subst q
    rw [e2, k0.1 rfl, k1.1 rfl, k2.1 rfl]
    refine ⟨by decide, by decide, fun i => if i = 10 then M else F9 (i + 1), if_pos rfl, fun i i0 i1 => ?_⟩
    have d1 : (fun i => if i = 10 then M else F9 (i + 1)) i = F9 (i + 1) := if_neg (by omega)
    by_cases q9 : i = 9
    · have d2 : (fun i => if i = 10 then M else F9 (i + 1)) (i + 1) = M := if_pos (by omega)
      rw [d1, d2, q9, uI_s, uI_s, uI_s, show (9 + 1 : Int) = 10 from rfl, e9]
      refine ⟨hG, hs, fun j j0 j1 => ?_⟩
      rw [hf _ (by omega) (by omega)]
      unfold SNP
      rw [if_pos rfl, if_neg (by omega)]
      congr 1
      omega
    · have d2 : (fun i => if i = 10 then M else F9 (i + 1)) (i + 1) = F9 (i + 1 + 1) := if_neg (by omega)
      have w := H9 (i + 1) (by omega) (by omega)
      rw [d1, d2, uI_n q9, uI_n q9, uI_n q9, SH_n (by omega), SH_n (by omega), SH_n (by omega)]
      refine ⟨w.1, w.2.1, fun j j0 j1 => ?_⟩
      rw [hf _ (by omega) (by omega)]
      unfold SNP
      rw [if_pos rfl, if_pos (by omega), ← w.2.2 j j0 j1]
      congr 1
      omega
  · rw [if_neg q] at e2
    rw [e2, k0.2 q, k1.2 q, k2.2 q]
    refine ⟨by omega, by omega, fun i => if i = n + 1 then M else F9 i, if_pos rfl, fun i i0 i1 => ?_⟩
    have d1 : (fun i => if i = n + 1 then M else F9 i) i = F9 i := if_neg (by omega)
    by_cases q9 : i = n
    · have d2 : (fun i => if i = n + 1 then M else F9 i) (i + 1) = M := if_pos (by omega)
      rw [d1, d2, q9, uI_s, uI_s, uI_s, e9]
      refine ⟨hG, hs, fun j j0 j1 => ?_⟩
      rw [hf _ (by omega) (by omega)]
      unfold SNP
      rw [if_neg q, if_pos (by omega)]
      congr 1
      omega
    · have d2 : (fun i => if i = n + 1 then M else F9 i) (i + 1) = F9 (i + 1) := if_neg (by omega)
      have w := H9 i (by omega) (by omega)
      rw [d1, d2, uI_n q9, uI_n q9, uI_n q9]
      refine ⟨w.1, w.2.1, fun j j0 j1 => ?_⟩
      rw [hf _ (by omega) (by omega)]
      unfold SNP
      rw [if_neg q, if_neg (by omega)]
      exact w.2.2 j j0 j1
theorem CHN_pop {S g0 g1 g2 N : Int → Int} {n : Int} (h : CHN S n g0 g1 g2 N) (hn : 1 ≤ n) : ∃ P9 : Int → Int, GOOD P9 ∧ STEP (g0 (n - 1)) (g1 (n - 1)) (g2 (n - 1)) P9 N ∧ (∀ j : Int, 0 ≤ j → j < 3483 → S (3483 * (n - 1) + j) = P9 j) ∧ CHN S (n - 1) g0 g1 g2 P9 := by
  obtain ⟨n0, n1, F9, e9, H9⟩ := h
  have w := H9 (n - 1) (by omega) (by omega)
  rw [show n - 1 + 1 = n by omega, e9] at w
  exact ⟨F9 (n - 1), w.1, w.2.1, w.2.2, by omega, by omega, F9, rfl, fun i i0 i1 => H9 i i0 (by omega)⟩
