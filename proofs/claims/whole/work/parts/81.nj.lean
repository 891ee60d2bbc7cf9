/-! a row of objects may be told by any function that agrees on its places -/
theorem zcell_Q {cA : ClassId} {n : Nat} {f g : Nat → Option Nat} (h : ∀ j : Nat, j < n → f j = g j) : vp_cell cA (n, .inr (.inr (.inr (.inr f)))) = vp_cell cA (n, .inr (.inr (.inr (.inr g)))) := by
  rw [vp_cell_q, vp_cell_q]
  unfold arrV
  congr 1
  apply Array.ext
  · simp
  · intro i h1 h2
    simp at h1
    simp [h i (by omega)]
theorem z_rowQ {G : va_G} {tys : List (ClassId × FieldType)} {A : Nat → Prop} {s : State} {ws : va_W} {H : Heap} {locs : List Loc} (hW : zW G tys A s ws H locs) (k : Nat) {b : Nat} {cA : ClassId} {n : Nat} {f : Nat → Option Nat} (g : Nat → Option Nat) (hk : ws[k]? = some (b, .inl (cA, n, .inr (.inr (.inr (.inr f)))))) (h : ∀ j : Nat, j < n → f j = g j) : zW G tys A s (ws.set k (b, .inl (cA, n, .inr (.inr (.inr (.inr g)))))) H locs := by
  refine ⟨hW.1, hW.2.1.set hW.2.2.1 hk ?_ (fun _ _ => rfl), hW.2.2.1.set hk, hW.2.2.2⟩
  show H[b]? = some (vp_cell cA (n, .inr (.inr (.inr (.inr g)))))
  rw [← zcell_Q h]
  exact hW.2.1 k _ hk
