/-! glue: a text that was read gives a good desk -/
theorem GOOD_RD {N : Int → Int} {i : Int} (h : RD N i) : GOOD N := by
  obtain ⟨r0, r1, r2, r3, r4, r5, r6⟩ := h
  refine ⟨⟨by omega, r1, r2, r3, fun x x0 x1 => ⟨(r5 x x0 x1).1, fun j j0 j1 => ?_⟩⟩, by omega, fun x x0 x1 => ⟨?_, (r5 x x0 x1).2.1⟩⟩
  · have z := (r5 x x0 x1).2.2.2
    rw [z (20 + j) (by omega) (by omega), z (140 + j) (by omega) (by omega), z (260 + j) (by omega) (by omega), z (380 + j) (by omega) (by omega)]
    omega
  · intro q
    have z := (r5 x x0 x1).2.2.2 13 (by omega) (by omega)
    omega
theorem TR_TQ {N : Int → Int} {x : Int} {a : Nat → Int → Int} (hq : LQ N x) (h : TQ a) : TR N x a := by
  intro j j0 j1
  have z := hq.2.2.2
  have t := h j j0 j1
  rw [z (20 + j) (by omega) (by omega), z (140 + j) (by omega) (by omega), z (260 + j) (by omega) (by omega), z (380 + j) (by omega) (by omega), t.1, t.2]
  simp
theorem CLS_RD {N : Int → Int} {i cv : Int} {a : Nat → Int → Int} {nw : Int → Int} {VE : Nat → Nat → Int} {AE : Nat → Nat → Int → Int} (h : RD N i) (hC : CV N a cv nw) (hL : LSX N VE AE) : CLS N a cv AE nw := by
  refine ⟨hC.1, hC.2.1, fun x hx => TR_TQ (h.2.2.2.2.2.1 x (by omega) hx) (hL x hx).2, hC.2.2⟩
theorem lW_LX {cI cJ : ClassId} {h : Nat} {q : Nat → Nat} {N : Int → Int} {x : Int} {f : Nat → Int} {a : Nat → Int → Int} (hl : LX N x f) : lW cI cJ h q f a = lW cI cJ h q (LVf N x) a := by
  obtain ⟨f4, f5, f6, f7, f8, f9, f10, f11, f12, f13, f20, f21, f22, f30, f31, f32⟩ := hl
  unfold lW
  rw [f4, f5, f6, f7, f8, f9, f10, f11, f12, f13, f20, f21, f22, f30, f31, f32]
  rfl
