/-! things that are made -/
section ZN
variable {p : Program} {l : Launch} {e : Env} {R : Room} {s : State} {m : MethodId} {args : Array Value} {below : List Frame} {meth : Method} {c : Code} {H : Heap} {locs : List Loc} {cells slots : Nat} {Q : State → Prop}
variable {cc : ByteArray} {pc : Nat} {ls : Array Slot} {rest : List Value} {G : va_G} {tys : List (ClassId × FieldType)} {A : Nat → Prop} {ws : va_W} {a : Nat}
theorem z_newaI (hexec : p.tables.exec = Jvm.exec) (hb : c.code = cc) (harr : (Cond.arrayClass .int).before args s = true) (hW : zW G tys A s ws H locs) (hA : ∀ q, s.heap.size ≤ q → A q) (t0 : Nat) {cA : ClassId} (ht : tys[t0]? = some (cA, .int)) {n : Int} {k : Nat} (hn : n = (k : Int)) (hk : k ≤ 100000) (hcells : cells + 1 ≤ R.cells) (hslots : slots + k ≤ R.slots) (hdg : decode cc pc = .ok (.newarray .int, 2))
    (kk : ∀ (q : Nat) (H1 : Heap), zW G tys A s (ws ++ [(q, .inl (cA, k, .inl (aI (fun _ => 0))))]) H1 locs → W p l e R s m args below meth c H1 locs (cells + 1) (slots + k) Q (F0 m (pc + 2) ls (.ref q :: rest))) : W p l e R s m args below meth c H locs cells slots Q (F0 m pc ls (.int (iI n) :: rest)) := by
  refine va_newa (atype := .int) (ty := .int) (N' := k) (a0 := (k, .inl (aI (fun _ => 0)))) hexec hb harr rfl hW.1 hW.2.1 hW.2.2.1 hW.2.2.2 hA (fun cB => by rw [vp_cell_i]; rfl) (fun q => ?_) ?_ (by show k * 4 ≤ _; omega) hcells hslots hdg (fun q cB H1 k1 k2 k3 k4 => ?_)
  · have := (iI_lt (a := n) (b := 0) ⟨by omega, by omega⟩ ⟨by omega, by omega⟩).mp q
    omega
  · have := iI_clamp (i := n) (by omega) (by omega)
    omega
  · have e1 := (k1.2 tys.length (cB, .int) (by simp)).2
    have e2 := (hW.1.2 t0 (cA, .int) ht).2
    have e3 : cB = cA := by
      have a1 : s.vm.findClass "[I" = some cB := e1
      have a2 : s.vm.findClass "[I" = some cA := e2
      rw [a1] at a2
      exact Option.some.inj a2
    subst e3
    exact kk q H1 ⟨hW.1, k2, k3, k4⟩
theorem z_newaL (hexec : p.tables.exec = Jvm.exec) (hb : c.code = cc) (harr : (Cond.arrayClass .long).before args s = true) (hW : zW G tys A s ws H locs) (hA : ∀ q, s.heap.size ≤ q → A q) (t0 : Nat) {cA : ClassId} (ht : tys[t0]? = some (cA, .long)) {n : Int} {k : Nat} (hn : n = (k : Int)) (hk : k ≤ 100000) (hcells : cells + 1 ≤ R.cells) (hslots : slots + k ≤ R.slots) (hdg : decode cc pc = .ok (.newarray .long, 2))
    (kk : ∀ (q : Nat) (H1 : Heap), zW G tys A s (ws ++ [(q, .inl (cA, k, .inr (.inl (aL (fun _ => 0)))))]) H1 locs → W p l e R s m args below meth c H1 locs (cells + 1) (slots + k) Q (F0 m (pc + 2) ls (.ref q :: rest))) : W p l e R s m args below meth c H locs cells slots Q (F0 m pc ls (.int (iI n) :: rest)) := by
  refine va_newa (atype := .long) (ty := .long) (N' := k) (a0 := (k, .inr (.inl (aL (fun _ => 0))))) hexec hb harr rfl hW.1 hW.2.1 hW.2.2.1 hW.2.2.2 hA (fun cB => rfl) (fun q => ?_) ?_ (by show k * 8 ≤ _; omega) hcells hslots hdg (fun q cB H1 k1 k2 k3 k4 => ?_)
  · have := (iI_lt (a := n) (b := 0) ⟨by omega, by omega⟩ ⟨by omega, by omega⟩).mp q
    omega
  · have := iI_clamp (i := n) (by omega) (by omega)
    omega
  · have e1 := (k1.2 tys.length (cB, .long) (by simp)).2
    have e2 := (hW.1.2 t0 (cA, .long) ht).2
    have e3 : cB = cA := by
      have a1 : s.vm.findClass "[J" = some cB := e1
      have a2 : s.vm.findClass "[J" = some cA := e2
      rw [a1] at a2
      exact Option.some.inj a2
    subst e3
    exact kk q H1 ⟨hW.1, k2, k3, k4⟩
end ZN
