/-! rows of objects -/
section ZQ
variable {p : Program} {l : Launch} {e : Env} {R : Room} {s : State} {m : MethodId} {args : Array Value} {below : List Frame} {meth : Method} {c : Code} {H : Heap} {locs : List Loc} {cells slots : Nat} {Q : State → Prop}
variable {cc : ByteArray} {pc : Nat} {ls : Array Slot} {rest : List Value} {G : va_G} {tys : List (ClassId × FieldType)} {A : Nat → Prop} {ws : va_W} {a : Nat} {Ts : List Cond} {own : String}
theorem z_newaQ (hexec : p.tables.exec = Jvm.exec) (hb : c.code = cc) {C : String} {index : Nat} (hts : ∀ w ∈ Ts, w.before args s = true) (hown : s.vm.findClass own = some m.cls) (i1 : Nat) (h1 : Ts[i1]? = some (.classLink own index C)) (hover : va_AO C s) (hW : zW G tys A s ws H locs) (hA : ∀ q, s.heap.size ≤ q → A q) (t0 : Nat) {cA : ClassId} (ht : tys[t0]? = some (cA, .object C)) {n : Int} {k : Nat} (hn : n = (k : Int)) (hk : k ≤ 100000) (hcells : cells + 1 ≤ R.cells) (hslots : slots + k ≤ R.slots) (hdg : decode cc pc = .ok (.anewarray index, 3))
    (kk : ∀ (q : Nat) (H1 : Heap), zW G tys A s (ws ++ [(q, .inl (cA, k, .inr (.inr (.inr (.inr (fun _ => none))))))]) H1 locs → W p l e R s m args below meth c H1 locs (cells + 1) (slots + k) Q (F0 m (pc + 3) ls (.ref q :: rest))) : W p l e R s m args below meth c H locs cells slots Q (F0 m pc ls (.int (iI n) :: rest)) := by
  refine va_newq (N' := k) hexec hb hown (hts _ (List.mem_of_getElem? h1)) hover hW.1 hW.2.1 hW.2.2.1 hW.2.2.2 hA (fun q => ?_) ?_ (by omega) hcells hslots hdg (fun q cB H1 k1 k2 k3 k4 => ?_)
  · have := (iI_lt (a := n) (b := 0) ⟨by omega, by omega⟩ ⟨by omega, by omega⟩).mp q
    omega
  · have := iI_clamp (i := n) (by omega) (by omega)
    omega
  · obtain ⟨_, _, _, _, _, e1⟩ := (k1.2 tys.length (cB, .object C) (by simp)).2
    obtain ⟨_, _, _, _, _, e2⟩ := (hW.1.2 t0 (cA, .object C) ht).2
    have e3 : cB = cA := by
      rw [e1] at e2
      exact Option.some.inj e2
    subst e3
    exact kk q H1 ⟨hW.1, k2, k3, k4⟩
theorem z_aast (hexec : p.tables.exec = Jvm.exec) (hb : c.code = cc) (hW : zW G tys A s ws H locs) (q0 t0 qk ci : Nat) {cA : ClassId} {r : vw_C} {n v : Nat} {vs : List Value} {f : Nat → Option Nat} {i : Int} (ha : ws[q0]? = some (a, .inl (cA, n, .inr (.inr (.inr (.inr f)))))) (ht : tys[t0]? = some (cA, .object r.1)) (hv : ws[qk]? = some (v, .inr (ci, vs))) (hc : vwCl[ci]? = some r) (hn : n < 2147483648) (h0 : 0 ≤ i ∧ i < n) (hdg : decode cc pc = .ok (.aastore, 1))
    (kk : ∀ (H1 : Heap) (locs1 : List Loc), zW G tys A s (ws.set q0 (a, .inl (cA, n, .inr (.inr (.inr (.inr (va_up f i.toNat (some v)))))))) H1 locs1 → W p l e R s m args below meth c H1 locs1 cells slots Q (F0 m (pc + 1) ls rest)) : W p l e R s m args below meth c H locs cells slots Q (F0 m pc ls (.ref v :: .int (iI i) :: .ref a :: rest)) := by
  have e1 : (iI i).toNatClampNeg = i.toNat := by
    have := iI_clamp (i := i) h0.1 (by omega)
    omega
  refine va_astq hexec hb hW.1 hW.2.1 hW.2.2.1 hW.2.2.2 q0 t0 qk ci ha ht hv hc (iI_in h0.1 h0.2 hn) hdg (fun H1 locs1 k1 k2 k3 => ?_)
  rw [e1] at k1 k2
  exact kk H1 locs1 ⟨hW.1, k1, k2, k3⟩
end ZQ
