/-! the law: a world in an order of its own -/
theorem va_nd_of : ∀ {l : List Nat}, l.Nodup → va_nd l = true
  | [], _ => rfl
  | a :: l, h => by
    rw [List.nodup_cons] at h
    simp only [va_nd, Bool.and_eq_true, decide_eq_true_eq]
    exact ⟨h.1, va_nd_of h.2⟩
theorem va_D.nodup {A : Nat → Prop} {ws : va_W} (h : va_D A ws) : (ws.map Prod.fst).Nodup := by
  rw [List.Nodup, List.pairwise_iff_getElem]
  intro i j hi hj hij e
  simp only [List.length_map] at hi hj
  simp only [List.getElem_map] at e
  have := h.1 i j ws[i] ws[j] (List.getElem?_eq_getElem hi) (List.getElem?_eq_getElem hj) e
  omega
theorem va_D.of {A : Nat → Prop} {ws : va_W} (hn : (ws.map Prod.fst).Nodup) (hA : ∀ q ∈ ws, A q.1) : va_D A ws := by
  refine ⟨fun i j x y hi hj e => ?_, fun k q hk => hA q (List.mem_of_getElem? hk)⟩
  have hi' := (List.getElem?_eq_some_iff.mp hi).1
  refine (List.getElem?_inj (l := ws.map Prod.fst) (by simpa using hi') hn).mp ?_
  rw [List.getElem?_map, List.getElem?_map, hi, hj]
  exact congrArg some e
theorem zW.perm {G : va_G} {tys : List (ClassId × FieldType)} {A : Nat → Prop} {s : State} {ws ws' : va_W} {H : Heap} {locs : List Loc} (hW : zW G tys A s ws H locs) (hp : ws.Perm ws') : zW G tys A s ws' H locs := by
  obtain ⟨hK, hP, hD, hS⟩ := hW
  refine ⟨hK, fun k q hk => ?_, va_D.of ((hp.map Prod.fst).nodup_iff.mp hD.nodup) (fun q hq => ?_), hS⟩
  · obtain ⟨i, hi⟩ := List.getElem?_of_mem (hp.mem_iff.mpr (List.mem_of_getElem? hk))
    exact hP i q hi
  · obtain ⟨i, hi⟩ := List.getElem?_of_mem (hp.mem_iff.mpr hq)
    exact hD.2 i q hi
theorem perm_flat : ∀ {L M : List va_W}, L.Perm M → L.flatten.Perm M.flatten := by
  intro L M h
  induction h with
  | nil => exact List.Perm.refl _
  | cons x _ ih => exact List.Perm.append_left x ih
  | swap x y l =>
    show (y ++ (x ++ l.flatten)).Perm (x ++ (y ++ l.flatten))
    rw [← List.append_assoc, ← List.append_assoc]
    exact List.Perm.append_right _ List.perm_append_comm
  | trans _ _ h1 h2 => exact h1.trans h2
theorem range_mid : ∀ (L pre : List va_W), (List.range' pre.length L.length).filterMap (fun i => (pre ++ L)[i]?) = L
  | [], pre => rfl
  | x :: L, pre => by
    have h := range_mid L (pre ++ [x])
    rw [show (pre ++ [x]).length = pre.length + 1 by simp, show pre ++ [x] ++ L = pre ++ x :: L by simp] at h
    show (pre.length :: List.range' (pre.length + 1) L.length).filterMap (fun i => (pre ++ x :: L)[i]?) = _
    rw [List.filterMap_cons_some (b := x) (by simp), h]
theorem range_at (L : List va_W) : (List.range L.length).filterMap (fun i => L[i]?) = L := by
  rw [List.range_eq_range']
  exact range_mid L []
theorem zW.pick {G : va_G} {tys : List (ClassId × FieldType)} {A : Nat → Prop} {s : State} {H : Heap} {locs : List Loc} {L : List va_W} (hW : zW G tys A s L.flatten H locs) (ps : List Nat) (hp : ps.isPerm (List.range L.length) = true) (L' : List va_W) (hL : ps.filterMap (fun i => L[i]?) = L') : zW G tys A s L'.flatten H locs := by
  refine hW.perm (perm_flat ?_)
  rw [← hL]
  have := (List.isPerm_iff.mp hp).symm.filterMap (fun i => L[i]?)
  rw [range_at] at this
  exact this
theorem zset_mid : ∀ (wc rs w1 pre : va_W), w1.length = wc.length → zset (pre ++ (wc ++ rs)) (List.range' pre.length wc.length) w1 = pre ++ (w1 ++ rs)
  | [], rs, w1, pre, h => by
    have : w1 = [] := List.length_eq_zero_iff.mp h
    subst this
    rfl
  | c :: wc, rs, [], pre, h => by simp at h
  | c :: wc, rs, d :: w1, pre, h => by
    have h' : w1.length = wc.length := by simpa using h
    have e1 : (pre ++ ((c :: wc) ++ rs)).set pre.length d = (pre ++ [d]) ++ (wc ++ rs) := by simp
    have e2 := zset_mid wc rs w1 (pre ++ [d]) h'
    rw [show (pre ++ [d]).length = pre.length + 1 by simp] at e2
    show zset ((pre ++ ((c :: wc) ++ rs)).set pre.length d) (List.range' (pre.length + 1) wc.length) w1 = _
    rw [e1, e2]
    simp
theorem zset_front {wc rs w1 : va_W} (h : w1.map Prod.fst = wc.map Prod.fst) : zset (wc ++ rs) (List.range wc.length) w1 = w1 ++ rs := by
  have hl : w1.length = wc.length := by simpa using congrArg List.length h
  have := zset_mid wc rs w1 [] hl
  rw [List.range_eq_range']
  exact this
theorem front_at (wc rs : va_W) : (List.range wc.length).map (fun i => (wc ++ rs)[i]?) = wc.map some := by
  apply List.ext_getElem
  · simp
  · intro i h1 h2
    simp only [List.length_map, List.length_range] at h1
    simp [List.getElem?_append_left h1, List.getElem?_eq_getElem h1]
theorem front_nd (wc : va_W) : va_nd (List.range wc.length) = true := va_nd_of List.nodup_range
theorem front_0 {wc rs : va_W} {x : Nat × va_E} (h : wc[0]? = some x) : (wc ++ rs)[0]? = some x := by
  rw [List.getElem?_append_left (List.getElem?_eq_some_iff.mp h).1]; exact h
section ZF
variable {p : Program} {l : Launch} {e : Env} {R : Room} {s : State} {m : MethodId} {args : Array Value} {below : List Frame} {meth : Method} {c : Code} {H : Heap} {locs : List Loc} {cells slots : Nat} {Q : State → Prop}
variable {cc : ByteArray} {pc : Nat} {ls : Array Slot} {rest : List Value} {G : va_G} {tys : List (ClassId × FieldType)} {A : Nat → Prop} {rs : va_W} {a : Nat} {aK aV : Nat → Nat}
variable {S : Type} {res : S → Option Value} {post : S → Prop} {w1 : S → va_W} {mc ms : Nat}
variable {y : MethodName} {bytes : ByteArray} {maxL nL n index : Nat} {ret : Option FieldType} {wsY wsY' : List Cond} {rm : Room} {Ts : List Cond} {own C : String} {b : Addr} {As : List Value} {wc : va_W} {st0 : List Value}
/-- a call whose cells stand in front -/
theorem zf_callV (F : CallFix p m c cc nL s args Ts own) (hM : zC l y wsY rm G tys (.ref b :: As) wc res post w1 0 0) (hg : GoodIn Ts (wsV own index C y wsY)) (hw : wsY = Cond.code y bytes maxL ret :: wsY') (hd : y.cls = C ∧ y.cls ≠ "java/lang/invoke/MethodHandle" ∧ y.cls ≠ "java/lang/invoke/VarHandle" ∧ (parseMethodDescriptor y.desc).map (fun d => d.parameters.length) = some n) (hrm : rm.cells = 0 ∧ rm.slots = 0 ∧ rm.frames + 1 ≤ R.frames ∧ 8 + (maxL + 11) + rm.locals ≤ R.locals) (hn : As.length = n) (hls : ls.size = nL) (hst0 : st0 = As.reverse ++ .ref b :: rest) (hrest : (rest.map fun v => v.category).sum ≤ 8) (hdg : decode cc pc = .ok (.invokevirtual index, 3)) (hf : cells ≤ R.cells ∧ slots ≤ R.slots)
    (hW : zW G tys A s (wc ++ rs) H locs) (hA : ∀ q, s.heap.size ≤ q → A q) (hs : ∀ u, (w1 u).map Prod.fst = wc.map Prod.fst) (st1 : S → List Value) (hst : ∀ u, (res u).toList ++ rest = st1 u) {ci : Nat} {fs : List Value} {r : vw_C} (he : wc[0]? = some (b, .inr (ci, fs))) (hc : vwCl[ci]? = some r) (hrC : r.1 = C)
    (kk : ∀ (u : S) (H1 : Heap) (locs1 : List Loc), post u → zW G tys A s (w1 u ++ rs) H1 locs1 → W p l e R s m args below meth c H1 locs1 cells slots Q (F0 m (pc + 3) ls (st1 u))) : W p l e R s m args below meth c H locs cells slots Q (F0 m pc ls st0) :=
  z_callV F hM hg hw hd hrm hn hls hst0 hrest hdg hf hW hA (List.range wc.length) (front_at wc rs) (front_nd wc) hs (fun u => w1 u ++ rs) (fun u => zset_front (hs u)) st1 hst 0 (front_0 he) hc hrC kk
theorem zf_callVK (F : CallFix p m c cc nL s args Ts own) (hX : sX aK aV A s s.heap) (hM : zCK l y wsY rm G tys aK aV (.ref b :: As) wc res post w1 0 0) (hg : GoodIn Ts (wsV own index C y wsY)) (hw : wsY = Cond.code y bytes maxL ret :: wsY') (hd : y.cls = C ∧ y.cls ≠ "java/lang/invoke/MethodHandle" ∧ y.cls ≠ "java/lang/invoke/VarHandle" ∧ (parseMethodDescriptor y.desc).map (fun d => d.parameters.length) = some n) (hrm : rm.cells = 0 ∧ rm.slots = 0 ∧ rm.frames + 1 ≤ R.frames ∧ 8 + (maxL + 11) + rm.locals ≤ R.locals) (hn : As.length = n) (hls : ls.size = nL) (hst0 : st0 = As.reverse ++ .ref b :: rest) (hrest : (rest.map fun v => v.category).sum ≤ 8) (hdg : decode cc pc = .ok (.invokevirtual index, 3)) (hf : cells ≤ R.cells ∧ slots ≤ R.slots)
    (hW : zW G tys A s (wc ++ rs) H locs) (hA : ∀ q, s.heap.size ≤ q → A q) (hs : ∀ u, (w1 u).map Prod.fst = wc.map Prod.fst) (st1 : S → List Value) (hst : ∀ u, (res u).toList ++ rest = st1 u) {ci : Nat} {fs : List Value} {r : vw_C} (he : wc[0]? = some (b, .inr (ci, fs))) (hc : vwCl[ci]? = some r) (hrC : r.1 = C)
    (kk : ∀ (u : S) (H1 : Heap) (locs1 : List Loc), post u → zW G tys A s (w1 u ++ rs) H1 locs1 → W p l e R s m args below meth c H1 locs1 cells slots Q (F0 m (pc + 3) ls (st1 u))) : W p l e R s m args below meth c H locs cells slots Q (F0 m pc ls st0) :=
  z_callVK F hX hM hg hw hd hrm hn hls hst0 hrest hdg hf hW hA (List.range wc.length) (front_at wc rs) (front_nd wc) hs (fun u => w1 u ++ rs) (fun u => zset_front (hs u)) st1 hst 0 (front_0 he) hc hrC kk
end ZF
