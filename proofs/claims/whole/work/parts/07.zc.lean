/-! ===== worlds, contracts, calls ===== -/
/-- the cells ws stand in the heap H, apart, in A; the tables as they must be; nothing outside A has changed -/
def zW (G : va_G) (tys : List (ClassId × FieldType)) (A : Nat → Prop) (s : State) (ws : va_W) (H : Heap) (locs : List Loc) : Prop := va_K G vwCl tys s ∧ va_P G vwCl ws H ∧ va_D A ws ∧ va_S A s.heap H locs
/-- some places of a world written -/
def zset : va_W → List Nat → va_W → va_W
  | ws, [], _ => ws
  | ws, _ :: _, [] => ws
  | ws, i :: is, q :: qs => zset (ws.set i q) is qs
theorem zset_at : ∀ (is : List Nat) (qs ws : va_W) (k : Nat) (q : Nat × va_E), is.length = qs.length → (zset ws is qs)[k]? = some q → (∃ j : Nat, is[j]? = some k ∧ qs[j]? = some q) ∨ (k ∉ is ∧ ws[k]? = some q)
  | [], qs, ws, k, q, _, h => Or.inr ⟨by simp, by simpa [zset] using h⟩
  | i :: is, [], ws, k, q, hl, h => by simp at hl
  | i :: is, x :: qs, ws, k, q, hl, h => by
    have hl' : is.length = qs.length := by simpa using hl
    rcases zset_at is qs (ws.set i x) k q hl' (by simpa [zset] using h) with ⟨j, h1, h2⟩ | ⟨h1, h2⟩
    · exact Or.inl ⟨j + 1, by simpa using h1, by simpa using h2⟩
    · by_cases hk : k = i
      · subst hk
        have hlt : k < ws.length := by
          have := (List.getElem?_eq_some_iff.mp h2).1
          simpa using this
        rw [List.getElem?_set_self hlt] at h2
        exact Or.inl ⟨0, by simp, by simpa using h2⟩
      · rw [List.getElem?_set_ne (Ne.symm hk)] at h2
        exact Or.inr ⟨by simp [hk, h1], h2⟩
/-- the places of a part of a world -/
theorem zsub_at {ws wc : va_W} {isC : List Nat} (hC : isC.map (fun i => ws[i]?) = wc.map some) {k : Nat} {q : Nat × va_E} (hk : wc[k]? = some q) : ∃ i : Nat, isC[k]? = some i ∧ ws[i]? = some q := by
  have h1 : (isC.map (fun i => ws[i]?))[k]? = some (some q) := by rw [hC, List.getElem?_map, hk]; rfl
  rw [List.getElem?_map] at h1
  cases hi : isC[k]? with
  | none => rw [hi] at h1; cases h1
  | some i => rw [hi] at h1; exact ⟨i, rfl, Option.some.inj h1⟩
theorem zsub_P {G : va_G} {cl : List vw_C} {ws wc : va_W} {isC : List Nat} {H : Heap} (hP : va_P G cl ws H) (hC : isC.map (fun i => ws[i]?) = wc.map some) : va_P G cl wc H := by
  intro k q hk
  obtain ⟨i, -, hi⟩ := zsub_at hC hk
  exact hP i q hi
theorem zset_P {G : va_G} {cl : List vw_C} {A : Nat → Prop} {ws wc w1 : va_W} {isC : List Nat} {H H1 : Heap} (hP : va_P G cl ws H) (hD : va_D A ws) (hC : isC.map (fun i => ws[i]?) = wc.map some) (hk : ∀ q : Nat, q < H.size → ¬ va_A wc H.size q → H1[q]? = H[q]?) (hP1 : va_P G cl w1 H1) (hs : w1.map Prod.fst = wc.map Prod.fst) : va_P G cl (zset ws isC w1) H1 := by
  have hlen : isC.length = w1.length := by
    have h1 := congrArg List.length hC
    have h2 := congrArg List.length hs
    simp at h1 h2
    omega
  intro k q hq
  rcases zset_at isC w1 ws k q hlen hq with ⟨j, -, h2⟩ | ⟨h1, h2⟩
  · exact hP1 j q h2
  · refine (hP k q h2).kept (hk q.1 (hP k q h2).lt (fun ha => ?_))
    rcases ha with ⟨k2, e, he⟩ | ha
    · obtain ⟨i, hi, hwi⟩ := zsub_at hC he
      have := hD.1 k i q (q.1, e) h2 hwi rfl
      subst this
      exact h1 (List.mem_of_getElem? hi)
    · have := (hP k q h2).lt
      omega
theorem zset_D {A : Nat → Prop} {ws wc w1 : va_W} {isC : List Nat} (hD : va_D A ws) (hC : isC.map (fun i => ws[i]?) = wc.map some) (hs : w1.map Prod.fst = wc.map Prod.fst) : va_D A (zset ws isC w1) := by
  have hlen : isC.length = w1.length := by
    have h1 := congrArg List.length hC
    have h2 := congrArg List.length hs
    simp at h1 h2
    omega
  have key : ∀ (k : Nat) (q : Nat × va_E), (zset ws isC w1)[k]? = some q → ∃ q0, ws[k]? = some q0 ∧ q0.1 = q.1 := by
    intro k q hq
    rcases zset_at isC w1 ws k q hlen hq with ⟨j, h1, h2⟩ | ⟨h1, h2⟩
    · have h3 : (w1.map Prod.fst)[j]? = some q.1 := by rw [List.getElem?_map, h2]; rfl
      rw [hs, List.getElem?_map] at h3
      cases hw : wc[j]? with
      | none => rw [hw] at h3; cases h3
      | some q0 =>
        rw [hw] at h3
        obtain ⟨i, hi, hwi⟩ := zsub_at hC hw
        have : i = k := by rw [h1] at hi; exact (Option.some.inj hi).symm
        subst this
        exact ⟨q0, hwi, Option.some.inj h3⟩
    · exact ⟨q, h2, rfl⟩
  refine ⟨fun i j x y hi hj hxy => ?_, fun k q hk => ?_⟩
  · obtain ⟨x0, h1, h2⟩ := key i x hi
    obtain ⟨y0, h3, h4⟩ := key j y hj
    exact hD.1 i j x0 y0 h1 h3 (h2.trans (hxy.trans h4.symm))
  · obtain ⟨q0, h1, h2⟩ := key k q hk
    rw [← h2]
    exact hD.2 k q0 h1
/-- the answers: an int, a long, nothing, a cell, a cell or null -/
def zI {S : Type} (r : S → Int) : S → Option Value := fun u => some (.int (iI (r u)))
def zL {S : Type} (r : S → Int) : S → Option Value := fun u => some (.long (lI (r u)))
def zN {S : Type} : S → Option Value := fun _ => none
def zO {S : Type} (r : S → Option Nat) : S → Option Value := fun u => some (va_rf (r u))
def zQ {S : Type} (res : S → Option Value) (post : S → Prop) (B : S → State → Prop) (A : Nat → Prop) : Array Value → State → Outcome → State → Prop := fun _ st oc t => (∃ u : S, oc = .returned (res u) ∧ post u ∧ B u t) ∧ va_F A st t
def zB (G : va_G) (tys : List (ClassId × FieldType)) {S : Type} (w1 : S → va_W) (A : Nat → Prop) (u : S) (t : State) : Prop := va_P G vwCl (w1 u) t.heap ∧ va_K G vwCl tys t ∧ va_D A (w1 u)
def zP (G : va_G) (tys : List (ClassId × FieldType)) (wc : va_W) (sz : Nat) (U : State) : Prop := U.heap.size = sz ∧ va_P G vwCl wc U.heap ∧ va_K G vwCl tys U ∧ va_D (fun _ => True) wc
/-- a contract: with the arguments av and the cells wc the method returns; some u says what it answers and what the cells are then -/
def zC (l : Launch) (y : MethodName) (wsY : List Cond) (rm : Room) (G : va_G) (tys : List (ClassId × FieldType)) {S : Type} (av : List Value) (wc : va_W) (res : S → Option Value) (post : S → Prop) (w1 : S → va_W) (mc ms : Nat) : Prop :=
  ∀ sz : Nat, Met l y wsY rm (va_Pc av (zP G tys wc sz)) (zQ res post (zB G tys w1 (va_A wc sz)) (va_A wc sz)) mc ms (va_A wc sz)
theorem zP_blind {G : va_G} {tys : List (ClassId × FieldType)} {wc : va_W} {sz : Nat} {av : List Value} : FrameBlind (va_Pc av (zP G tys wc sz)) := fun a U g mk q => by
  obtain ⟨q0, q1, qP, qK, qD⟩ := q
  exact ⟨q0, q1, qP, va_K.moved (u := U) (U := U.calling g mk a) (Vm.Alike.refl U.vm) qK, qD⟩
/-- a contract out of a walk of the body -/
theorem z_start {l : Launch} {y : MethodName} {wsY wsY' : List Cond} {rm : Room} {G : va_G} {tys : List (ClassId × FieldType)} {S : Type} {av : List Value} {wc : va_W} {res : S → Option Value} {post : S → Prop} {w1 : S → va_W} {mc ms : Nat} {cc : ByteArray} {maxL : Nat} {ret : Option FieldType} (hy : plainName y.cls = true) (hw : wsY = Cond.code y cc maxL ret :: wsY') (hlen : (lg_sl av).length ≤ maxL)
    (body : ∀ (p : Program) (e : Env) (s : State) (m : MethodId) (below : List Frame) (meth : Method) (c : Code) (A : Nat → Prop) (ls : Array Slot), CallFix p m c cc maxL s av.toArray wsY y.cls → meth.sig.returnType = ret → meth.locks = false → meth.name = y.name → A = va_A wc s.heap.size → (∀ q : Nat, s.heap.size ≤ q → A q) → zW G tys A s wc s.heap [] → lv_has ls maxL (lv_args 0 av) →
      W p l e rm s m av.toArray below meth c s.heap [] 0 0 (MQ below (zQ res post (zB G tys w1 A) A) av.toArray s mc ms A) (F0 m 0 ls [])) : zC l y wsY rm G tys av wc res post w1 mc ms := by
  intro sz
  refine Met.ofW (cc := cc) (maxL := maxL) (ret := ret) hy hw ?_
  intro p e s m args below meth c s₁ B hml hv
  obtain ⟨rfl, hsz, hP, hK, hD0⟩ := hv
  subst hsz
  have hown : s.vm.findClass y.cls = some m.cls := findClass_of_methodNamed B.named
  have hl := lv_entry av (n := maxL) hlen
  rw [lg_entry_eq]
  exact body p e s m below meth c _ _ ⟨B.exec, B.bytes, hml, hown, atoms_spec (ws := wsY) B.pre⟩ B.returns B.notSynchronized (name_of_methodNamed B.named B.method).1 rfl (fun q h => Or.inr h) ⟨hK, hP, hD0.self, va_S.rf⟩ hl
section ZC
variable {p : Program} {l : Launch} {e : Env} {R : Room} {s : State} {m : MethodId} {args : Array Value} {below : List Frame} {meth : Method} {c : Code} {H : Heap} {locs : List Loc} {cells slots : Nat} {Q : State → Prop}
variable {cc : ByteArray} {pc : Nat} {ls : Array Slot} {rest : List Value} {G : va_G} {tys : List (ClassId × FieldType)} {A : Nat → Prop} {ws : va_W} {a : Nat}
theorem z_iald (hexec : p.tables.exec = Jvm.exec) (hb : c.code = cc) (hW : zW G tys A s ws H locs) (q0 t0 : Nat) {cA : ClassId} {n : Nat} {f : Int → Int} {i : Int} (ha : ws[q0]? = some (a, .inl (cA, n, .inl (aI f)))) (ht : tys[t0]? = some (cA, .int)) (hn : n < 2147483648) (h0 : 0 ≤ i ∧ i < n) (hdg : decode cc pc = .ok (.iaload, 1))
    (kk : W p l e R s m args below meth c H locs cells slots Q (F0 m (pc + 1) ls (.int (iI (f i)) :: rest))) : W p l e R s m args below meth c H locs cells slots Q (F0 m pc ls (.int (iI i) :: .ref a :: rest)) :=
  va_iald hexec hb hW.1 hW.2.1 q0 t0 ha ht (iI_in h0.1 h0.2 hn) hdg (by rw [aI_at h0.1 (by omega)]; exact kk)
theorem z_lald (hexec : p.tables.exec = Jvm.exec) (hb : c.code = cc) (hW : zW G tys A s ws H locs) (q0 t0 : Nat) {cA : ClassId} {n : Nat} {f : Int → Int} {i : Int} (ha : ws[q0]? = some (a, .inl (cA, n, .inr (.inl (aL f))))) (ht : tys[t0]? = some (cA, .long)) (hn : n < 2147483648) (h0 : 0 ≤ i ∧ i < n) (hdg : decode cc pc = .ok (.laload, 1))
    (kk : W p l e R s m args below meth c H locs cells slots Q (F0 m (pc + 1) ls (.long (lI (f i)) :: rest))) : W p l e R s m args below meth c H locs cells slots Q (F0 m pc ls (.int (iI i) :: .ref a :: rest)) :=
  va_lald hexec hb hW.1 hW.2.1 q0 t0 ha ht (iI_in h0.1 h0.2 hn) hdg (by rw [aL_at h0.1 (by omega)]; exact kk)
theorem z_iast (hexec : p.tables.exec = Jvm.exec) (hb : c.code = cc) (hW : zW G tys A s ws H locs) (q0 t0 : Nat) {cA : ClassId} {n : Nat} {f : Int → Int} {i z : Int} (ha : ws[q0]? = some (a, .inl (cA, n, .inl (aI f)))) (ht : tys[t0]? = some (cA, .int)) (hn : n < 2147483648) (h0 : 0 ≤ i ∧ i < n) (hdg : decode cc pc = .ok (.iastore, 1))
    (kk : ∀ (H1 : Heap) (locs1 : List Loc), zW G tys A s (ws.set q0 (a, .inl (cA, n, .inl (aI (uI f i z))))) H1 locs1 → W p l e R s m args below meth c H1 locs1 cells slots Q (F0 m (pc + 1) ls rest)) : W p l e R s m args below meth c H locs cells slots Q (F0 m pc ls (.int (iI z) :: .int (iI i) :: .ref a :: rest)) :=
  va_iast hexec hb hW.1 hW.2.1 hW.2.2.1 hW.2.2.2 q0 t0 ha ht (iI_in h0.1 h0.2 hn) hdg (fun H1 locs1 h1 h2 h3 => kk H1 locs1 (by rw [aI_up h0.1 (by omega)] at h1 h2; exact ⟨hW.1, h1, h2, h3⟩))
theorem z_last (hexec : p.tables.exec = Jvm.exec) (hb : c.code = cc) (hW : zW G tys A s ws H locs) (q0 t0 : Nat) {cA : ClassId} {n : Nat} {f : Int → Int} {i z : Int} (ha : ws[q0]? = some (a, .inl (cA, n, .inr (.inl (aL f))))) (ht : tys[t0]? = some (cA, .long)) (hn : n < 2147483648) (h0 : 0 ≤ i ∧ i < n) (hdg : decode cc pc = .ok (.lastore, 1))
    (kk : ∀ (H1 : Heap) (locs1 : List Loc), zW G tys A s (ws.set q0 (a, .inl (cA, n, .inr (.inl (aL (uI f i z)))))) H1 locs1 → W p l e R s m args below meth c H1 locs1 cells slots Q (F0 m (pc + 1) ls rest)) : W p l e R s m args below meth c H locs cells slots Q (F0 m pc ls (.long (lI z) :: .int (iI i) :: .ref a :: rest)) :=
  va_last hexec hb hW.1 hW.2.1 hW.2.2.1 hW.2.2.2 q0 t0 ha ht (iI_in h0.1 h0.2 hn) hdg (fun H1 locs1 h1 h2 h3 => kk H1 locs1 (by rw [aL_up h0.1 (by omega)] at h1 h2; exact ⟨hW.1, h1, h2, h3⟩))
theorem z_alen (hexec : p.tables.exec = Jvm.exec) (hb : c.code = cc) (hW : zW G tys A s ws H locs) (q0 t0 : Nat) {cA : ClassId} {x : vp_A} (ha : ws[q0]? = some (a, .inl (cA, x))) {ty : FieldType} (ht : tys[t0]? = some (cA, ty)) (hdg : decode cc pc = .ok (.arraylength, 1))
    (kk : W p l e R s m args below meth c H locs cells slots Q (F0 m (pc + 1) ls (.int (iI (x.1 : Int)) :: rest))) : W p l e R s m args below meth c H locs cells slots Q (F0 m pc ls (.ref a :: rest)) :=
  va_alen hexec hb hW.1 hW.2.1 q0 t0 ha ht (iI_nat x.1) hdg kk
theorem z_get (hexec : p.tables.exec = Jvm.exec) (hb : c.code = cc) {own C : String} {T : u_T} {N ci index : Nat} {Ts : List Cond} (hts : ∀ w ∈ Ts, w.before args s = true) (hin : ∀ w ∈ u_ws C T N, w ∈ Ts) (hown : s.vm.findClass own = some m.cls) (hW : zW G tys A s ws H locs) (q0 k i : Nat) {fs : List Value} {v : Value} (he : ws[q0]? = some (a, .inr (ci, fs))) (hc : vwCl[ci]? = some (C, T, N)) (hv : fs[k]? = some v) (hk : k < N) (hlink : Ts[i]? = some (.fieldLink own index (T k).1 (T k).2.1 (T k).2.2.1)) (hdg : decode cc pc = .ok (.getfield index, 3))
    (kk : W p l e R s m args below meth c H locs cells slots Q (F0 m (pc + 3) ls (v :: rest))) : W p l e R s m args below meth c H locs cells slots Q (F0 m pc ls (.ref a :: rest)) :=
  va_get hexec hb hts hin hown hW.1 hW.2.1 q0 he hc k hk (hts _ (List.mem_of_getElem? hlink)) (fun _ h => h) hv hdg kk
theorem z_put (hexec : p.tables.exec = Jvm.exec) (hb : c.code = cc) {own C : String} {T : u_T} {N ci index : Nat} {Ts : List Cond} (hts : ∀ w ∈ Ts, w.before args s = true) (hin : ∀ w ∈ u_ws C T N, w ∈ Ts) (ty0 : Nat → FieldType) (hty : ∀ k, k < N → parseFieldDescriptor (T k).2.2.1 = some (ty0 k)) (hnm : ∀ a, a < N → ∀ b, b < N → a ≠ b → (T a).2.1 ≠ (T b).2.1) (hown : s.vm.findClass own = some m.cls) (hW : zW G tys A s ws H locs) (q0 k i : Nat) {fs : List Value} {v : Value} (he : ws[q0]? = some (a, .inr (ci, fs))) (hc : vwCl[ci]? = some (C, T, N)) (hk : k < N) (hl : k < fs.length) (hlink : Ts[i]? = some (.fieldLink own index (T k).1 (T k).2.1 (T k).2.2.1)) (hfin : (T k).2.2.2 = false) (hn : narrow (ty0 k) v = v) (hfit : fits (ty0 k) v = true) (hdg : decode cc pc = .ok (.putfield index, 3))
    (kk : ∀ (H1 : Heap) (locs1 : List Loc), zW G tys A s (ws.set q0 (a, .inr (ci, fs.set k v))) H1 locs1 → W p l e R s m args below meth c H1 locs1 cells slots Q (F0 m (pc + 3) ls rest)) : W p l e R s m args below meth c H locs cells slots Q (F0 m pc ls (v :: .ref a :: rest)) :=
  va_put hexec hb hts hin ty0 hty hnm hown hW.1 hW.2.1 hW.2.2.1 hW.2.2.2 q0 he hc k hk (hts _ (List.mem_of_getElem? hlink)) (fun _ h => h) hfin (hty k hk) hn hfit hl hdg (fun H1 locs1 h1 h2 h3 => kk H1 locs1 ⟨hW.1, h1, h2, h3⟩)
variable {S : Type} {res : S → Option Value} {post : S → Prop} {w1 : S → va_W} {mc ms : Nat}
theorem z_iret {z : Int} {r : S → Int} (hexec : p.tables.exec = Jvm.exec) (hb : c.code = cc) (hr : meth.sig.returnType = some .int) (hlk : meth.locks = false) (hW : zW G tys A s ws H locs) (u : S) (hres : r u = z) (hpost : post u) (hws : w1 u = ws) (hdg : decode cc pc = .ok (.ireturn, 1)) :
    W p l e R s m args below meth c H locs mc ms (MQ below (zQ (zI r) post (zB G tys w1 A) A) args s mc ms A) (F0 m pc ls [.int (iI z)]) :=
  W.iret hexec hb hr (fun t ht hWm => ⟨⟨u, by rw [← hres]; rfl, hpost, by rw [hws, ht]; exact hW.2.1, va_K.moved hWm.alike hW.1, by rw [hws]; exact hW.2.2.1⟩, hW.2.2.2.F ht⟩) hW.2.2.2.2.2 hdg hlk
theorem z_zret {z : Int} {r : S → Int} (hexec : p.tables.exec = Jvm.exec) (hb : c.code = cc) (hr : meth.sig.returnType = some .boolean) (hlk : meth.locks = false) (h01 : z = 0 ∨ z = 1) (hW : zW G tys A s ws H locs) (u : S) (hres : r u = z) (hpost : post u) (hws : w1 u = ws) (hdg : decode cc pc = .ok (.ireturn, 1)) :
    W p l e R s m args below meth c H locs mc ms (MQ below (zQ (zI r) post (zB G tys w1 A) A) args s mc ms A) (F0 m pc ls [.int (iI z)]) :=
  W.zret hexec hb hr (by rcases h01 with rfl | rfl <;> decide) (fun t ht hWm => ⟨⟨u, by rw [← hres]; rfl, hpost, by rw [hws, ht]; exact hW.2.1, va_K.moved hWm.alike hW.1, by rw [hws]; exact hW.2.2.1⟩, hW.2.2.2.F ht⟩) hW.2.2.2.2.2 hdg hlk
theorem z_lret {z : Int} {r : S → Int} (hexec : p.tables.exec = Jvm.exec) (hb : c.code = cc) (hr : meth.sig.returnType = some .long) (hlk : meth.locks = false) (hW : zW G tys A s ws H locs) (u : S) (hres : r u = z) (hpost : post u) (hws : w1 u = ws) (hdg : decode cc pc = .ok (.lreturn, 1)) :
    W p l e R s m args below meth c H locs mc ms (MQ below (zQ (zL r) post (zB G tys w1 A) A) args s mc ms A) (F0 m pc ls [.long (lI z)]) :=
  W.lret hexec hb hr (fun t ht hWm => ⟨⟨u, by rw [← hres]; rfl, hpost, by rw [hws, ht]; exact hW.2.1, va_K.moved hWm.alike hW.1, by rw [hws]; exact hW.2.2.1⟩, hW.2.2.2.F ht⟩) hW.2.2.2.2.2 hdg hlk
theorem z_vret (hexec : p.tables.exec = Jvm.exec) (hb : c.code = cc) (hr : meth.sig.returnType = none) (hlk : meth.locks = false) (hW : zW G tys A s ws H locs) (u : S) (hpost : post u) (hws : w1 u = ws) (hdg : decode cc pc = .ok (.return_, 1)) :
    W p l e R s m args below meth c H locs mc ms (MQ below (zQ zN post (zB G tys w1 A) A) args s mc ms A) (F0 m pc ls []) :=
  W.vret hexec hb hr (fun t ht hWm => ⟨⟨u, rfl, hpost, by rw [hws, ht]; exact hW.2.1, va_K.moved hWm.alike hW.1, by rw [hws]; exact hW.2.2.1⟩, hW.2.2.2.F ht⟩) hW.2.2.2.2.2 hdg hlk
theorem z_oret {o : Option Nat} {r : S → Option Nat} {C : String} (hexec : p.tables.exec = Jvm.exec) (hb : c.code = cc) (hr : meth.sig.returnType = some (.object C)) (hlk : meth.locks = false) (hW : zW G tys A s ws H locs) (u : S) (hres : r u = o) (hpost : post u) (hws : w1 u = ws) (hdg : decode cc pc = .ok (.areturn, 1)) :
    W p l e R s m args below meth c H locs mc ms (MQ below (zQ (zO r) post (zB G tys w1 A) A) args s mc ms A) (F0 m pc ls [va_rf o]) :=
  W.aret hexec hb hr (Or.inl ⟨C, rfl⟩) (by cases o; exact Or.inl rfl; exact Or.inr ⟨_, rfl⟩) (fun t ht hWm => ⟨⟨u, by rw [← hres]; rfl, hpost, by rw [hws, ht]; exact hW.2.1, va_K.moved hWm.alike hW.1, by rw [hws]; exact hW.2.2.1⟩, hW.2.2.2.F ht⟩) hW.2.2.2.2.2 hdg hlk
theorem z_call {wc : va_W} {av : Array Value} {st0 : List Value} (hr : va_Run p l e R s m args below meth c H locs cells slots 0 0 (F0 m pc ls st0) rest (zQ res post (zB G tys w1 (va_A wc H.size)) (va_A wc H.size) av) (va_A wc H.size)) (hW : zW G tys A s ws H locs) (hA : ∀ q, s.heap.size ≤ q → A q) {isC : List Nat} (hC : isC.map (fun i => ws[i]?) = wc.map some) (hs : ∀ u, (w1 u).map Prod.fst = wc.map Prod.fst) {ws' : S → va_W} (hz : ∀ u, zset ws isC (w1 u) = ws' u) {st1 : S → List Value} (hst : ∀ u, (res u).toList ++ rest = st1 u)
    (kk : ∀ (u : S) (H1 : Heap) (locs1 : List Loc), post u → zW G tys A s (ws' u) H1 locs1 → W p l e R s m args below meth c H1 locs1 cells slots Q (F0 m (pc + 3) ls (st1 u))) : W p l e R s m args below meth c H locs cells slots Q (F0 m pc ls st0) := by
  intro T hT X
  obtain ⟨v, st₀, t, T', L, h0, X', hL, e1, e2, ⟨⟨u, hv, hp, hb⟩, hzz, hk⟩, st⟩ := hr T hT X
  cases hv
  rw [h0] at hzz hk
  have hFc := va_free hW.2.2.1 hW.2.2.2 hA isC hC
  have hS := hW.2.2.2
  have kk1 := kk u T'.heap (locs ++ L) hp ⟨hW.1, by rw [← hz]; exact zset_P hW.2.1 hW.2.2.1 hC (fun q h1 h2 => by rw [e1]; exact hk q h1 h2) (by rw [e1]; exact hb.1) (hs u), by rw [← hz]; exact zset_D hW.2.2.1 hC (hs u), Nat.le_trans hS.1 (by rw [e1]; exact hzz), fun q h1 h2 => by rw [e1, hk q (Nat.lt_of_lt_of_le h1 hS.1) (fun z => h2 (hFc q z))]; exact hS.2.1 q h1 h2, fun q hq => by
      rcases List.mem_append.mp hq with h | h
      · exact hS.2.2 q h
      · exact hFc _ (hL q h)⟩
  rw [← hst] at kk1
  obtain ⟨t2, a1, b1⟩ := kk1 T' rfl X'
  exact ⟨t2, st t2 a1, b1⟩
variable {y : MethodName} {bytes : ByteArray} {maxL nL n index : Nat} {ret : Option FieldType} {wsY wsY' : List Cond} {rm : Room} {Ts : List Cond} {own C : String} {b : Addr} {As : List Value} {wc : va_W} {st0 : List Value}
theorem z_callV (F : CallFix p m c cc nL s args Ts own) (hM : zC l y wsY rm G tys (.ref b :: As) wc res post w1 0 0) (hg : GoodIn Ts (wsV own index C y wsY)) (hw : wsY = Cond.code y bytes maxL ret :: wsY') (hd : y.cls = C ∧ y.cls ≠ "java/lang/invoke/MethodHandle" ∧ y.cls ≠ "java/lang/invoke/VarHandle" ∧ (parseMethodDescriptor y.desc).map (fun d => d.parameters.length) = some n) (hrm : rm.cells = 0 ∧ rm.slots = 0 ∧ rm.frames + 1 ≤ R.frames ∧ 8 + (maxL + 11) + rm.locals ≤ R.locals) (hn : As.length = n) (hls : ls.size = nL) (hst0 : st0 = As.reverse ++ .ref b :: rest) (hrest : (rest.map fun v => v.category).sum ≤ 8) (hdg : decode cc pc = .ok (.invokevirtual index, 3)) (hf : cells ≤ R.cells ∧ slots ≤ R.slots)
    (hW : zW G tys A s ws H locs) (hA : ∀ q, s.heap.size ≤ q → A q) (isC : List Nat) (hC : isC.map (fun i => ws[i]?) = wc.map some) (hnd : va_nd isC = true) (hs : ∀ u, (w1 u).map Prod.fst = wc.map Prod.fst) (ws' : S → va_W) (hz : ∀ u, zset ws isC (w1 u) = ws' u) (st1 : S → List Value) (hst : ∀ u, (res u).toList ++ rest = st1 u) (q0 : Nat) {ci : Nat} {fs : List Value} {r : vw_C} (he : ws[q0]? = some (b, .inr (ci, fs))) (hc : vwCl[ci]? = some r) (hrC : r.1 = C)
    (kk : ∀ (u : S) (H1 : Heap) (locs1 : List Loc), post u → zW G tys A s (ws' u) H1 locs1 → W p l e R s m args below meth c H1 locs1 cells slots Q (F0 m (pc + 3) ls (st1 u))) : W p l e R s m args below meth c H locs cells slots Q (F0 m pc ls st0) := by
  subst hst0
  subst hrC
  refine z_call (va_runV (As := As) (rest := rest) F (hM H.size) (cwV n F.2.2.2.2 hg hw hrm.1 hrm.2.1 hd hrm.2.2) ⟨zP_blind, va_recv hW.1 hW.2.1 hc he, fun U hU hWm => ⟨rfl, by rw [hU], by rw [hU]; exact zsub_P hW.2.1 hC, va_K.moved hWm.alike hW.1, (hW.2.2.1.sub isC hnd hC).weaken (fun _ _ _ _ => trivial)⟩⟩ rfl hn hls rfl (lv_room hrest) hdg hf) hW hA hC hs hz hst kk
theorem z_callS (F : CallFix p m c cc nL s args Ts own) (hM : zC l y wsY rm G tys As wc res post w1 0 0) (hg : GoodIn Ts (va_wsS own index y wsY)) (hw : wsY = Cond.code y bytes maxL ret :: wsY') (hd : y.cls = C ∧ y.cls ≠ "java/lang/invoke/MethodHandle" ∧ y.cls ≠ "java/lang/invoke/VarHandle" ∧ (parseMethodDescriptor y.desc).map (fun d => d.parameters.length) = some n) (hrm : rm.cells = 0 ∧ rm.slots = 0 ∧ rm.frames + 1 ≤ R.frames ∧ 8 + (maxL + 11) + rm.locals ≤ R.locals) (hn : As.length = n) (hls : ls.size = nL) (hst0 : st0 = As.reverse ++ rest) (hrest : (rest.map fun v => v.category).sum ≤ 8) (hdg : decode cc pc = .ok (.invokestatic index, 3)) (hf : cells ≤ R.cells ∧ slots ≤ R.slots)
    (hW : zW G tys A s ws H locs) (hA : ∀ q, s.heap.size ≤ q → A q) (isC : List Nat) (hC : isC.map (fun i => ws[i]?) = wc.map some) (hnd : va_nd isC = true) (hs : ∀ u, (w1 u).map Prod.fst = wc.map Prod.fst) (ws' : S → va_W) (hz : ∀ u, zset ws isC (w1 u) = ws' u) (st1 : S → List Value) (hst : ∀ u, (res u).toList ++ rest = st1 u)
    (kk : ∀ (u : S) (H1 : Heap) (locs1 : List Loc), post u → zW G tys A s (ws' u) H1 locs1 → W p l e R s m args below meth c H1 locs1 cells slots Q (F0 m (pc + 3) ls (st1 u))) : W p l e R s m args below meth c H locs cells slots Q (F0 m pc ls st0) := by
  subst hst0
  have ok : ∀ w ∈ va_wsS own index y wsY, w.before args s = true := fun w h => F.2.2.2.2 w (hg w h).1
  refine z_call (va_runS (As := As) (rest := rest) F (hM H.size) ⟨callB_of n F.2.2.2.2 (fun w h => hg w (by unfold va_wsS; exact List.mem_append_right _ h)) hw hrm.1 hrm.2.1 (ok _ (by simp [va_wsS])) (ok _ (by simp [va_wsS])) hd.2 hrm.2.2, ok _ (by simp [va_wsS])⟩ ⟨zP_blind, fun U hU hWm => ⟨rfl, by rw [hU], by rw [hU]; exact zsub_P hW.2.1 hC, va_K.moved hWm.alike hW.1, (hW.2.2.1.sub isC hnd hC).weaken (fun _ _ _ _ => trivial)⟩⟩ rfl hn hls rfl (lv_room hrest) hdg hf) hW hA hC hs hz hst kk
end ZC
