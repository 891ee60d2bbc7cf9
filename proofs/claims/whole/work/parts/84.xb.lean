/-! contracts of a method that throws, and of one that catches -/
def xBd : List Cond := [.declares (Bundle.initS XR), .declares (Bundle.initS "java/lang/Exception"), .declares (Bundle.initS Bundle.tN), .castable XE XE]
def xB (U : State) : Prop := ∀ w ∈ xBd, w.before #[] U = true
theorem xB.go {s U : State} (h : xB s) (hv : s.vm.Alike U.vm) (a : Array Value) : ∀ w ∈ xBd, w.before a U = true := by
  intro w hw
  have h1 := List.all_eq_true.mp (show xBd.all (fun w => w.faceAtom && w.onTables) = true by decide +kernel) w hw
  simp only [Bool.and_eq_true] at h1
  exact va_tabs (u := s.setVm U.vm) h1.2 rfl (Cond.faceAtom_setVm hv w h1.1 (h w hw))
def zPX (G : va_G) (tys : List (ClassId × FieldType)) (aK aV : Nat → Nat) (wc : va_W) (sz : Nat) (U : State) : Prop := (zP G tys wc sz U ∧ sX aK aV (va_A wc sz) U U.heap) ∧ xB U
theorem zPX_blind {G : va_G} {tys : List (ClassId × FieldType)} {wc : va_W} {sz : Nat} {av : List Value} {aK aV : Nat → Nat} : FrameBlind (va_Pc av (zPX G tys aK aV wc sz)) := fun a U g mk q => by
  obtain ⟨q0, ⟨⟨q1, qP, qK, qD⟩, qX⟩, qB⟩ := q
  exact ⟨q0, ⟨⟨q1, qP, va_K.moved (u := U) (U := U.calling g mk a) (Vm.Alike.refl U.vm) qK, qD⟩, sX.same (s := U) (U := U.calling g mk a) qX rfl⟩, fun w hw => qB.go (U := U.calling g mk a) (Vm.Alike.refl U.vm) #[] w hw⟩
def zXT (G : va_G) (tys : List (ClassId × FieldType)) (wc : va_W) (sz : Nat) (E0 : String) : String → State → State → Prop := fun E st t => E = E0 ∧ va_P G vwCl wc t.heap ∧ va_F (va_A wc sz) st t
/-- with the arguments av and the cells wc the method throws an E0, the cells as they were -/
def zCX (l : Launch) (y : MethodName) (wsY : List Cond) (rm : Room) (G : va_G) (tys : List (ClassId × FieldType)) (aK aV : Nat → Nat) (E0 : String) (av : List Value) (wc : va_W) (mc ms : Nat) : Prop :=
  ∀ sz : Nat, vx_Met l y wsY rm (va_Pc av (zPX G tys aK aV wc sz)) (fun _ _ _ _ => False) (zXT G tys wc sz E0) mc ms (va_A wc sz)
theorem z_startX {l : Launch} {y : MethodName} {wsY wsY' : List Cond} {rm : Room} {G : va_G} {tys : List (ClassId × FieldType)} {aK aV : Nat → Nat} {E0 : String} {av : List Value} {wc : va_W} {mc ms : Nat} {cc : ByteArray} {maxL : Nat} {ret : Option FieldType} (hy : plainName y.cls = true) (hw : wsY = Cond.code y cc maxL ret :: wsY') (hlen : (lg_sl av).length ≤ maxL)
    (body : ∀ (p : Program) (e : Env) (s : State) (m : MethodId) (below : List Frame) (meth : Method) (c : Code) (A : Nat → Prop) (ls : Array Slot), CallFix p m c cc maxL s av.toArray wsY y.cls → (∀ x ∈ c.exceptionTable.toList, False) → meth.locks = false → A = va_A wc s.heap.size → (∀ q : Nat, s.heap.size ≤ q → A q) → zW G tys A s wc s.heap [] → lv_has ls maxL (lv_args 0 av) → sX aK aV A s s.heap → xB s →
      W p l e rm s m av.toArray below meth c s.heap [] 0 0 (vx_MQ below (fun _ _ _ _ => False) (zXT G tys wc s.heap.size E0) av.toArray s mc ms A) (F0 m 0 ls [])) : zCX l y wsY rm G tys aK aV E0 av wc mc ms := by
  intro sz
  refine vx_ofW (cc := cc) (maxL := maxL) (ret := ret) hy hw ?_
  intro p e s m args below meth c s₁ B hml htab hv
  obtain ⟨rfl, ⟨⟨hsz, hP, hK, hD0⟩, hX⟩, hB⟩ := hv
  subst hsz
  have hown : s.vm.findClass y.cls = some m.cls := findClass_of_methodNamed B.named
  have hl := lv_entry av (n := maxL) hlen
  rw [lg_entry_eq]
  exact body p e s m below meth c _ _ ⟨B.exec, B.bytes, hml, hown, atoms_spec (ws := wsY) B.pre⟩ htab B.notSynchronized rfl (fun q h => Or.inr h) ⟨hK, hP, hD0.self, va_S.rf⟩ hl hX hB
theorem z_ofWH {l : Launch} {y : MethodName} {ws ws' : List Cond} {rm : Room} {Pc : Array Value → State → Prop} {Qc : Array Value → State → Outcome → State → Prop} {mc ms : Nat} {free : Addr → Prop} {cc : ByteArray} {maxL : Nat} {ret : Option FieldType} {hh : List (Nat × Nat × Nat × Nat)}
    (hy : plainName y.cls = true) (hw : ws = Cond.codeWith y cc maxL ret hh :: ws')
    (body : ∀ p e s m args below meth c s₁, BodyLoose p l y (headSpec ws rm) cc maxL ret e s m args below meth c s₁ → c.maxLocals = maxL → c.exceptionTable.toList = tableOf hh → Pc args s →
      W p l e (headSpec ws rm).room s m args below meth c s.heap [] 0 0 (MQ below Qc args s mc ms free) (entryFrame m args maxL)) : Met l y ws rm Pc Qc mc ms free := by
  refine MetFree.of_bodyS (code := cc) (maxLocals := maxL) (ret := ret) hy ?_ ?_
  · intro args s m h hn
    obtain ⟨m9, meth, c, hn9, h1, h2, h3, h4, -, h5, h6, -⟩ := Cond.codeWith_spec (atoms_spec (ws := ws) h _ (by rw [hw]; exact List.mem_cons_self))
    cases hn.symm.trans hn9
    exact ⟨meth, c, h1, h2, h3, h4, h5, h6⟩
  · intro p e s m args below meth c s₁ B hml hP _
    have hh0 : s₁.heap = s.heap := by rw [B.state]; rfl
    obtain ⟨t, a1, o, b1, b2, b3⟩ := body p e s m args below meth c s₁ B hml (vx_table (x := y) B (atoms_spec (ws := ws) B.pre _ (by rw [hw]; exact List.mem_cons_self))) hP s₁ hh0 (Stand.of_body B)
    exact ⟨t, o, a1, b1, b2, b3⟩
/-- a contract of a method with handlers -/
def zCH (l : Launch) (y : MethodName) (wsY : List Cond) (rm : Room) (G : va_G) (tys : List (ClassId × FieldType)) (aK aV : Nat → Nat) {S : Type} (av : List Value) (wc : va_W) (res : S → Option Value) (post : S → Prop) (w1 : S → va_W) (mc ms : Nat) : Prop :=
  ∀ sz : Nat, Met l y wsY rm (va_Pc av (zPX G tys aK aV wc sz)) (zQ res post (zB G tys w1 (va_A wc sz)) (va_A wc sz)) mc ms (va_A wc sz)
theorem z_startH {l : Launch} {y : MethodName} {wsY wsY' : List Cond} {rm : Room} {G : va_G} {tys : List (ClassId × FieldType)} {aK aV : Nat → Nat} {S : Type} {av : List Value} {wc : va_W} {res : S → Option Value} {post : S → Prop} {w1 : S → va_W} {mc ms : Nat} {cc : ByteArray} {maxL : Nat} {ret : Option FieldType} {hh : List (Nat × Nat × Nat × Nat)} (hy : plainName y.cls = true) (hw : wsY = Cond.codeWith y cc maxL ret hh :: wsY') (hlen : (lg_sl av).length ≤ maxL)
    (body : ∀ (p : Program) (e : Env) (s : State) (m : MethodId) (below : List Frame) (meth : Method) (c : Code) (A : Nat → Prop) (ls : Array Slot), CallFix p m c cc maxL s av.toArray wsY y.cls → c.exceptionTable.toList = tableOf hh → meth.sig.returnType = ret → meth.locks = false → A = va_A wc s.heap.size → (∀ q : Nat, s.heap.size ≤ q → A q) → zW G tys A s wc s.heap [] → lv_has ls maxL (lv_args 0 av) → sX aK aV A s s.heap → xB s →
      W p l e rm s m av.toArray below meth c s.heap [] 0 0 (MQ below (zQ res post (zB G tys w1 A) A) av.toArray s mc ms A) (F0 m 0 ls [])) : zCH l y wsY rm G tys aK aV av wc res post w1 mc ms := by
  intro sz
  refine z_ofWH (cc := cc) (maxL := maxL) (ret := ret) (hh := hh) hy hw ?_
  intro p e s m args below meth c s₁ B hml htab hv
  obtain ⟨rfl, ⟨⟨hsz, hP, hK, hD0⟩, hX⟩, hB⟩ := hv
  subst hsz
  have hown : s.vm.findClass y.cls = some m.cls := findClass_of_methodNamed B.named
  have hl := lv_entry av (n := maxL) hlen
  rw [lg_entry_eq]
  exact body p e s m below meth c _ _ ⟨B.exec, B.bytes, hml, hown, atoms_spec (ws := wsY) B.pre⟩ htab B.returns B.notSynchronized rfl (fun q h => Or.inr h) ⟨hK, hP, hD0.self, va_S.rf⟩ hl hX hB
section ZX
variable {p : Program} {l : Launch} {e : Env} {R : Room} {s : State} {m : MethodId} {args : Array Value} {below : List Frame} {meth : Method} {c : Code} {H : Heap} {locs : List Loc} {cells slots : Nat} {Q : State → Prop}
variable {cc : ByteArray} {pc : Nat} {ls : Array Slot} {rest : List Value} {G : va_G} {tys : List (ClassId × FieldType)} {A : Nat → Prop} {rs : va_W} {a : Nat} {aK aV : Nat → Nat}
variable {S : Type} {res : S → Option Value} {post : S → Prop} {w1 : S → va_W} {mc ms : Nat}
variable {y : MethodName} {bytes : ByteArray} {maxL nL n index : Nat} {ret : Option FieldType} {wsY wsY' : List Cond} {rm : Room} {Ts : List Cond} {own C : String} {b : Addr} {As : List Value} {wc : va_W} {st0 : List Value} {E0 : String}
theorem zf_callX (F : CallFix p m c cc nL s args Ts own) (hX : sX aK aV A s s.heap) (hB : xB s) (hM : zCX l y wsY rm G tys aK aV E0 (.ref b :: As) wc mc ms) (hg : GoodIn Ts (wsV own index C y wsY)) (hw : wsY = Cond.code y bytes maxL ret :: wsY') (hd : y.cls = C ∧ y.cls ≠ "java/lang/invoke/MethodHandle" ∧ y.cls ≠ "java/lang/invoke/VarHandle" ∧ (parseMethodDescriptor y.desc).map (fun d => d.parameters.length) = some n) (hrm : rm.cells = mc ∧ rm.slots = ms ∧ rm.frames + 1 ≤ R.frames ∧ 8 + (maxL + 11) + rm.locals ≤ R.locals) (hn : As.length = n) (hls : ls.size = nL) (hst0 : st0 = As.reverse ++ .ref b :: rest) (hrest : (rest.map fun v => v.category).sum ≤ 8) (hdg : decode cc pc = .ok (.invokevirtual index, 3)) (hf : cells + mc ≤ R.cells ∧ slots + ms ≤ R.slots)
    (hW : zW G tys A s (wc ++ rs) H locs) (hA : ∀ q, s.heap.size ≤ q → A q) {ci : Nat} {fs : List Value} {r : vw_C} (he : wc[0]? = some (b, .inr (ci, fs))) (hc : vwCl[ci]? = some r) (hrC : r.1 = C)
    (kx : ∀ (ce : Cell) (q9 : Addr) (H1 : Heap) (locs1 : List Loc), zW G tys A s (wc ++ rs) H1 locs1 → H1[q9]? = some ce → ce.vm = .none → s.vm.findClass E0 = some ce.cls → vx_W p l e R s m args below meth c H1 locs1 (cells + mc) (slots + ms) Q (F0 m pc ls rest) q9) : W p l e R s m args below meth c H locs cells slots Q (F0 m pc ls st0) := by
  subst hst0
  subst hrC
  have hC := front_at wc rs
  have hFc := va_free hW.2.2.1 hW.2.2.2 hA _ hC
  have hr := vx_runV (e := e) (below := below) (meth := meth) (locs := locs) (As := As) (rest := rest) (g := F0 m pc ls (As.reverse ++ .ref b :: rest)) F (hM H.size) (cwV n F.2.2.2.2 hg hw hrm.1 hrm.2.1 hd hrm.2.2) ⟨zPX_blind, va_recv hW.1 hW.2.1 hc (front_0 he), fun U hU hWm => ⟨rfl, ⟨⟨by rw [hU], by rw [hU]; exact zsub_P hW.2.1 hC, va_K.moved hWm.alike hW.1, (hW.2.2.1.sub _ (front_nd wc) hC).weaken (fun _ _ _ _ => trivial)⟩, by rw [hU]; exact hX.go hW.2.2.2.2.1 hWm hFc⟩, fun w hw => hB.go hWm.alike #[] w hw⟩⟩ rfl hn hls rfl (lv_room hrest) hdg hf
  intro T hT X
  rcases hr T hT X with ⟨v, st₀, t, T', L, h0, X', hL, e1, e2, hF, st⟩ | ⟨q, st₀, t, T', L, E, ce, h0, X', hL, e1, e2, ⟨rfl, hP1, hzz, hk⟩, hce, hcv, hcl, st⟩
  · exact hF.elim
  · rw [h0] at hzz hk
    have hS := hW.2.2.2
    have hz : zset (wc ++ rs) (List.range wc.length) wc = wc ++ rs := zset_front rfl
    obtain ⟨t2, a1, b1⟩ := kx ce q T'.heap (locs ++ L) ⟨hW.1, by rw [← hz]; exact zset_P hW.2.1 hW.2.2.1 hC (fun q h1 h2 => by rw [e1]; exact hk q h1 h2) (by rw [e1]; exact hP1) rfl, hW.2.2.1, Nat.le_trans hS.1 (by rw [e1]; exact hzz), fun q h1 h2 => by rw [e1, hk q (Nat.lt_of_lt_of_le h1 hS.1) (fun z => h2 (hFc q z))]; exact hS.2.1 q h1 h2, fun q hq => by
      rcases List.mem_append.mp hq with h | h
      · exact hS.2.2 q h
      · exact hFc _ (hL q h)⟩ (by rw [e1]; exact hce) hcv hcl T' rfl X'
    exact ⟨t2, st.trans a1, b1⟩
theorem zf_callSH (F : CallFix p m c cc nL s args Ts own) (hX : sX aK aV A s s.heap) (hB : xB s) {hh : List (Nat × Nat × Nat × Nat)} (hM : zCH l y wsY rm G tys aK aV As wc res post w1 mc ms) (hg : GoodIn Ts (va_wsS own index y wsY)) (hw : wsY = Cond.codeWith y bytes maxL ret hh :: wsY') (hd : y.cls ≠ "java/lang/invoke/MethodHandle" ∧ y.cls ≠ "java/lang/invoke/VarHandle" ∧ (parseMethodDescriptor y.desc).map (fun d => d.parameters.length) = some n) (hrm : rm.cells = mc ∧ rm.slots = ms ∧ rm.frames + 1 ≤ R.frames ∧ 8 + (maxL + 11) + rm.locals ≤ R.locals) (hn : As.length = n) (hls : ls.size = nL) (hst0 : st0 = As.reverse ++ rest) (hrest : (rest.map fun v => v.category).sum ≤ 8) (hdg : decode cc pc = .ok (.invokestatic index, 3)) (hf : cells + mc ≤ R.cells ∧ slots + ms ≤ R.slots)
    (hW : zW G tys A s (wc ++ rs) H locs) (hA : ∀ q, s.heap.size ≤ q → A q) (hs : ∀ u, (w1 u).map Prod.fst = wc.map Prod.fst) (st1 : S → List Value) (hst : ∀ u, (res u).toList ++ rest = st1 u)
    (kk : ∀ (u : S) (H1 : Heap) (locs1 : List Loc), post u → zW G tys A s (w1 u ++ rs) H1 locs1 → W p l e R s m args below meth c H1 locs1 (cells + mc) (slots + ms) Q (F0 m (pc + 3) ls (st1 u))) : W p l e R s m args below meth c H locs cells slots Q (F0 m pc ls st0) := by
  subst hst0
  have hC := front_at wc rs
  have hFc := va_free hW.2.2.1 hW.2.2.2 hA _ hC
  have hr := vx_runSW (e := e) (below := below) (meth := meth) (locs := locs) (As := As) (rest := rest) (g := F0 m pc ls (As.reverse ++ rest)) F (hM H.size) (vx_cwSW n F.2.2.2.2 hg hw hrm.1 hrm.2.1 hd hrm.2.2) ⟨zPX_blind, fun U hU hWm => ⟨rfl, ⟨⟨by rw [hU], by rw [hU]; exact zsub_P hW.2.1 hC, va_K.moved hWm.alike hW.1, (hW.2.2.1.sub _ (front_nd wc) hC).weaken (fun _ _ _ _ => trivial)⟩, by rw [hU]; exact hX.go hW.2.2.2.2.1 hWm hFc⟩, fun w hw => hB.go hWm.alike #[] w hw⟩⟩ rfl hn hls rfl (lv_room hrest) hdg hf
  intro T hT X
  obtain ⟨v, st₀, t, T', L, h0, X', hL, e1, e2, ⟨⟨u, hv, hp, hb⟩, hzz, hk⟩, st⟩ := hr T hT X
  cases hv
  rw [h0] at hzz hk
  have hS := hW.2.2.2
  have kk1 := kk u T'.heap (locs ++ L) hp ⟨hW.1, by rw [← zset_front (rs := rs) (hs u)]; exact zset_P hW.2.1 hW.2.2.1 hC (fun q h1 h2 => by rw [e1]; exact hk q h1 h2) (by rw [e1]; exact hb.1) (hs u), by rw [← zset_front (rs := rs) (hs u)]; exact zset_D hW.2.2.1 hC (hs u), Nat.le_trans hS.1 (by rw [e1]; exact hzz), fun q h1 h2 => by rw [e1, hk q (Nat.lt_of_lt_of_le h1 hS.1) (fun z => h2 (hFc q z))]; exact hS.2.1 q h1 h2, fun q hq => by
      rcases List.mem_append.mp hq with h | h
      · exact hS.2.2 q h
      · exact hFc _ (hL q h)⟩
  rw [← hst] at kk1
  obtain ⟨t2, a1, b1⟩ := kk1 T' rfl X'
  exact ⟨t2, st t2 a1, b1⟩
end ZX
