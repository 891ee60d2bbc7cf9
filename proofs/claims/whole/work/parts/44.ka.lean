/-! texts that are constants: what stands outside every world -/
def wT (i : Nat) : List Int := match i with
  | 0 => [114, 97, 116, 101]
  | 1 => [105, 110, 100, 101, 120]
  | 2 => [108, 101, 97, 115, 101]
  | 3 => [98, 121]
  | 4 => [109, 97, 114, 107, 101, 116]
  | 5 => [116, 117, 114, 110, 111, 118, 101, 114]
  | 6 => [115, 116, 101, 112]
  | 7 => [99, 111, 108, 108, 97, 114]
  | 8 => [111, 118, 101, 114, 97, 108, 108]
  | 9 => [117, 112, 119, 97, 114, 100]
  | 10 => [98, 114, 101, 97, 107]
  | _ => []
def wR (i : Nat) : String × Nat × String := match i with
  | 0 => (RX7, 71, "rate")
  | 1 => (RX7, 77, "index")
  | 2 => (RX7, 79, "lease")
  | 3 => (RX7, 81, "by")
  | 4 => (RX7, 83, "market")
  | 5 => (RX7, 85, "turnover")
  | 6 => (RX7, 87, "step")
  | 7 => (RX7, 89, "collar")
  | 8 => (RX7, 91, "overall")
  | 9 => (RX7, 93, "upward")
  | 10 => (RX7, 95, "break")
  | 11 => (RX10, 106, "no such LEASE")
  | _ => (RX10, 139, "no such thing of a LEASE")
/-- a text at k with its bytes at w -/
def sO (k w n : Nat) (f : Int → Int) (A : Nat → Prop) (U : State) (H : Heap) : Prop := va_O "java/lang/String" k A U H ∧ va_OF "java/lang/String" "coder" "B" (.int (iI 0)) k A U H ∧ va_OF "java/lang/String" "value" "[B" (.ref w) k A U H ∧ va_T .byte w n (fun j => .int (iI (f (j : Int)))) A U H
def sX (aK aV : Nat → Nat) (A : Nat → Prop) (U : State) (H : Heap) : Prop :=
  va_Z "java/lang/String" "COMPACT_STRINGS" "Z" (.int (iI 1)) A U H ∧ va_Zq "jdk/internal/util/Preconditions" "SIOOBE_FORMATTER" "Ljava/util/function/BiFunction;" A U H ∧ (∀ i : Nat, i < 11 → sO (aK i) (aV i) (wT i).length (fun j => (wT i).getD j.toNat 0) A U H) ∧ (∀ i : Nat, i < 13 → vk_R (wR i).1 (wR i).2.1 (wR i).2.2 (aK i) U) ∧ vx_Zq Bundle.tN "UNASSIGNED_STACK" Bundle.steD A U H ∧ vx_Zq Bundle.tN "SUPPRESSED_SENTINEL" Bundle.listD A U H
theorem sX.go {aK aV : Nat → Nat} {A B : Nat → Prop} {s U : State} {H H1 : Heap} (h : sX aK aV A s H) (hq : ∀ a : Nat, a < H.size → ¬ A a → H1[a]? = H[a]?) (hWm : s.WarmedH U.vm) (hBA : ∀ q, B q → A q) : sX aK aV B U H1 := by
  obtain ⟨h1, h2, h3, h4, h5, h6⟩ := h
  refine ⟨?_, ?_, fun i hi => ?_, fun i hi => vk_R.warm hWm (h4 i hi), ?_, ?_⟩
  · exact va_Z.narrow (va_Z.moved hWm.alike (va_Z.kept h1 hq)) hBA
  · exact va_Zq.narrow (va_Zq.moved hWm.alike (va_Zq.kept h2 hq)) hBA
  · obtain ⟨k1, k2, k3, k4⟩ := h3 i hi
    exact ⟨(va_O.moved hWm.alike (k1.kept hq)).narrow hBA, (va_OF.moved hWm.alike (k2.kept hq)).narrow hBA, (va_OF.moved hWm.alike (k3.kept hq)).narrow hBA, (va_T.moved hWm.alike (k4.kept hq)).narrow hBA⟩
  · exact vx_Zq.narrow (vx_Zq.moved hWm.alike (vx_Zq.kept h5 hq)) hBA
  · exact vx_Zq.narrow (vx_Zq.moved hWm.alike (vx_Zq.kept h6 hq)) hBA
theorem sX.same {aK aV : Nat → Nat} {A : Nat → Prop} {s U : State} {H : Heap} (h : sX aK aV A s H) (hv : U.vm = s.vm) : sX aK aV A U H := h.go (fun _ _ _ => rfl) (by rw [hv]; exact State.WarmedH.refl s) (fun _ h => h)
/-- a contract of a method that reads constants -/
def zCK (l : Launch) (y : MethodName) (wsY : List Cond) (rm : Room) (G : va_G) (tys : List (ClassId × FieldType)) (aK aV : Nat → Nat) {S : Type} (av : List Value) (wc : va_W) (res : S → Option Value) (post : S → Prop) (w1 : S → va_W) (mc ms : Nat) : Prop :=
  ∀ sz : Nat, Met l y wsY rm (va_Pc av (fun U => zP G tys wc sz U ∧ sX aK aV (va_A wc sz) U U.heap)) (zQ res post (zB G tys w1 (va_A wc sz)) (va_A wc sz)) mc ms (va_A wc sz)
theorem zPK_blind {G : va_G} {tys : List (ClassId × FieldType)} {wc : va_W} {sz : Nat} {av : List Value} {aK aV : Nat → Nat} {A : Nat → Prop} : FrameBlind (va_Pc av (fun U => zP G tys wc sz U ∧ sX aK aV A U U.heap)) := fun a U g mk q => by
  obtain ⟨q0, ⟨q1, qP, qK, qD⟩, qX⟩ := q
  exact ⟨q0, ⟨q1, qP, va_K.moved (u := U) (U := U.calling g mk a) (Vm.Alike.refl U.vm) qK, qD⟩, sX.same (s := U) (U := U.calling g mk a) qX rfl⟩
theorem z_startK {l : Launch} {y : MethodName} {wsY wsY' : List Cond} {rm : Room} {G : va_G} {tys : List (ClassId × FieldType)} {aK aV : Nat → Nat} {S : Type} {av : List Value} {wc : va_W} {res : S → Option Value} {post : S → Prop} {w1 : S → va_W} {mc ms : Nat} {cc : ByteArray} {maxL : Nat} {ret : Option FieldType} (hy : plainName y.cls = true) (hw : wsY = Cond.code y cc maxL ret :: wsY') (hlen : (lg_sl av).length ≤ maxL)
    (body : ∀ (p : Program) (e : Env) (s : State) (m : MethodId) (below : List Frame) (meth : Method) (c : Code) (A : Nat → Prop) (ls : Array Slot), CallFix p m c cc maxL s av.toArray wsY y.cls → meth.sig.returnType = ret → meth.locks = false → meth.name = y.name → A = va_A wc s.heap.size → (∀ q : Nat, s.heap.size ≤ q → A q) → zW G tys A s wc s.heap [] → lv_has ls maxL (lv_args 0 av) → sX aK aV A s s.heap →
      W p l e rm s m av.toArray below meth c s.heap [] 0 0 (MQ below (zQ res post (zB G tys w1 A) A) av.toArray s mc ms A) (F0 m 0 ls [])) : zCK l y wsY rm G tys aK aV av wc res post w1 mc ms := by
  intro sz
  refine Met.ofW (cc := cc) (maxL := maxL) (ret := ret) hy hw ?_
  intro p e s m args below meth c s₁ B hml hv
  obtain ⟨rfl, ⟨hsz, hP, hK, hD0⟩, hX⟩ := hv
  subst hsz
  have hown : s.vm.findClass y.cls = some m.cls := findClass_of_methodNamed B.named
  have hl := lv_entry av (n := maxL) hlen
  rw [lg_entry_eq]
  exact body p e s m below meth c _ _ ⟨B.exec, B.bytes, hml, hown, atoms_spec (ws := wsY) B.pre⟩ B.returns B.notSynchronized (name_of_methodNamed B.named B.method).1 rfl (fun q h => Or.inr h) ⟨hK, hP, hD0.self, va_S.rf⟩ hl hX
section ZK
variable {p : Program} {l : Launch} {e : Env} {R : Room} {s : State} {m : MethodId} {args : Array Value} {below : List Frame} {meth : Method} {c : Code} {H : Heap} {locs : List Loc} {cells slots : Nat} {Q : State → Prop}
variable {cc : ByteArray} {pc : Nat} {ls : Array Slot} {rest : List Value} {G : va_G} {tys : List (ClassId × FieldType)} {A : Nat → Prop} {ws : va_W} {a : Nat} {aK aV : Nat → Nat}
variable {S : Type} {res : S → Option Value} {post : S → Prop} {w1 : S → va_W} {mc ms : Nat}
theorem z_nret {z : Int} {r : S → Int} {ty : FieldType} (hexec : p.tables.exec = Jvm.exec) (hb : c.code = cc) (hr : meth.sig.returnType = some ty) (hlk : meth.locks = false) (hn : narrow ty (.int (iI z)) = .int (iI z)) (hW : zW G tys A s ws H locs) (u : S) (hres : r u = z) (hpost : post u) (hws : w1 u = ws) (hdg : decode cc pc = .ok (.ireturn, 1)) :
    W p l e R s m args below meth c H locs mc ms (MQ below (zQ (zI r) post (zB G tys w1 A) A) args s mc ms A) (F0 m pc ls [.int (iI z)]) :=
  W.zret hexec hb hr hn (fun t ht hWm => ⟨⟨u, by rw [← hres]; rfl, hpost, by rw [hws, ht]; exact hW.2.1, va_K.moved hWm.alike hW.1, by rw [hws]; exact hW.2.2.1⟩, hW.2.2.2.F ht⟩) hW.2.2.2.2.2 hdg hlk
variable {y : MethodName} {bytes : ByteArray} {maxL nL n index : Nat} {ret : Option FieldType} {wsY wsY' : List Cond} {rm : Room} {Ts : List Cond} {own C : String} {b : Addr} {As : List Value} {wc : va_W} {st0 : List Value}
theorem z_callVK (F : CallFix p m c cc nL s args Ts own) (hX : sX aK aV A s s.heap) (hM : zCK l y wsY rm G tys aK aV (.ref b :: As) wc res post w1 0 0) (hg : GoodIn Ts (wsV own index C y wsY)) (hw : wsY = Cond.code y bytes maxL ret :: wsY') (hd : y.cls = C ∧ y.cls ≠ "java/lang/invoke/MethodHandle" ∧ y.cls ≠ "java/lang/invoke/VarHandle" ∧ (parseMethodDescriptor y.desc).map (fun d => d.parameters.length) = some n) (hrm : rm.cells = 0 ∧ rm.slots = 0 ∧ rm.frames + 1 ≤ R.frames ∧ 8 + (maxL + 11) + rm.locals ≤ R.locals) (hn : As.length = n) (hls : ls.size = nL) (hst0 : st0 = As.reverse ++ .ref b :: rest) (hrest : (rest.map fun v => v.category).sum ≤ 8) (hdg : decode cc pc = .ok (.invokevirtual index, 3)) (hf : cells ≤ R.cells ∧ slots ≤ R.slots)
    (hW : zW G tys A s ws H locs) (hA : ∀ q, s.heap.size ≤ q → A q) (isC : List Nat) (hC : isC.map (fun i => ws[i]?) = wc.map some) (hnd : va_nd isC = true) (hs : ∀ u, (w1 u).map Prod.fst = wc.map Prod.fst) (ws' : S → va_W) (hz : ∀ u, zset ws isC (w1 u) = ws' u) (st1 : S → List Value) (hst : ∀ u, (res u).toList ++ rest = st1 u) (q0 : Nat) {ci : Nat} {fs : List Value} {r : vw_C} (he : ws[q0]? = some (b, .inr (ci, fs))) (hc : vwCl[ci]? = some r) (hrC : r.1 = C)
    (kk : ∀ (u : S) (H1 : Heap) (locs1 : List Loc), post u → zW G tys A s (ws' u) H1 locs1 → W p l e R s m args below meth c H1 locs1 cells slots Q (F0 m (pc + 3) ls (st1 u))) : W p l e R s m args below meth c H locs cells slots Q (F0 m pc ls st0) := by
  subst hst0
  subst hrC
  have hFc := va_free hW.2.2.1 hW.2.2.2 hA isC hC
  refine z_call (va_runV (As := As) (rest := rest) F (hM H.size) (cwV n F.2.2.2.2 hg hw hrm.1 hrm.2.1 hd hrm.2.2) ⟨zPK_blind, va_recv hW.1 hW.2.1 hc he, fun U hU hWm => ⟨rfl, ⟨by rw [hU], by rw [hU]; exact zsub_P hW.2.1 hC, va_K.moved hWm.alike hW.1, (hW.2.2.1.sub isC hnd hC).weaken (fun _ _ _ _ => trivial)⟩, by rw [hU]; exact hX.go hW.2.2.2.2.1 hWm hFc⟩⟩ rfl hn hls rfl (lv_room hrest) hdg hf) hW hA hC hs hz hst kk
theorem z_callVT (F : CallFix p m c cc nL s args Ts own) (hX : sX aK aV A s s.heap) (hM : zCK l y wsY rm G tys aK aV (.ref b :: As) wc res post w1 0 0) (hg : GoodIn Ts (wsV own index "java/lang/String" y wsY)) (hw : wsY = Cond.code y bytes maxL ret :: wsY') (hd : y.cls = "java/lang/String" ∧ y.cls ≠ "java/lang/invoke/MethodHandle" ∧ y.cls ≠ "java/lang/invoke/VarHandle" ∧ (parseMethodDescriptor y.desc).map (fun d => d.parameters.length) = some n) (hrm : rm.cells = 0 ∧ rm.slots = 0 ∧ rm.frames + 1 ≤ R.frames ∧ 8 + (maxL + 11) + rm.locals ≤ R.locals) (hn : As.length = n) (hls : ls.size = nL) (hst0 : st0 = As.reverse ++ .ref b :: rest) (hrest : (rest.map fun v => v.category).sum ≤ 8) (hdg : decode cc pc = .ok (.invokevirtual index, 3)) (hf : cells ≤ R.cells ∧ slots ≤ R.slots)
    (hW : zW G tys A s ws H locs) (hA : ∀ q, s.heap.size ≤ q → A q) (isC : List Nat) (hC : isC.map (fun i => ws[i]?) = wc.map some) (hnd : va_nd isC = true) (hs : ∀ u, (w1 u).map Prod.fst = wc.map Prod.fst) (ws' : S → va_W) (hz : ∀ u, zset ws isC (w1 u) = ws' u) (st1 : S → List Value) (hst : ∀ u, (res u).toList ++ rest = st1 u) (hO : va_O "java/lang/String" b A s s.heap)
    (kk : ∀ (u : S) (H1 : Heap) (locs1 : List Loc), post u → zW G tys A s (ws' u) H1 locs1 → W p l e R s m args below meth c H1 locs1 cells slots Q (F0 m (pc + 3) ls (st1 u))) : W p l e R s m args below meth c H locs cells slots Q (F0 m pc ls st0) := by
  subst hst0
  have hFc := va_free hW.2.2.1 hW.2.2.2 hA isC hC
  have hrv : ∃ cell : Cell, H[b]? = some cell ∧ cell.vm.isStatics = false ∧ s.vm.findClass "java/lang/String" = some cell.cls := by
    obtain ⟨cell, h1, h2, h3, -⟩ := hO.kept hW.2.2.2.2.1
    exact ⟨cell, h1, h2, h3⟩
  refine z_call (va_runV (As := As) (rest := rest) F (hM H.size) (cwV n F.2.2.2.2 hg hw hrm.1 hrm.2.1 hd hrm.2.2) ⟨zPK_blind, hrv, fun U hU hWm => ⟨rfl, ⟨by rw [hU], by rw [hU]; exact zsub_P hW.2.1 hC, va_K.moved hWm.alike hW.1, (hW.2.2.1.sub isC hnd hC).weaken (fun _ _ _ _ => trivial)⟩, by rw [hU]; exact hX.go hW.2.2.2.2.1 hWm hFc⟩⟩ rfl hn hls rfl (lv_room hrest) hdg hf) hW hA hC hs hz hst kk
theorem z_callSK (F : CallFix p m c cc nL s args Ts own) (hX : sX aK aV A s s.heap) (hM : zCK l y wsY rm G tys aK aV As wc res post w1 0 0) (hg : GoodIn Ts (va_wsS own index y wsY)) (hw : wsY = Cond.code y bytes maxL ret :: wsY') (hd : y.cls = C ∧ y.cls ≠ "java/lang/invoke/MethodHandle" ∧ y.cls ≠ "java/lang/invoke/VarHandle" ∧ (parseMethodDescriptor y.desc).map (fun d => d.parameters.length) = some n) (hrm : rm.cells = 0 ∧ rm.slots = 0 ∧ rm.frames + 1 ≤ R.frames ∧ 8 + (maxL + 11) + rm.locals ≤ R.locals) (hn : As.length = n) (hls : ls.size = nL) (hst0 : st0 = As.reverse ++ rest) (hrest : (rest.map fun v => v.category).sum ≤ 8) (hdg : decode cc pc = .ok (.invokestatic index, 3)) (hf : cells ≤ R.cells ∧ slots ≤ R.slots)
    (hW : zW G tys A s ws H locs) (hA : ∀ q, s.heap.size ≤ q → A q) (isC : List Nat) (hC : isC.map (fun i => ws[i]?) = wc.map some) (hnd : va_nd isC = true) (hs : ∀ u, (w1 u).map Prod.fst = wc.map Prod.fst) (ws' : S → va_W) (hz : ∀ u, zset ws isC (w1 u) = ws' u) (st1 : S → List Value) (hst : ∀ u, (res u).toList ++ rest = st1 u)
    (kk : ∀ (u : S) (H1 : Heap) (locs1 : List Loc), post u → zW G tys A s (ws' u) H1 locs1 → W p l e R s m args below meth c H1 locs1 cells slots Q (F0 m (pc + 3) ls (st1 u))) : W p l e R s m args below meth c H locs cells slots Q (F0 m pc ls st0) := by
  subst hst0
  have ok : ∀ w ∈ va_wsS own index y wsY, w.before args s = true := fun w h => F.2.2.2.2 w (hg w h).1
  have hFc := va_free hW.2.2.1 hW.2.2.2 hA isC hC
  refine z_call (va_runS (As := As) (rest := rest) F (hM H.size) ⟨callB_of n F.2.2.2.2 (fun w h => hg w (by unfold va_wsS; exact List.mem_append_right _ h)) hw hrm.1 hrm.2.1 (ok _ (by simp [va_wsS])) (ok _ (by simp [va_wsS])) hd.2 hrm.2.2, ok _ (by simp [va_wsS])⟩ ⟨zPK_blind, fun U hU hWm => ⟨rfl, ⟨by rw [hU], by rw [hU]; exact zsub_P hW.2.1 hC, va_K.moved hWm.alike hW.1, (hW.2.2.1.sub isC hnd hC).weaken (fun _ _ _ _ => trivial)⟩, by rw [hU]; exact hX.go hW.2.2.2.2.1 hWm hFc⟩⟩ rfl hn hls rfl (lv_room hrest) hdg hf) hW hA hC hs hz hst kk
end ZK
