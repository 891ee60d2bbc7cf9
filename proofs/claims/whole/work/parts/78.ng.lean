/-! contracts of constructors that make rows of leases -/
section ZJ
variable {p : Program} {l : Launch} {e : Env} {R : Room} {s : State} {m : MethodId} {args : Array Value} {below : List Frame} {meth : Method} {c : Code} {H : Heap} {locs : List Loc} {cells slots : Nat} {Q : State → Prop}
variable {cc : ByteArray} {pc : Nat} {ls : Array Slot} {rest : List Value} {G : va_G} {tys : List (ClassId × FieldType)} {A : Nat → Prop} {ws : va_W} {a : Nat} {nL : Nat} {Ts : List Cond} {own : String}
variable {S : Type} {post : S → Prop} {u1 u2 : S → va_W} {mc ms : Nat} {y : MethodName} {bytes : ByteArray} {maxL index : Nat} {wsY wsY' : List Cond} {rm : Room} {C : String} {b : Addr} {wc : va_W}
theorem z_callIR (hr : va_Run p l e R s m args below meth c H locs cells slots mc ms (F0 m pc ls (.ref b :: rest)) rest (zQ (zN (S := S)) post (zB G tys (fun u => u1 u ++ u2 u) (va_A wc H.size)) (va_A wc H.size) [Value.ref b].toArray) (va_A wc H.size))
    (hW : zW G tys A s ws H locs) (hA : ∀ q, s.heap.size ≤ q → A q) (isC : List Nat) (hC : isC.map (fun i => ws[i]?) = wc.map some) (hs : ∀ u, (u1 u).map Prod.fst = wc.map Prod.fst) (ws' : S → va_W) (hz : ∀ u, zset ws isC (u1 u) ++ u2 u = ws' u)
    (kk : ∀ (u : S) (H1 : Heap) (locs1 : List Loc), post u → zW G tys A s (ws' u) H1 locs1 → W p l e R s m args below meth c H1 locs1 (cells + mc) (slots + ms) Q (F0 m (pc + 3) ls rest)) : W p l e R s m args below meth c H locs cells slots Q (F0 m pc ls (.ref b :: rest)) := by
  intro T hT X
  obtain ⟨v, st₀, t, T', L, h0, X', hL, e1, e2, ⟨⟨u, hv, hp, hb⟩, hzz, hk⟩, st⟩ := hr T hT X
  cases hv
  rw [h0] at hzz hk
  have hFc := va_free hW.2.2.1 hW.2.2.2 hA isC hC
  have hS := hW.2.2.2
  have hlen : (u1 u).length = wc.length := by
    have := congrArg List.length (hs u)
    simpa using this
  have hP1 : va_P G vwCl (u1 u) T'.heap := fun k q hq => by
    rw [e1]
    exact hb.1 k q (by rw [List.getElem?_append_left (List.getElem?_eq_some_iff.mp hq).1]; exact hq)
  have at2 : ∀ (k : Nat) (q : Nat × va_E), (u2 u)[k]? = some q → (u1 u ++ u2 u)[(u1 u).length + k]? = some q := fun k q hq => by
    rw [List.getElem?_append_right (by omega), show (u1 u).length + k - (u1 u).length = k by omega]
    exact hq
  have hnew : ∀ (k : Nat) (q : Nat × va_E), (u2 u)[k]? = some q → H.size ≤ q.1 := fun k q hq => by
    rcases hb.2.2.2 _ q (at2 k q hq) with ⟨k2, e9, he⟩ | h
    · exfalso
      have h9 : ((u1 u).map Prod.fst)[k2]? = some q.1 := by rw [hs u, List.getElem?_map, he]; rfl
      rw [List.getElem?_map] at h9
      cases hq9 : (u1 u)[k2]? with
      | none => rw [hq9] at h9; cases h9
      | some q9 =>
        rw [hq9] at h9
        have hlt := (List.getElem?_eq_some_iff.mp hq9).1
        have := hb.2.2.1 k2 _ q9 q (by rw [List.getElem?_append_left hlt]; exact hq9) (at2 k q hq) (Option.some.inj h9)
        omega
    · exact h
  have hold : ∀ (k : Nat) (q : Nat × va_E), (zset ws isC (u1 u))[k]? = some q → q.1 < H.size := fun k q hq => by
    have hlC : isC.length = (u1 u).length := by
      have h8 := congrArg List.length hC
      simp at h8
      omega
    rcases zset_at isC (u1 u) ws k q hlC hq with ⟨j, h8, h9⟩ | ⟨h8, h9⟩
    · have h7 : ((u1 u).map Prod.fst)[j]? = some q.1 := by rw [List.getElem?_map, h9]; rfl
      rw [hs u, List.getElem?_map] at h7
      cases hw9 : wc[j]? with
      | none => rw [hw9] at h7; cases h7
      | some q0 =>
        rw [hw9] at h7
        obtain ⟨i, hi, hwi⟩ := zsub_at hC hw9
        have := (hW.2.1 i q0 hwi).lt
        rw [← Option.some.inj h7]
        exact this
    · exact (hW.2.1 k q h9).lt
  have kk1 := kk u T'.heap (locs ++ L) hp ⟨hW.1, by rw [← hz]; exact (zset_P hW.2.1 hW.2.2.1 hC (fun q h1 h2 => by rw [e1]; exact hk q h1 h2) hP1 (hs u)).app (fun k q hq => by rw [e1]; exact hb.1 _ q (at2 k q hq)), by
      rw [← hz]
      exact (zset_D hW.2.2.1 hC (hs u)).app ⟨fun i j x z hi hj hxz => by have := hb.2.2.1 _ _ x z (at2 i x hi) (at2 j z hj) hxz; omega, fun k q hq => hA _ (Nat.le_trans hS.1 (hnew k q hq))⟩ (fun i j x z hi hj hxz => by have := hold i x hi; have := hnew j z hj; omega), Nat.le_trans hS.1 (by rw [e1]; exact hzz), fun q h1 h2 => by rw [e1, hk q (Nat.lt_of_lt_of_le h1 hS.1) (fun z => h2 (hFc q z))]; exact hS.2.1 q h1 h2, fun q hq => by
      rcases List.mem_append.mp hq with h | h
      · exact hS.2.2 q h
      · exact hFc _ (hL q h)⟩
  obtain ⟨t2, a1, b1⟩ := kk1 T' rfl X'
  exact ⟨t2, st t2 a1, b1⟩
end ZJ
abbrev OL : String := "RentReview$Lease"
def zCA (l : Launch) (y : MethodName) (wsY : List Cond) (rm : Room) (G : va_G) (tys : List (ClassId × FieldType)) {S : Type} (av : List Value) (wc : va_W) (res : S → Option Value) (post : S → Prop) (w1 : S → va_W) (mc ms : Nat) : Prop :=
  ∀ sz : Nat, Met l y wsY rm (va_Pc av (fun U => zP G tys wc sz U ∧ va_AO OL U)) (zQ res post (zB G tys w1 (va_A wc sz)) (va_A wc sz)) mc ms (va_A wc sz)
theorem zPA_blind {G : va_G} {tys : List (ClassId × FieldType)} {wc : va_W} {sz : Nat} {av : List Value} : FrameBlind (va_Pc av (fun U => zP G tys wc sz U ∧ va_AO OL U)) := fun a U g mk q => by
  obtain ⟨q0, ⟨q1, qP, qK, qD⟩, qX⟩ := q
  exact ⟨q0, ⟨q1, qP, va_K.moved (u := U) (U := U.calling g mk a) (Vm.Alike.refl U.vm) qK, qD⟩, va_AO.moved (u := U) (U := U.calling g mk a) (Vm.Alike.refl U.vm) qX⟩
theorem z_startA {l : Launch} {y : MethodName} {wsY wsY' : List Cond} {rm : Room} {G : va_G} {tys : List (ClassId × FieldType)} {S : Type} {av : List Value} {wc : va_W} {res : S → Option Value} {post : S → Prop} {w1 : S → va_W} {mc ms : Nat} {cc : ByteArray} {maxL : Nat} {ret : Option FieldType} (hy : plainName y.cls = true) (hw : wsY = Cond.code y cc maxL ret :: wsY') (hlen : (lg_sl av).length ≤ maxL)
    (body : ∀ (p : Program) (e : Env) (s : State) (m : MethodId) (below : List Frame) (meth : Method) (c : Code) (A : Nat → Prop) (ls : Array Slot), CallFix p m c cc maxL s av.toArray wsY y.cls → meth.sig.returnType = ret → meth.locks = false → meth.name = y.name → A = va_A wc s.heap.size → (∀ q : Nat, s.heap.size ≤ q → A q) → zW G tys A s wc s.heap [] → lv_has ls maxL (lv_args 0 av) → va_AO OL s →
      W p l e rm s m av.toArray below meth c s.heap [] 0 0 (MQ below (zQ res post (zB G tys w1 A) A) av.toArray s mc ms A) (F0 m 0 ls [])) : zCA l y wsY rm G tys av wc res post w1 mc ms := by
  intro sz
  refine Met.ofW (cc := cc) (maxL := maxL) (ret := ret) hy hw ?_
  intro p e s m args below meth c s₁ B hml hv
  obtain ⟨rfl, ⟨hsz, hP, hK, hD0⟩, hX⟩ := hv
  subst hsz
  have hown : s.vm.findClass y.cls = some m.cls := findClass_of_methodNamed B.named
  have hl := lv_entry av (n := maxL) hlen
  rw [lg_entry_eq]
  exact body p e s m below meth c _ _ ⟨B.exec, B.bytes, hml, hown, atoms_spec (ws := wsY) B.pre⟩ B.returns B.notSynchronized (name_of_methodNamed B.named B.method).1 rfl (fun q h => Or.inr h) ⟨hK, hP, hD0.self, va_S.rf⟩ hl hX
section ZJ2
variable {p : Program} {l : Launch} {e : Env} {R : Room} {s : State} {m : MethodId} {args : Array Value} {below : List Frame} {meth : Method} {c : Code} {H : Heap} {locs : List Loc} {cells slots : Nat} {Q : State → Prop}
variable {cc : ByteArray} {pc : Nat} {ls : Array Slot} {rest : List Value} {G : va_G} {tys : List (ClassId × FieldType)} {A : Nat → Prop} {ws : va_W} {a : Nat} {nL : Nat} {Ts : List Cond} {own : String}
variable {S : Type} {post : S → Prop} {u1 u2 : S → va_W} {mc ms : Nat} {y : MethodName} {bytes : ByteArray} {maxL index : Nat} {wsY wsY' : List Cond} {rm : Room} {C : String} {b : Addr} {wc : va_W}
theorem z_callIA (F : CallFix p m c cc nL s args Ts own) (hO : va_AO OL s) (hM : zCA l y wsY rm G tys [.ref b] wc (zN (S := S)) post (fun u => u1 u ++ u2 u) mc ms) (hg : GoodIn Ts wsY) (hw : wsY = Cond.code y bytes maxL none :: wsY') (hd : y.cls = C ∧ y.cls ≠ "java/lang/invoke/MethodHandle" ∧ y.cls ≠ "java/lang/invoke/VarHandle" ∧ (parseMethodDescriptor y.desc).map (fun d => d.parameters.length) = some 0) (hy1 : y.name = "<init>") (i1 i2 i3 : Nat) (h1 : Ts[i1]? = some (.methodLink own index y)) (h2 : Ts[i2]? = some (.initialized y.cls)) (h3 : Ts[i3]? = some (.instanceMethod y)) (hrm : rm.cells = mc ∧ rm.slots = ms ∧ rm.frames + 1 ≤ R.frames ∧ 8 + (maxL + 11) + rm.locals ≤ R.locals) (hls : ls.size = nL) (hrest : (rest.map fun v => v.category).sum ≤ 8) (hdg : decode cc pc = .ok (.invokespecial index, 3)) (hf : cells + mc ≤ R.cells ∧ slots + ms ≤ R.slots)
    (hW : zW G tys A s ws H locs) (hA : ∀ q, s.heap.size ≤ q → A q) (isC : List Nat) (hC : isC.map (fun i => ws[i]?) = wc.map some) (hnd : va_nd isC = true) (hs : ∀ u, (u1 u).map Prod.fst = wc.map Prod.fst) (ws' : S → va_W) (hz : ∀ u, zset ws isC (u1 u) ++ u2 u = ws' u)
    (kk : ∀ (u : S) (H1 : Heap) (locs1 : List Loc), post u → zW G tys A s (ws' u) H1 locs1 → W p l e R s m args below meth c H1 locs1 (cells + mc) (slots + ms) Q (F0 m (pc + 3) ls rest)) : W p l e R s m args below meth c H locs cells slots Q (F0 m pc ls (.ref b :: rest)) := by
  have ok : ∀ (i : Nat) (w : Cond), Ts[i]? = some w → w.before args s = true := fun i w h => F.2.2.2.2 w (List.mem_of_getElem? h)
  exact z_callIR (va_runI (e := e) (below := below) (meth := meth) (locs := locs) (As := []) (rest := rest) (g := F0 m pc ls (.ref b :: rest)) F (hM H.size) ⟨callB_of 0 F.2.2.2.2 hg hw hrm.1 hrm.2.1 (ok i2 _ h2) (ok i1 _ h1) hd.2 hrm.2.2, hy1, ok i3 _ h3⟩ ⟨zPA_blind, fun U hU hWm => ⟨rfl, ⟨by rw [hU], by rw [hU]; exact zsub_P hW.2.1 hC, va_K.moved hWm.alike hW.1, (hW.2.2.1.sub isC hnd hC).weaken (fun _ _ _ _ => trivial)⟩, va_AO.moved hWm.alike hO⟩⟩ rfl rfl hls rfl (lv_room hrest) hdg hf) hW hA isC hC hs ws' hz kk
end ZJ2
