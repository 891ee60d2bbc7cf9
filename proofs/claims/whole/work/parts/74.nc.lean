/-! constructors: new objects, calls -/
section ZI
variable {p : Program} {l : Launch} {e : Env} {R : Room} {s : State} {m : MethodId} {args : Array Value} {below : List Frame} {meth : Method} {c : Code} {H : Heap} {locs : List Loc} {cells slots : Nat} {Q : State → Prop}
variable {cc : ByteArray} {pc : Nat} {ls : Array Slot} {rest : List Value} {G : va_G} {tys : List (ClassId × FieldType)} {A : Nat → Prop} {ws : va_W} {a : Nat} {nL : Nat} {Ts : List Cond} {own : String}
theorem z_new (hexec : p.tables.exec = Jvm.exec) (hb : c.code = cc) {C : String} {T : u_T} {N ci index : Nat} (hts : ∀ w ∈ Ts, w.before args s = true) (hin : ∀ w ∈ u_ws C T N, w ∈ Ts) (ty : Nat → FieldType) (hty : ∀ k, k < N → parseFieldDescriptor (T k).2.2.1 = some (ty k)) (hown : s.vm.findClass own = some m.cls) (i1 i2 i3 : Nat) (h1 : Ts[i1]? = some (.classLink own index C)) (h2 : Ts[i2]? = some (.instantiable C N)) (h3 : Ts[i3]? = some (.initialized C)) (hW : zW G tys A s ws H locs) (hA : ∀ q, s.heap.size ≤ q → A q) (hc : vwCl[ci]? = some (C, T, N)) {fs : List Value} (hfs : ∀ j, j < N → defaultValue (ty j) = vp_V fs j) (hcells : cells + 1 ≤ R.cells) (hslots : slots + N ≤ R.slots) (hdg : decode cc pc = .ok (.new index, 3))
    (kk : ∀ (q : Nat) (H1 : Heap), zW G tys A s (ws ++ [(q, .inr (ci, fs))]) H1 locs → W p l e R s m args below meth c H1 locs (cells + 1) (slots + N) Q (F0 m (pc + 3) ls (.ref q :: rest))) : W p l e R s m args below meth c H locs cells slots Q (F0 m pc ls rest) :=
  va_new hexec hb hts hin ty hty hown (hts _ (List.mem_of_getElem? h1)) (hts _ (List.mem_of_getElem? h2)) (hts _ (List.mem_of_getElem? h3)) hW.1 hW.2.1 hW.2.2.1 hW.2.2.2 hA hc hfs hcells hslots hdg (fun q H1 k1 k2 k3 => kk q H1 ⟨hW.1, k1, k2, k3⟩)
variable {S : Type} {post : S → Prop} {u1 u2 : S → va_W} {mc ms : Nat} {y : MethodName} {bytes : ByteArray} {maxL index : Nat} {wsY wsY' : List Cond} {rm : Room} {C : String} {b : Addr} {wc : va_W}
theorem z_callI (F : CallFix p m c cc nL s args Ts own) (hM : zC l y wsY rm G tys [.ref b] wc (zN (S := S)) post (fun u => u1 u ++ u2 u) mc ms) (hg : GoodIn Ts wsY) (hw : wsY = Cond.code y bytes maxL none :: wsY') (hd : y.cls = C ∧ y.cls ≠ "java/lang/invoke/MethodHandle" ∧ y.cls ≠ "java/lang/invoke/VarHandle" ∧ (parseMethodDescriptor y.desc).map (fun d => d.parameters.length) = some 0) (hy1 : y.name = "<init>") (i1 i2 i3 : Nat) (h1 : Ts[i1]? = some (.methodLink own index y)) (h2 : Ts[i2]? = some (.initialized y.cls)) (h3 : Ts[i3]? = some (.instanceMethod y)) (hrm : rm.cells = mc ∧ rm.slots = ms ∧ rm.frames + 1 ≤ R.frames ∧ 8 + (maxL + 11) + rm.locals ≤ R.locals) (hls : ls.size = nL) (hrest : (rest.map fun v => v.category).sum ≤ 8) (hdg : decode cc pc = .ok (.invokespecial index, 3)) (hf : cells + mc ≤ R.cells ∧ slots + ms ≤ R.slots)
    (hW : zW G tys A s ws H locs) (hA : ∀ q, s.heap.size ≤ q → A q) (isC : List Nat) (hC : isC.map (fun i => ws[i]?) = wc.map some) (hnd : va_nd isC = true) (hs : ∀ u, (u1 u).map Prod.fst = wc.map Prod.fst) (ws' : S → va_W) (hz : ∀ u, zset ws isC (u1 u) ++ u2 u = ws' u)
    (kk : ∀ (u : S) (H1 : Heap) (locs1 : List Loc), post u → zW G tys A s (ws' u) H1 locs1 → W p l e R s m args below meth c H1 locs1 (cells + mc) (slots + ms) Q (F0 m (pc + 3) ls rest)) : W p l e R s m args below meth c H locs cells slots Q (F0 m pc ls (.ref b :: rest)) := by
  have ok : ∀ (i : Nat) (w : Cond), Ts[i]? = some w → w.before args s = true := fun i w h => F.2.2.2.2 w (List.mem_of_getElem? h)
  have hr := va_runI (e := e) (below := below) (meth := meth) (locs := locs) (As := []) (rest := rest) (g := F0 m pc ls (.ref b :: rest)) F (hM H.size) ⟨callB_of 0 F.2.2.2.2 hg hw hrm.1 hrm.2.1 (ok i2 _ h2) (ok i1 _ h1) hd.2 hrm.2.2, hy1, ok i3 _ h3⟩ ⟨zP_blind, fun U hU hWm => ⟨rfl, by rw [hU], by rw [hU]; exact zsub_P hW.2.1 hC, va_K.moved hWm.alike hW.1, (hW.2.2.1.sub isC hnd hC).weaken (fun _ _ _ _ => trivial)⟩⟩ rfl rfl hls rfl (lv_room hrest) hdg hf
  intro T hT X
  obtain ⟨v, st₀, t, T', L, h0, X', hL, e1, e2, ⟨⟨u, hv, hp, hb⟩, hzz, hk⟩, st⟩ := hr T hT X
  cases hv
  rw [h0] at hzz hk
  have hFc := va_free hW.2.2.1 hW.2.2.2 hA isC hC
  have hS := hW.2.2.2
  have hlen : (u1 u).length = wc.length := by
    have := congrArg List.length (hs u)
    simpa using this
  have hP1 : va_P G vwCl (u1 u) T'.heap := fun k q hq => by
    rw [e1]
    exact hb.1 k q (by rw [List.getElem?_append_left (List.getElem?_eq_some_iff.mp hq).1]; exact hq)
  have at2 : ∀ (k : Nat) (q : Nat × va_E), (u2 u)[k]? = some q → (u1 u ++ u2 u)[(u1 u).length + k]? = some q := fun k q hq => by
    rw [List.getElem?_append_right (by omega), show (u1 u).length + k - (u1 u).length = k by omega]
    exact hq
  have hnew : ∀ (k : Nat) (q : Nat × va_E), (u2 u)[k]? = some q → H.size ≤ q.1 := fun k q hq => by
    rcases hb.2.2.2 _ q (at2 k q hq) with ⟨k2, e9, he⟩ | h
    · exfalso
      have h9 : ((u1 u).map Prod.fst)[k2]? = some q.1 := by rw [hs u, List.getElem?_map, he]; rfl
      rw [List.getElem?_map] at h9
      cases hq9 : (u1 u)[k2]? with
      | none => rw [hq9] at h9; cases h9
      | some q9 =>
        rw [hq9] at h9
        have hlt := (List.getElem?_eq_some_iff.mp hq9).1
        have := hb.2.2.1 k2 _ q9 q (by rw [List.getElem?_append_left hlt]; exact hq9) (at2 k q hq) (Option.some.inj h9)
        omega
    · exact h
  have hold : ∀ (k : Nat) (q : Nat × va_E), (zset ws isC (u1 u))[k]? = some q → q.1 < H.size := fun k q hq => by
    have hlC : isC.length = (u1 u).length := by
      have h8 := congrArg List.length hC
      simp at h8
      omega
    rcases zset_at isC (u1 u) ws k q hlC hq with ⟨j, h8, h9⟩ | ⟨h8, h9⟩
    · have h7 : ((u1 u).map Prod.fst)[j]? = some q.1 := by rw [List.getElem?_map, h9]; rfl
      rw [hs u, List.getElem?_map] at h7
      cases hw9 : wc[j]? with
      | none => rw [hw9] at h7; cases h7
      | some q0 =>
        rw [hw9] at h7
        obtain ⟨i, hi, hwi⟩ := zsub_at hC hw9
        have := (hW.2.1 i q0 hwi).lt
        rw [← Option.some.inj h7]
        exact this
    · exact (hW.2.1 k q h9).lt
  have kk1 := kk u T'.heap (locs ++ L) hp ⟨hW.1, by rw [← hz]; exact (zset_P hW.2.1 hW.2.2.1 hC (fun q h1 h2 => by rw [e1]; exact hk q h1 h2) hP1 (hs u)).app (fun k q hq => by rw [e1]; exact hb.1 _ q (at2 k q hq)), by
      rw [← hz]
      exact (zset_D hW.2.2.1 hC (hs u)).app ⟨fun i j x z hi hj hxz => by have := hb.2.2.1 _ _ x z (at2 i x hi) (at2 j z hj) hxz; omega, fun k q hq => hA _ (Nat.le_trans hS.1 (hnew k q hq))⟩ (fun i j x z hi hj hxz => by have := hold i x hi; have := hnew j z hj; omega), Nat.le_trans hS.1 (by rw [e1]; exact hzz), fun q h1 h2 => by rw [e1, hk q (Nat.lt_of_lt_of_le h1 hS.1) (fun z => h2 (hFc q z))]; exact hS.2.1 q h1 h2, fun q hq => by
      rcases List.mem_append.mp hq with h | h
      · exact hS.2.2 q h
      · exact hFc _ (hL q h)⟩
  obtain ⟨t2, a1, b1⟩ := kk1 T' rfl X'
  exact ⟨t2, st t2 a1, b1⟩
end ZI
