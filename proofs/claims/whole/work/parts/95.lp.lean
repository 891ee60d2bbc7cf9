/-! THE CLAIM OUT OF ONE WALK OF THE LAW'S BODY. Your part is whole_start (and what it stands on); all else here is the same for every law, but numbers. -/
def R_law : String := "RentReviewLaw"
def lw_P (b : Addr) (xs : List Int32) (args : Array Value) (s : State) : Prop := args = #[.ref b] ∧ s.IntsAt b xs ∧ xs.length ≤ 3072 ∧ (Jvm.Cond.and given_1 narrow_1).before args s = true
def lw_Q (_ : Array Value) (s : State) (o : Outcome) (t : State) : Prop := o = .returned (some (.int 1)) ∧ Framed s o t [] 601024 7293034
def lw_Z (below : List Frame) (a : Array Value) (s : State) : State → Prop := fun t => ∃ o, t.status = .running ∧ Ended t below o ∧ lw_Q a s o t
/-- the law's own end, with 1 on the stack, nothing written that was there before, its room as the claim has it -/
theorem lw_ret {p : Program} {l : Launch} {e : Env} {s : State} {m : MethodId} {below : List Frame} {meth : Method} {c : Code} {b : Nat} (hx : p.tables.exec = Jvm.exec) (hb : c.code = code) (hr : meth.sig.returnType = ret) (hlocks : meth.locks = false) {pc : Nat} {H : Heap} {ls : Array Slot} (hdg : decode code pc = .ok (.ireturn, 1)) : W p l e room_1 s m #[Value.ref b] below meth c H [] 601024 7293034 (lw_Z below #[Value.ref b] s) (F0 m pc ls [.int 1]) := by
  intro T hT X
  obtain ⟨fs, hret, hrun, hended, hW, hframe⟩ := X.leave (v := some (.int 1)) (hlocks := hlocks) (fun h => by rw [hr] at h; cases h)
  have hmeth' : T.vm.method? m = some meth := X.method'
  refine ⟨T.setFrames fs, ?_, .returned (some (.int 1)), hrun, hended, rfl, ⟨_, rfl⟩, hW, hframe⟩
  jvm_step X.here [X.here.top, hx, hb, hdg, hmeth', hr, ret, narrow_b1]
  (try refine ⟨rfl, ?_⟩); (try refine ⟨rfl, ?_⟩)
  first | (intro acts; rw [hret _ acts rfl rfl rfl]) | rw [hret _ _ rfl rfl rfl]
  exact Steps.refl _
/-- what holds at the law's entry: the machine, the code, the tables' words (any of lw_tbl by 'hts w (by decide +kernel)'), the script of L ints xs at the cell b, what the Statement gives of the start (any of its parts by flat_of_before) -/
def lw_At (p : Program) (s : State) (m : MethodId) (meth : Method) (c : Code) (b L : Nat) (xs : Nat → Int32) : Prop :=
  p.tables.exec = Jvm.exec ∧ c.code = code ∧ meth.sig.returnType = ret ∧ c.maxLocals = 7 ∧ s.vm.findClass R_law = some m.cls ∧ (∀ w ∈ lw_tbl, w.before #[Value.ref b] s = true) ∧ va_X b L xs s s.heap ∧ b < s.heap.size ∧ meth.locks = false ∧ (Jvm.Cond.and given_1 narrow_1).before #[Value.ref b] s = true
/-! the law's loop -/
section LP
variable {p : Program} {l : Launch} {e : Env} {R : Room} {s : State} {m : MethodId} {args : Array Value} {below : List Frame} {meth : Method} {c : Code} {H : Heap} {locs : List Loc} {cells slots : Nat} {Q : State → Prop}
variable {pc : Nat} {ls : Array Slot} {rest : List Value} {G : va_G} {tys : List (ClassId × FieldType)} {A : Nat → Prop} {ws : va_W} {b L : Nat} {xs : Nat → Int32} {aK aV : Nat → Nat}
theorem JJ_S {cI cJ cO : ClassId} {hm ho hc : Nat} (h : JJ G cI cJ cO A s hm ho hc H locs) : va_S A s.heap H locs := by
  obtain ⟨q, v, a, fo, qc, vc, ac, qf, vf, af, qd, vd, ad, qo, vo, ao, qy, vy, ay, qw, vw, aw, qu, vu, au, qz, vz, az, qB, vB, aB, gB, qv, vv, av, qE, VE, aE, qb, vb, ab, gb, qx, vx, ax, qe, Ve, ae, hF, hW⟩ := h
  exact hW.2.2.2
theorem zs_len (hC : LAWc p l s m args c A b L xs aK aV) (hS : va_S A s.heap H locs) (hdg : decode cL_law pc = .ok (.arraylength, 1))
    (kk : W p l e R s m args below meth c H locs cells slots Q (F0 m (pc + 1) ls (.int (iI (L : Int)) :: rest))) : W p l e R s m args below meth c H locs cells slots Q (F0 m pc ls (.ref b :: rest)) := by
  obtain ⟨F, ⟨hX, hbl, hbA, hL⟩, -⟩ := hC
  exact va_slen F.1 F.2.1 hX hbl hbA hS hdg (by rw [iI_nat]; exact kk)
theorem zs_ldS (hC : LAWc p l s m args c A b L xs aK aV) (hS : va_S A s.heap H locs) {i z : Int} (h0 : 0 ≤ i ∧ i < L) (hz : xs i.toNat = iI z) (hdg : decode cL_law pc = .ok (.iaload, 1))
    (kk : W p l e R s m args below meth c H locs cells slots Q (F0 m (pc + 1) ls (.int (iI z) :: rest))) : W p l e R s m args below meth c H locs cells slots Q (F0 m pc ls (.int (iI i) :: .ref b :: rest)) := by
  obtain ⟨F, ⟨hX, hbl, hbA, hL⟩, -⟩ := hC
  have e1 : (iI i).toNatClampNeg = i.toNat := by
    have := iI_clamp (i := i) h0.1 (by omega)
    omega
  exact va_sld F.1 F.2.1 hX hbl hbA hS (iI_in h0.1 h0.2 hL) hdg (by rw [e1, hz]; exact kk)
end LP
set_option maxHeartbeats 4000000 in
set_option maxRecDepth 100000 in
theorem law_loop {p : Program} {l : Launch} {e : Env} {s : State} {m : MethodId} {below : List Frame} {meth : Method} {c : Code} {G : va_G} {cI cJ cO : ClassId} {A : Nat → Prop} {b L : Nat} {xs : Nat → Int32} {aK aV : Nat → Nat} {hm ho hc : Nat} (hC : LAWc p l s m #[Value.ref b] c A b L xs aK aV) (hAs : ∀ q, A q → s.heap.size ≤ q) (hr : meth.sig.returnType = ret) (hlk : meth.locks = false) (hL : L ≤ 3072) :
    ∀ (n : Nat) (i : Int) (ls : Array Slot) (H : Heap) (locs : List Loc) (cells slots : Nat), 0 ≤ i → i ≤ 4000 → (L : Int) < i + 6 * (n : Int) → cells + n ≤ 601024 → slots + 6 * n ≤ 7293034 → lv_has ls 7 (lvL b hc hm ho i) → JJ G cI cJ cO A s hm ho hc H locs → W p l e room_1 s m #[Value.ref b] below meth c H locs cells slots (lw_Z below #[Value.ref b] s) (F0 m 23 ls []) := by
  intro n
  induction n using Nat.strongRecOn with
  | _ n ih =>
    intro i ls H locs cells slots i0 i1 hin hcn hsn hl hJ
    have F := hC.1
    have hx := F.1
    have hb := F.2.1
    have hS := JJ_S hJ
    refine lv_iload hx hb dL_law_23 (lv_at hl 4 rfl) ?_
    refine lv_aload_n hx hb dL_law_25 rfl (lv_at hl 0 rfl) ?_
    refine zs_len hC hS dL_law_26 ?_
    refine z_bipush (n := 6) hx hb dL_law_27 (by decide) ?_
    refine z_isub hx hb dL_law_29 ?_
    refine z_icmp_gt (tgt := 942) hx hb dL_law_30 (by decide) ⟨by omega, by omega⟩ ⟨by omega, by omega⟩ (fun hq => ?_) (fun hq => ?_)
    · refine z_iconst (n := 1) hx hb dL_law_942 ?_
      refine va_forget (fun q hq => hAs _ (hS.2.2 q hq)) ?_
      refine W.widen (k := 601024) (n := 7293034) (by omega) (by omega) ?_
      exact lw_ret hx hb hr hlk dL_law_943
    · have hi : 0 ≤ i ∧ i + 6 ≤ L := by omega
      have hf : cells + 1 ≤ room_1.cells ∧ slots + 6 ≤ room_1.slots := by
        show cells + 1 ≤ 601024 ∧ slots + 6 ≤ 7293034
        omega
      have hf0 : cells ≤ room_1.cells ∧ slots ≤ room_1.slots := ⟨by omega, by omega⟩
      have knext : ∀ (ls : Array Slot) (H : Heap) (locs : List Loc), lv_has ls 7 (lvL b hc hm ho i) → JJ G cI cJ cO A s hm ho hc H locs → W p l e room_1 s m #[Value.ref b] below meth c H locs (cells + 1) (slots + 6) (lw_Z below #[Value.ref b] s) (F0 m 936 ls []) := by
        intro ls H locs hl hJ
        refine z_iinc (lv' := [(4, .int (iI (i + 6))), (0, .ref b), (1, .ref hc), (2, .ref hm), (3, .ref ho)]) hx hb dL_law_936 hl (k := 4) rfl (by decide) rfl (fun ls hl => ?_)
        refine lv_goto (tgt := 23) hx hb dL_law_939 (by decide) ?_
        exact ih (n - 1) (by omega) (i + 6) ls H locs (cells + 1) (slots + 6) (by omega) (by omega) (by omega) (by omega) (by omega) (lv_sub hl [1, 2, 3, 4, 0] rfl) hJ
      have kn : ∀ (H : Heap) (locs : List Loc), JJ G cI cJ cO A s hm ho hc H locs → W p l e room_1 s m #[Value.ref b] below meth c H locs cells slots (lw_Z below #[Value.ref b] s) (F0 m 936 ls []) := fun H locs hJ => W.widen (k := cells + 1) (n := slots + 6) (by omega) (by omega) (knext ls H locs hl hJ)
      refine lv_aload_n hx hb dL_law_33 rfl (lv_at hl 0 rfl) ?_
      refine lv_iload hx hb dL_law_34 (lv_at hl 4 rfl) ?_
      obtain ⟨z0, r0, e0⟩ := iI_ex (xs i.toNat)
      refine zs_ldS hC hS ⟨by omega, by omega⟩ e0 dL_law_36 ?_
      refine z_bipush (n := 31) hx hb dL_law_37 (by decide) ?_
      refine z_iand hx hb dL_law_39 ?_
      have hzR := zand_R z0 31
      generalize zand z0 31 = t at hzR ⊢
      by_cases c0 : t = 0
      · exact z_tabIn (z := 0) (tgt := 140) hx hb dL_law_40 c0 (by decide) (by decide) (by decide) rfl (by decide) (law_feed hC hJ hl hi hf0 kn)
      by_cases c1 : t = 1
      · exact z_tabIn (z := 1) (tgt := 213) hx hb dL_law_40 c1 (by decide) (by decide) (by decide) rfl (by decide) (law_end hC hJ hl hi hf0 kn)
      by_cases c2 : t = 2
      · exact z_tabIn (z := 2) (tgt := 238) hx hb dL_law_40 c2 (by decide) (by decide) (by decide) rfl (by decide) (law_text hC hJ hl hi hf0 kn)
      by_cases c3 : t = 3
      · exact z_tabIn (z := 3) (tgt := 251) hx hb dL_law_40 c3 (by decide) (by decide) (by decide) rfl (by decide) (law_fault hC hJ hl hi hf0 kn)
      by_cases c4 : t = 4
      · exact z_tabIn (z := 4) (tgt := 264) hx hb dL_law_40 c4 (by decide) (by decide) (by decide) rfl (by decide) (law_now hC hJ hl hi hf0 kn)
      by_cases c5 : t = 5
      · exact z_tabIn (z := 5) (tgt := 289) hx hb dL_law_40 c5 (by decide) (by decide) (by decide) rfl (by decide) (law_lease hC hJ hl hi hf knext)
      by_cases c6 : t = 6
      · exact z_tabIn (z := 6) (tgt := 357) hx hb dL_law_40 c6 (by decide) (by decide) (by decide) rfl (by decide) (law_index hC hJ hl hi hf0 kn)
      by_cases c7 : t = 7
      · exact z_tabIn (z := 7) (tgt := 394) hx hb dL_law_40 c7 (by decide) (by decide) (by decide) rfl (by decide) (law_rent hC hJ hl hi hf0 kn)
      by_cases c8 : t = 8
      · exact z_tabIn (z := 8) (tgt := 443) hx hb dL_law_40 c8 (by decide) (by decide) (by decide) rfl (by decide) (law_review hC hJ hl hi hf0 kn)
      by_cases c9 : t = 9
      · exact z_tabIn (z := 9) (tgt := 504) hx hb dL_law_40 c9 (by decide) (by decide) (by decide) rfl (by decide) (law_billed hC hJ hl hi hf0 kn)
      by_cases c10 : t = 10
      · exact z_tabIn (z := 10) (tgt := 541) hx hb dL_law_40 c10 (by decide) (by decide) (by decide) rfl (by decide) (law_trued hC hJ hl hi hf0 kn)
      by_cases c11 : t = 11
      · exact z_tabIn (z := 11) (tgt := 578) hx hb dL_law_40 c11 (by decide) (by decide) (by decide) rfl (by decide) (law_interest hC hJ hl hi hf0 kn)
      by_cases c12 : t = 12
      · exact z_tabIn (z := 12) (tgt := 615) hx hb dL_law_40 c12 (by decide) (by decide) (by decide) rfl (by decide) (law_spread hC hJ hl hi hf0 kn)
      by_cases c13 : t = 13
      · exact z_tabIn (z := 13) (tgt := 652) hx hb dL_law_40 c13 (by decide) (by decide) (by decide) rfl (by decide) (law_ahead hC hJ hl hi hf0 kn)
      by_cases c14 : t = 14
      · exact z_tabIn (z := 14) (tgt := 689) hx hb dL_law_40 c14 (by decide) (by decide) (by decide) rfl (by decide) (law_would hC hJ hl hi hf0 kn)
      by_cases c15 : t = 15
      · exact z_tabIn (z := 15) (tgt := 738) hx hb dL_law_40 c15 (by decide) (by decide) (by decide) rfl (by decide) (law_publish hC hJ hl hi hf0 kn)
      by_cases c16 : t = 16
      · exact z_tabIn (z := 16) (tgt := 775) hx hb dL_law_40 c16 (by decide) (by decide) (by decide) rfl (by decide) (law_market hC hJ hl hi hf0 kn)
      by_cases c17 : t = 17
      · exact z_tabIn (z := 17) (tgt := 824) hx hb dL_law_40 c17 (by decide) (by decide) (by decide) rfl (by decide) (law_turnover hC hJ hl hi hf0 kn)
      by_cases c18 : t = 18
      · exact z_tabIn (z := 18) (tgt := 873) hx hb dL_law_40 c18 (by decide) (by decide) (by decide) rfl (by decide) (law_breaks hC hJ hl hi hf0 kn)
      by_cases c19 : t = 19
      · exact z_tabIn (z := 19) (tgt := 898) hx hb dL_law_40 c19 (by decide) (by decide) (by decide) rfl (by decide) (law_pass hC hJ hl hi hf0 kn)
      by_cases c20 : t = 20
      · exact z_tabIn (z := 20) (tgt := 923) hx hb dL_law_40 c20 (by decide) (by decide) (by decide) rfl (by decide) (law_undo hC hJ hl hi hf0 kn)
      exact z_tabOut (tgt := 936) hx hb dL_law_40 hzR (by omega) (by decide) (kn H locs hJ)
