/-! the law's state -/
theorem perm_pick {L : List va_W} (ps : List Nat) (hp : ps.isPerm (List.range L.length) = true) : L.flatten.Perm (ps.filterMap (fun i => L[i]?)).flatten := by
  refine perm_flat ?_
  have := (List.isPerm_iff.mp hp).symm.filterMap (fun i => L[i]?)
  rw [range_at] at this
  exact this
theorem zW.pickN {G : va_G} {tys : List (ClassId × FieldType)} {A : Nat → Prop} {s : State} {H : Heap} {locs : List Loc} {L : List va_W} (hW : zW G tys A s L.flatten H locs) (n : Nat) (ps : List Nat) (hp : ps.isPerm (List.range n) = true) (hn : L.length = n) (L' : List va_W) (hL : ps.filterMap (fun i => L[i]?) = L') : zW G tys A s L'.flatten H locs := hW.pick ps (by rw [hn]; exact hp) L' hL
/-- six leases -/
def SIX (f : Nat → va_W) : va_W := [f 0, f 1, f 2, f 3, f 4, f 5].flatten
/-- five of them: without the n-th -/
def SXn (f : Nat → va_W) (n : Nat) : va_W := (((List.range 6).erase n).map f).flatten
theorem six_out (f : Nat → va_W) {n : Nat} (h : n < 6) : (SIX f).Perm (f n ++ SXn f n) := by
  rcases (show n = 0 ∨ n = 1 ∨ n = 2 ∨ n = 3 ∨ n = 4 ∨ n = 5 by omega) with rfl | rfl | rfl | rfl | rfl | rfl
  · exact perm_pick (L := [f 0, f 1, f 2, f 3, f 4, f 5]) [0, 1, 2, 3, 4, 5] rfl
  · exact perm_pick (L := [f 0, f 1, f 2, f 3, f 4, f 5]) [1, 0, 2, 3, 4, 5] rfl
  · exact perm_pick (L := [f 0, f 1, f 2, f 3, f 4, f 5]) [2, 0, 1, 3, 4, 5] rfl
  · exact perm_pick (L := [f 0, f 1, f 2, f 3, f 4, f 5]) [3, 0, 1, 2, 4, 5] rfl
  · exact perm_pick (L := [f 0, f 1, f 2, f 3, f 4, f 5]) [4, 0, 1, 2, 3, 5] rfl
  · exact perm_pick (L := [f 0, f 1, f 2, f 3, f 4, f 5]) [5, 0, 1, 2, 3, 4] rfl
theorem SXn_eq {f g : Nat → va_W} {n : Nat} (hg : ∀ j : Nat, j < 6 → j ≠ n → g j = f j) : SXn f n = SXn g n := by
  unfold SXn
  congr 1
  apply List.map_congr_left
  intro j hj
  have := (List.Nodup.mem_erase_iff List.nodup_range).mp hj
  exact (hg j (List.mem_range.mp this.2) this.1).symm
theorem zW.six {G : va_G} {tys : List (ClassId × FieldType)} {A : Nat → Prop} {s : State} {H : Heap} {locs : List Loc} {L : List va_W} {f : Nat → va_W} (hW : zW G tys A s (SIX f :: L).flatten H locs) {n : Nat} (h : n < 6) : zW G tys A s (f n :: SXn f n :: L).flatten H locs := by
  refine hW.perm ?_
  show (SIX f ++ L.flatten).Perm (f n ++ (SXn f n ++ L.flatten))
  rw [← List.append_assoc]
  exact (six_out f h).append_right _
theorem zW.xis {G : va_G} {tys : List (ClassId × FieldType)} {A : Nat → Prop} {s : State} {H : Heap} {locs : List Loc} {L : List va_W} {f g : Nat → va_W} {n : Nat} {x : va_W} (hW : zW G tys A s (x :: SXn f n :: L).flatten H locs) (h : n < 6) (hx : x = g n) (hg : ∀ j : Nat, j < 6 → j ≠ n → g j = f j) : zW G tys A s (SIX g :: L).flatten H locs := by
  subst hx
  rw [SXn_eq hg] at hW
  refine hW.perm ?_
  show (g n ++ (SXn g n ++ L.flatten)).Perm (SIX g ++ L.flatten)
  rw [← List.append_assoc]
  exact (six_out g h).symm.append_right _
/-- six leases by their rows -/
abbrev LEs (cI cJ : ClassId) (gB : Nat → Nat) (qE : Nat → Nat → Nat) (VE : Nat → Nat → Int) (aE : Nat → Nat → Int → Int) : Nat → va_W := fun j => lW cI cJ (gB j) (qE j) (VE j) (aE j)
def BYS (T : Int → Int) : Prop := ∀ j : Int, 0 ≤ j → j < 640 → 0 ≤ T j ∧ T j ≤ 255
/-- what ties the class's cells to the reference's -/
def KF (N PA T : Int → Int) (tl ft k c8 c9 f1 : Int) (f0 : Int → Int) (y3 : Int) (g0 g1 g2 : Int → Int) (b3 b4 : Int) (nw : Int → Int) (cv : Int) (av : Nat → Int → Int) (VE : Nat → Nat → Int) (aE : Nat → Nat → Int → Int) : Prop :=
  GOOD N ∧ CLS N av cv aE nw ∧ (b3 = N 1 ∧ b4 = N 2 ∧ c8 = N 0 ∧ c9 = ft) ∧ (f1 = tl ∧ 0 ≤ tl ∧ tl ≤ 640 ∧ f0 = T ∧ BYS T) ∧ y3 = k ∧ CHN PA k g0 g1 g2 N ∧ ∀ x : Int, 0 ≤ x → x < N 2 → VE x.toNat = LVf N x
def JJ (G : va_G) (cI cJ cO : ClassId) (A : Nat → Prop) (s : State) (hm ho hc : Nat) (H : Heap) (locs : List Loc) : Prop :=
  ∃ (q : Nat → Nat) (v : Nat → Int) (a : Nat → Int → Int) (fo : Int → Int) (qc : Nat → Nat) (vc : Nat → Int) (ac : Nat → Int → Int) (qf : Nat → Nat) (vf : Nat → Int) (af : Nat → Int → Int) (qd : Nat → Nat) (vd : Nat → Int) (ad : Nat → Int → Int) (qo : Nat → Nat) (vo : Nat → Int) (ao : Nat → Int → Int) (qy : Nat → Nat) (vy : Nat → Int) (ay : Nat → Int → Int) (qw : Nat → Nat) (vw : Nat → Int) (aw : Nat → Int → Int) (qu : Nat → Nat) (vu : Nat → Int) (au : Nat → Int → Int) (qz : Nat → Nat) (vz : Nat → Int) (az : Nat → Int → Int)
    (qB : Nat → Nat) (vB : Nat → Int) (aB : Nat → Int → Int) (gB : Nat → Nat) (qv : Nat → Nat) (vv : Nat → Int) (av : Nat → Int → Int) (qE : Nat → Nat → Nat) (VE : Nat → Nat → Int) (aE : Nat → Nat → Int → Int) (qb : Nat → Nat) (vb : Nat → Int) (ab : Nat → Int → Int) (gb : Nat → Nat) (qx : Nat → Nat) (vx : Nat → Int) (ax : Nat → Int → Int) (qe : Nat → Nat → Nat) (Ve : Nat → Nat → Int) (ae : Nat → Nat → Int → Int),
    KF (a 11) (a 13) (a 1) (v 2) (v 8) (v 14) (vc 8) (vc 9) (vf 1) (af 0) (vy 3) (ay 0) (ay 1) (ay 2) (vB 3) (vB 4) (aB 2) (vv 2) av VE aE ∧
    zW G (tyZ cI cJ cO) A s [mW cI cJ hm q v a, oW cJ ho fo, dO cI cJ hc qc vc ac, tW cI cJ (qc 0) qf vf af, rW cI cJ (qc 1) qd vd ad, sW cI cJ (qd 0) qo vo ao, aW cI cJ (qc 2) qy vy ay, kO cI cJ (qc 3) qw vw aw, iW cI cJ (qc 3) qw vw aw, kO cI cJ (qc 4) qu vu au, iW cI cJ (qc 4) qu vu au, pW cI cJ (qc 5) qz vz az, bO cI cJ (qc 6) qB vB aB, gW cO (qB 1) gB, vW cI cJ (qB 0) qv vv av, SIX (LEs cI cJ gB qE VE aE), bO cI cJ (qc 7) qb vb ab, gW cO (qb 1) gb, vW cI cJ (qb 0) qx vx ax, SIX (LEs cI cJ gb qe Ve ae)].flatten H locs
/-- what the law stands on -/
def LAWc (p : Program) (l : Launch) (s : State) (m : MethodId) (args : Array Value) (c : Code) (A : Nat → Prop) (b L : Nat) (xs : Nat → Int32) (aK aV : Nat → Nat) : Prop :=
  CallFix p m c cL_law 7 s args lwT RL ∧ (va_X b L xs s s.heap ∧ b < s.heap.size ∧ ¬ A b ∧ L < 2147483648) ∧ (∀ q : Nat, s.heap.size ≤ q → A q) ∧ sX aK aV A s s.heap ∧ xB s ∧ l.stackTraces = false
abbrev lvL (b hc hm ho : Nat) (i : Int) : List (Nat × Value) := [(0, .ref b), (1, .ref hc), (2, .ref hm), (3, .ref ho), (4, .int (iI i))]
section LS
variable {p : Program} {l : Launch} {e : Env} {R : Room} {s : State} {m : MethodId} {args : Array Value} {below : List Frame} {meth : Method} {c : Code} {H : Heap} {locs : List Loc} {cells slots : Nat} {Q : State → Prop}
variable {pc : Nat} {ls : Array Slot} {rest : List Value} {G : va_G} {tys : List (ClassId × FieldType)} {A : Nat → Prop} {ws : va_W} {b L : Nat} {xs : Nat → Int32} {aK aV : Nat → Nat}
theorem zs_ld (hC : LAWc p l s m args c A b L xs aK aV) (hW : zW G tys A s ws H locs) {i z : Int} (h0 : 0 ≤ i ∧ i < L) (hz : xs i.toNat = iI z) (hdg : decode cL_law pc = .ok (.iaload, 1))
    (kk : W p l e R s m args below meth c H locs cells slots Q (F0 m (pc + 1) ls (.int (iI z) :: rest))) : W p l e R s m args below meth c H locs cells slots Q (F0 m pc ls (.int (iI i) :: .ref b :: rest)) := by
  obtain ⟨F, ⟨hX, hbl, hbA, hL⟩, -⟩ := hC
  have e1 : (iI i).toNatClampNeg = i.toNat := by
    have := iI_clamp (i := i) h0.1 (by omega)
    omega
  exact va_sld F.1 F.2.1 hX hbl hbA hW.2.2.2 (iI_in h0.1 h0.2 hL) hdg (by rw [e1, hz]; exact kk)
/-- script[i + n] -/
theorem zs_arg (hC : LAWc p l s m args c A b L xs aK aV) (hW : zW G tys A s ws H locs) {hc hm ho : Nat} {i : Int} {lv : List (Nat × Value)} (hl : lv_has ls 7 (lvL b hc hm ho i ++ lv)) {n z : Int} (h0 : 0 ≤ i + n ∧ i + n < L) (hz : xs (i + n).toNat = iI z) (d0 : decode cL_law pc = .ok (.aload_n 0, 1)) (d1 : decode cL_law (pc + 1) = .ok (.iload 4, 2)) (d2 : decode cL_law (pc + 1 + 2) = .ok (.iconst n, 1)) (d3 : decode cL_law (pc + 1 + 2 + 1) = .ok (.iadd, 1)) (d4 : decode cL_law (pc + 1 + 2 + 1 + 1) = .ok (.iaload, 1))
    (kk : W p l e R s m args below meth c H locs cells slots Q (F0 m (pc + 6) ls (.int (iI z) :: rest))) : W p l e R s m args below meth c H locs cells slots Q (F0 m pc ls rest) := by
  have hx := hC.1.1
  have hb := hC.1.2.1
  refine lv_aload_n hx hb d0 rfl (lv_at hl 0 rfl) ?_
  refine lv_iload hx hb d1 (lv_at hl 4 rfl) ?_
  refine z_iconst hx hb d2 ?_
  refine z_iadd hx hb d3 ?_
  exact zs_ld hC hW h0 hz d4 kk
/-- equal answers -/
theorem zs_eq (hC : LAWc p l s m args c A b L xs aK aV) {x y : Int32} {off : Int} (hxy : x = y) (hdg : decode cL_law pc = .ok (.if_icmp .eq off, 3)) (ht : (pc : Int) + off = ((936 : Nat) : Int)) (kk : W p l e R s m args below meth c H locs cells slots Q (F0 m 936 ls rest)) : W p l e R s m args below meth c H locs cells slots Q (F0 m pc ls (.int y :: .int x :: rest)) :=
  lv_icmp_eq hC.1.1 hC.1.2.1 hdg ht (fun _ => kk) (fun h => absurd hxy h)
end LS
