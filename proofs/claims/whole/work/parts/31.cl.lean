/-! the class: would, markets, turnovers, breaks, undo -/
theorem LF_PUB {N : Int → Int} {x w y z : Int} (hx : 0 ≤ x) (hw : 0 ≤ w) (hy : 0 ≤ y ∧ y ≤ 239) : LF (PUB N y z) x w = LF N x w := by
  unfold PUB
  rw [LF_uI (by omega), LF_uI (by omega)]
theorem LVf_PUB {N : Int → Int} {x y z : Int} (hx : 0 ≤ x) (hy : 0 ≤ y ∧ y ≤ 239) : LVf (PUB N y z) x = LVf N x := by
  funext k
  unfold LVf
  simp only [LF_PUB hx (show (0 : Int) ≤ 0 by decide) hy, LF_PUB hx (show (0 : Int) ≤ 1 by decide) hy, LF_PUB hx (show (0 : Int) ≤ 2 by decide) hy, LF_PUB hx (show (0 : Int) ≤ 3 by decide) hy, LF_PUB hx (show (0 : Int) ≤ 4 by decide) hy, LF_PUB hx (show (0 : Int) ≤ 5 by decide) hy, LF_PUB hx (show (0 : Int) ≤ 6 by decide) hy, LF_PUB hx (show (0 : Int) ≤ 7 by decide) hy, LF_PUB hx (show (0 : Int) ≤ 8 by decide) hy, LF_PUB hx (show (0 : Int) ≤ 9 by decide) hy, LF_PUB hx (show (0 : Int) ≤ 10 by decide) hy, LF_PUB hx (show (0 : Int) ≤ 11 by decide) hy, LF_PUB hx (show (0 : Int) ≤ 12 by decide) hy, LF_PUB hx (show (0 : Int) ≤ 13 by decide) hy]
theorem TR_PUB {N : Int → Int} {x y z : Int} {a : Nat → Int → Int} (hx : 0 ≤ x) (hy : 0 ≤ y ∧ y ≤ 239) (h : TR N x a) : TR (PUB N y z) x a := by
  intro i i0 i1
  rw [LF_PUB hx (by decide) hy, LF_PUB hx (by omega) hy, LF_PUB hx (by omega) hy, LF_PUB hx (by omega) hy, LF_PUB hx (by omega) hy]
  exact h i i0 i1
theorem RV_tell {N : Int → Int} {y z : Int} {a b : Nat → Int → Int} (h : RV N a) (hz : 1 ≤ z) (h0 : 0 ≤ N 0 ∧ N 0 ≤ 239) (hy : 0 ≤ y ∧ y ≤ 239) (b0 : b 0 = uI (a 0) y z) (b1 : b 1 = uI (a 1) y (N 0)) : RV (PUB N y z) b := by
  intro m m0 m1
  have hm := h m m0 m1
  rw [b0, b1]
  unfold PUB
  rw [uI_n (show 3 + m ≠ 243 + y by omega)]
  by_cases hmy : m = y
  · subst hmy
    rw [uI_s, uI_s, uI_s, uI_s]
    exact ⟨rfl, fun _ => rfl, by omega⟩
  · rw [uI_n hmy, uI_n hmy, uI_n (show 3 + m ≠ 3 + y by omega), uI_n (show 243 + m ≠ 243 + y by omega), uI_n (show 243 + m ≠ 3 + y by omega)]
    exact hm
theorem RV_drop {N : Int → Int} {y z n : Int} {a b : Nat → Int → Int} (h : RV N a) (hy0 : N (3 + y) = 0) (b0 : b 0 = uI (uI (a 0) y z) y 0) (b1 : b 1 = uI (uI (a 1) y n) y 240) : RV N b := by
  intro m m0 m1
  have hm := h m m0 m1
  rw [b0, b1]
  by_cases hmy : m = y
  · subst hmy
    rw [uI_s, uI_s, hy0]
    exact ⟨rfl, fun q => absurd rfl q, by omega⟩
  · rw [uI_n hmy, uI_n hmy, uI_n hmy, uI_n hmy]
    exact hm
theorem hiX10_would_X10 : ∀ w ∈ wsX100, w ∈ wsX10_would := fun _ h => List.mem_cons_of_mem _ (List.mem_append_left _ (List.mem_append_left _ (List.mem_append_left _ (List.mem_append_left _ (List.mem_append_left _ (List.mem_append_right _ h))))))
theorem hiX10_would_X1 : ∀ w ∈ wsX10, w ∈ wsX10_would := fun _ h => List.mem_cons_of_mem _ (List.mem_append_left _ (List.mem_append_left _ (List.mem_append_left _ (List.mem_append_left _ (List.mem_append_right _ h)))))
theorem hiX10_would_X2 : ∀ w ∈ wsX20, w ∈ wsX10_would := fun _ h => List.mem_cons_of_mem _ (List.mem_append_left _ (List.mem_append_left _ (List.mem_append_left _ (List.mem_append_right _ h))))
theorem hiX10_would_X8 : ∀ w ∈ wsX80, w ∈ wsX10_would := fun _ h => List.mem_cons_of_mem _ (List.mem_append_left _ (List.mem_append_left _ (List.mem_append_right _ h)))
theorem hiX10_would_X9 : ∀ w ∈ wsX90, w ∈ wsX10_would := fun _ h => List.mem_cons_of_mem _ (List.mem_append_left _ (List.mem_append_right _ h))
theorem hiX10_would_X3 : ∀ w ∈ wsX30, w ∈ wsX10_would := fun _ h => List.mem_cons_of_mem _ (List.mem_append_right _ h)
theorem ziX10_would : yX10_would.cls = RX10 ∧ yX10_would.cls ≠ "java/lang/invoke/MethodHandle" ∧ yX10_would.cls ≠ "java/lang/invoke/VarHandle" ∧ (parseMethodDescriptor yX10_would.desc).map (fun d => d.parameters.length) = some 3 := by decide +kernel
set_option maxHeartbeats 4000000 in
set_option maxRecDepth 100000 in
theorem c_X10_would {l : Launch} {G : va_G} {cI cJ cO : ClassId} (N : Int → Int) (hc : Nat) (qc : Nat → Nat) (vc : Nat → Int) (ac : Nat → Int → Int) (qw : Nat → Nat) (vw : Nat → Int) (aw : Nat → Int → Int) (qB : Nat → Nat) (vB : Nat → Int) (aB : Nat → Int → Int) (gB : Nat → Nat) (qv : Nat → Nat) (vv : Nat → Int) (av : Nat → Int → Int) (he : Nat) (qe : Nat → Nat) (ae : Nat → Int → Int) (n y z : Int)  (h1 : -2147483648 ≤ n ∧ n < 2147483648) (h2 : -2147483648 ≤ y ∧ y < 2147483648) (h3 : -2147483648 ≤ z ∧ z < 2147483648) (hn : 0 ≤ n ∧ n < vB 4) (hg : gB n.toNat = he) (hv4 : vB 4 = N 2) (hWF : WF N) (hRV : RV N av) (hTR : TR N n ae) (hWb : WFb N n) (hcn : vv 2 = CNTV N 240 ∧ CNTV N 240 ≤ 40) (hnw : vc 8 = N 0) : zC l yX10_would wsX10_would { frames := 5, cells := 0, slots := 0, locals := 119 } G (tyZ cI cJ cO) (S := (Int → Int) × (Int → Int) × Int × Int × Int × Int × Int × Int × Int × (Int → Int)) [.ref hc, .int (iI n), .int (iI y), .int (iI z)] ((dO cI cJ hc qc vc ac) ++ ((kO cI cJ (qc 3) qw vw aw) ++ ((iW cI cJ (qc 3) qw vw aw) ++ ((bO cI cJ (qc 6) qB vB aB) ++ ((gW cO (qB 1) gB) ++ ((vW cI cJ (qB 0) qv vv av) ++ (lW cI cJ he qe (LVf N n) ae))))))) (zI (fun _ => A_would N n y z)) (fun u => RV N (uA (uA av 0 u.1) 1 u.2.1) ∧ u.2.2.1 = vv 2) (fun u => (dO cI cJ hc qc vc ac) ++ ((kO cI cJ (qc 3) qw (mk6 u.2.2.2.1 u.2.2.2.2.1 u.2.2.2.2.2.1 u.2.2.2.2.2.2.1 u.2.2.2.2.2.2.2.1 u.2.2.2.2.2.2.2.2.1) (uA aw 0 u.2.2.2.2.2.2.2.2.2)) ++ ((iW cI cJ (qc 3) qw (mk6 u.2.2.2.1 u.2.2.2.2.1 u.2.2.2.2.2.1 u.2.2.2.2.2.2.1 u.2.2.2.2.2.2.2.1 u.2.2.2.2.2.2.2.2.1) (uA aw 0 u.2.2.2.2.2.2.2.2.2)) ++ ((bO cI cJ (qc 6) qB vB aB) ++ ((gW cO (qB 1) gB) ++ ((vW cI cJ (qB 0) qv (uV vv 2 u.2.2.1) (uA (uA av 0 u.1) 1 u.2.1)) ++ (lW cI cJ he qe (LVf N n) ae))))))) 0 0 := by
  refine z_start (cc := cX10_would) (maxL := 7) (ret := (some .int)) (by decide) rfl (Nat.le_of_ble_eq_true rfl) ?_
  intro p e s m below meth c A ls F hr hlk hnm hAe hA hW hl
  have hx := F.1
  have hb := F.2.1
  have hown : s.vm.findClass RX10 = some m.cls := F.2.2.2.1
  have hts := F.2.2.2.2
  have hl : lv_has ls 7 [(0, .ref hc), (1, .int (iI n)), (2, .int (iI y)), (3, .int (iI z))] := hl
  obtain ⟨w0, w1, w2, hV, hls⟩ := id hWF
  obtain ⟨hL, hT⟩ := hls n (by omega) (by omega)
  obtain ⟨l0, l1, l2, l3, l4, l5, l6, l7, l8, l9, l10, l11, l12, l13, l14, l15⟩ := id hL
  refine lv_aload_n hx hb dX10_would_0 rfl (lv_at hl 0 rfl) ?_
  refine z_get (v := .ref (qc 6)) hx hb hts hiX10_would_X10 hown hW 0 6 1 rfl rfl rfl (by decide) rfl dX10_would_1 ?_
  refine lv_iload_n hx hb dX10_would_4 rfl (lv_at hl 1 rfl) ?_
  refine z_callV (As := [.int (iI n)]) (rest := []) F (c_X1_leaseAt  (qc 6) qB vB aB gB n  (show -2147483648 ≤ n ∧ n < 2147483648 by omega) (show 0 ≤ (vB 4) ∧ (vB 4) ≤ 6 by omega)) gX10_would_X1_leaseAt rfl ziX1_leaseAt ⟨rfl, rfl, by decide, by decide⟩ rfl hl.1 rfl (Nat.le_of_ble_eq_true rfl) dX10_would_5 ⟨Nat.zero_le _, Nat.zero_le _⟩ hW hA [3, 4, 5] rfl (by decide) (fun _ => rfl) (fun _ => (dO cI cJ hc qc vc ac) ++ ((kO cI cJ (qc 3) qw vw aw) ++ ((iW cI cJ (qc 3) qw vw aw) ++ ((bO cI cJ (qc 6) qB vB aB) ++ ((gW cO (qB 1) gB) ++ ((vW cI cJ (qB 0) qv vv av) ++ (lW cI cJ he qe (LVf N n) ae))))))) (fun _ => rfl) (fun _ => [va_rf (if 0 ≤ n ∧ n < (vB 4) then some (gB n.toNat) else none)]) (fun _ => rfl) 3 rfl rfl rfl (fun _ H locs hp5 hW => ?_)
  rw [if_pos (show 0 ≤ n ∧ n < vB 4 by omega), hg]
  refine W.eq (g2 := F0 m 8 ls [.ref he]) rfl ?_
  refine lv_astore (lv' := [(4, .ref he), (0, .ref hc), (1, .int (iI n)), (2, .int (iI y)), (3, .int (iI z))]) hx hb dX10_would_8 hl (by decide) rfl (fun ls hl => ?_)
  refine lv_aload hx hb dX10_would_10 (lv_at hl 0 rfl) ?_
  refine lv_ifnull hx hb dX10_would_12 ?_
  refine lv_aload hx hb dX10_would_15 (lv_at hl 0 rfl) ?_
  refine lv_aload_n hx hb dX10_would_17 rfl (lv_at hl 1 rfl) ?_
  refine z_get (v := .int (iI (vc 8))) hx hb hts hiX10_would_X10 hown hW 0 8 2 rfl rfl rfl (by decide) rfl dX10_would_18 ?_
  refine z_callV (As := [.int (iI (vc 8))]) (rest := []) F (c_X2_hasMonth  he qe (LVf N n) ae (vc 8)  (show -2147483648 ≤ (vc 8) ∧ (vc 8) < 2147483648 by omega) (show (0 ≤ (LF N n 0) ∧ (LF N n 0) ≤ 119) ∧ (0 ≤ (LF N n 1) ∧ (LF N n 1) ≤ 120) by omega)) gX10_would_X2_hasMonth rfl ziX2_hasMonth ⟨rfl, rfl, by decide, by decide⟩ rfl hl.1 rfl (Nat.le_of_ble_eq_true rfl) dX10_would_21 ⟨Nat.zero_le _, Nat.zero_le _⟩ hW hA [9, 10, 11, 12, 13] rfl (by decide) (fun _ => rfl) (fun _ => (dO cI cJ hc qc vc ac) ++ ((kO cI cJ (qc 3) qw vw aw) ++ ((iW cI cJ (qc 3) qw vw aw) ++ ((bO cI cJ (qc 6) qB vB aB) ++ ((gW cO (qB 1) gB) ++ ((vW cI cJ (qB 0) qv vv av) ++ (lW cI cJ he qe (LVf N n) ae))))))) (fun _ => rfl) (fun _ => [.int (iI (bI ((LF N n 0) ≤ (vc 8) ∧ (vc 8) < (LF N n 0) + (LF N n 1))))]) (fun _ => rfl) 9 rfl rfl rfl (fun _ H locs hp21 hW => ?_)
  refine z_b_ne (tgt := 29) hx hb dX10_would_24 (by decide) (fun c24 => ?_) (fun c24 => ?_)
  · refine lv_aload_n hx hb dX10_would_29 rfl (lv_at hl 1 rfl) ?_
    refine lv_iload_n hx hb dX10_would_30 rfl (lv_at hl 3 rfl) ?_
    refine lv_iload_n hx hb dX10_would_31 rfl (lv_at hl 4 rfl) ?_
    refine z_callV (As := [.int (iI y), .int (iI z)]) (rest := []) F (c_X10_refusalOf N hc qc vc ac qB vB aB qv vv av y z  (show -2147483648 ≤ y ∧ y < 2147483648 by omega) (show -2147483648 ≤ z ∧ z < 2147483648 by omega) hV hRV hcn) gX10_would_X10_refusalOf rfl ziX10_refusalOf ⟨rfl, rfl, by decide, by decide⟩ rfl hl.1 rfl (Nat.le_of_ble_eq_true rfl) dX10_would_32 ⟨Nat.zero_le _, Nat.zero_le _⟩ hW hA [0, 3, 4, 6, 7, 8] rfl (by decide) (fun _ => rfl) (fun _ => (dO cI cJ hc qc vc ac) ++ ((kO cI cJ (qc 3) qw vw aw) ++ ((iW cI cJ (qc 3) qw vw aw) ++ ((bO cI cJ (qc 6) qB vB aB) ++ ((gW cO (qB 1) gB) ++ ((vW cI cJ (qB 0) qv vv av) ++ (lW cI cJ he qe (LVf N n) ae))))))) (fun _ => rfl) (fun _ => [.int (iI (WHY N y z))]) (fun _ => rfl) 0 rfl rfl rfl (fun _ H locs hp32 hW => ?_)
    refine lv_istore (lv' := [(5, .int (iI (WHY N y z))), (4, .ref he), (0, .ref hc), (1, .int (iI n)), (2, .int (iI y)), (3, .int (iI z))]) hx hb dX10_would_35 hl (by decide) rfl (fun ls hl => ?_)
    have wr : WHY N y z = -1 ∨ WHY N y z = -2 ∨ WHY N y z = 0 := by unfold WHY; split <;> first | (split <;> omega) | omega
    refine lv_iload hx hb dX10_would_37 (lv_at hl 0 rfl) ?_
    refine z_if_eq (tgt := 45) hx hb dX10_would_39 (by decide) ⟨by omega, by omega⟩ (fun c39 => ?_) (fun c39 => ?_)
    · have w9 : ((0 ≤ y ∧ y ≤ 239) ∧ (1 ≤ z ∧ z ≤ 9999) ∧ ¬ 0 < N (3 + y)) := by unfold WHY at c39; split at c39; (rename_i q9; exact q9); omega
      have hP := PUB_WF (y := y) (z := z) hWF (by omega) (by omega)
      have e2 : PUB N y z 2 = N 2 := by unfold PUB; rw [uI_n (by omega), uI_n (by omega)]
      obtain ⟨hL2, hT2⟩ := hP.2.2.2.2 n (by omega) (by omega)
      have eL0 := LF_PUB (N := N) (x := n) (w := 0) (y := y) (z := z) (by omega) (by decide) (by omega)
      have eL1 := LF_PUB (N := N) (x := n) (w := 1) (y := y) (z := z) (by omega) (by decide) (by omega)
      refine lv_aload_n hx hb dX10_would_45 rfl (lv_at hl 2 rfl) ?_
      refine z_get (v := .ref (qc 6)) hx hb hts hiX10_would_X10 hown hW 0 6 1 rfl rfl rfl (by decide) rfl dX10_would_46 ?_
      refine z_get (v := .ref (qB 0)) hx hb hts hiX10_would_X1 hown hW 3 0 3 rfl rfl rfl (by decide) rfl dX10_would_49 ?_
      refine lv_iload_n hx hb dX10_would_52 rfl (lv_at hl 4 rfl) ?_
      refine lv_iload_n hx hb dX10_would_53 rfl (lv_at hl 5 rfl) ?_
      refine lv_aload_n hx hb dX10_would_54 rfl (lv_at hl 2 rfl) ?_
      refine z_get (v := .int (iI (vc 8))) hx hb hts hiX10_would_X10 hown hW 0 8 2 rfl rfl rfl (by decide) rfl dX10_would_55 ?_
      refine z_callV (As := [.int (iI y), .int (iI z), .int (iI (vc 8))]) (rest := []) F (c_X8_tell  (qB 0) qv vv av y z (vc 8)  (show 0 ≤ y ∧ y < 240 by omega)) gX10_would_X8_tell rfl ziX8_tell ⟨rfl, rfl, by decide, by decide⟩ rfl hl.1 rfl (Nat.le_of_ble_eq_true rfl) dX10_would_58 ⟨Nat.zero_le _, Nat.zero_le _⟩ hW hA [6, 7, 8] rfl (by decide) (fun _ => rfl) (fun _ => (dO cI cJ hc qc vc ac) ++ ((kO cI cJ (qc 3) qw vw aw) ++ ((iW cI cJ (qc 3) qw vw aw) ++ ((bO cI cJ (qc 6) qB vB aB) ++ ((gW cO (qB 1) gB) ++ ((vW cI cJ (qB 0) qv (uV vv 2 ((vv 2) + 1)) (uA (uA av 0 (uI ((av 0)) y z)) 1 (uI ((av 1)) y (vc 8)))) ++ (lW cI cJ he qe (LVf N n) ae))))))) (fun _ => rfl) (fun _ => []) (fun _ => rfl) 6 rfl rfl rfl (fun _ H locs hp58 hW => ?_)
      have hW : zW G (tyZ cI cJ cO) A s ((dO cI cJ hc qc vc ac) ++ ((kO cI cJ (qc 3) qw vw aw) ++ ((iW cI cJ (qc 3) qw vw aw) ++ ((bO cI cJ (qc 6) qB vB aB) ++ ((gW cO (qB 1) gB) ++ ((vW cI cJ (qB 0) qv (uV vv 2 ((vv 2) + 1)) (uA (uA av 0 (uI ((av 0)) y z)) 1 (uI ((av 1)) y (vc 8)))) ++ (lW cI cJ he qe (LVf N n) ae))))))) H locs := hW
      rw [← LVf_PUB (N := N) (x := n) (y := y) (z := z) (by omega) (by omega)] at hW
      have hW : zW G (tyZ cI cJ cO) A s ((dO cI cJ hc qc vc ac) ++ ((kO cI cJ (qc 3) qw vw aw) ++ ((iW cI cJ (qc 3) qw vw aw) ++ ((bO cI cJ (qc 6) qB vB aB) ++ ((gW cO (qB 1) gB) ++ ((vW cI cJ (qB 0) qv (uV vv 2 ((vv 2) + 1)) (uA (uA av 0 (uI ((av 0)) y z)) 1 (uI ((av 1)) y (vc 8)))) ++ (lW cI cJ he qe (LVf (PUB N y z) n) ae))))))) H locs := hW
      refine lv_aload_n hx hb dX10_would_61 rfl (lv_at hl 2 rfl) ?_
      refine lv_aload hx hb dX10_would_62 (lv_at hl 1 rfl) ?_
      refine lv_aload_n hx hb dX10_would_64 rfl (lv_at hl 2 rfl) ?_
      refine z_get (v := .int (iI (vc 8))) hx hb hts hiX10_would_X10 hown hW 0 8 2 rfl rfl rfl (by decide) rfl dX10_would_65 ?_
      refine lv_aload_n hx hb dX10_would_68 rfl (lv_at hl 2 rfl) ?_
      refine z_get (v := .int (iI (vc 8))) hx hb hts hiX10_would_X10 hown hW 0 8 2 rfl rfl rfl (by decide) rfl dX10_would_69 ?_
      refine z_callV (As := [.ref he, .int (iI (vc 8)), .int (iI (vc 8))]) (rest := []) F (c_X10_rentKnownIn (PUB N y z) n hc qc vc ac qw vw aw qB vB aB qv (uV vv 2 ((vv 2) + 1)) (uA (uA av 0 (uI ((av 0)) y z)) 1 (uI ((av 1)) y (vc 8))) he qe ae (vc 8) (vc 8)  (show LF (PUB N y z) n 0 ≤ (vc 8) ∧ (vc 8) < LF (PUB N y z) n 0 + LF (PUB N y z) n 1 by omega) (show 0 ≤ (vc 8) ∧ (vc 8) ≤ 239 by omega) (RV_tell (a := av) hRV (by omega) w0 (by omega) rfl (by rw [← hnw]; rfl)) hP.2.2.2.1 hL2 hT2 (TR_PUB (by omega) (by omega) hTR)) gX10_would_X10_rentKnownIn rfl ziX10_rentKnownIn ⟨rfl, rfl, by decide, by decide⟩ rfl hl.1 rfl (Nat.le_of_ble_eq_true rfl) dX10_would_72 ⟨Nat.zero_le _, Nat.zero_le _⟩ hW hA [0, 1, 2, 3, 4, 6, 7, 8, 9, 10, 11, 12, 13] rfl (by decide) (fun _ => rfl) (fun u => (dO cI cJ hc qc vc ac) ++ ((kO cI cJ (qc 3) qw (mk6 u.1 u.2.1 u.2.2.1 u.2.2.2.1 u.2.2.2.2.1 u.2.2.2.2.2.1) (uA aw 0 u.2.2.2.2.2.2)) ++ ((iW cI cJ (qc 3) qw (mk6 u.1 u.2.1 u.2.2.1 u.2.2.2.1 u.2.2.2.2.1 u.2.2.2.2.2.1) (uA aw 0 u.2.2.2.2.2.2)) ++ ((bO cI cJ (qc 6) qB vB aB) ++ ((gW cO (qB 1) gB) ++ ((vW cI cJ (qB 0) qv (uV vv 2 ((vv 2) + 1)) (uA (uA av 0 (uI ((av 0)) y z)) 1 (uI ((av 1)) y (vc 8)))) ++ (lW cI cJ he qe (LVf (PUB N y z) n) ae))))))) (fun _ => rfl) (fun u => [.int (iI (RNTm (PUB N y z) n (vc 8) (vc 8)))]) (fun _ => rfl) 0 rfl rfl rfl (fun u H locs hp72 hW => ?_)
      obtain ⟨w1_1, w2_2, w3_3, w4_4, w5_5, w6_6, g0_7⟩ := u
      have hp72 : True := hp72
      have hW : zW G (tyZ cI cJ cO) A s ((dO cI cJ hc qc vc ac) ++ ((kO cI cJ (qc 3) qw (mk6 w1_1 w2_2 w3_3 w4_4 w5_5 w6_6) (uA aw 0 g0_7)) ++ ((iW cI cJ (qc 3) qw (mk6 w1_1 w2_2 w3_3 w4_4 w5_5 w6_6) (uA aw 0 g0_7)) ++ ((bO cI cJ (qc 6) qB vB aB) ++ ((gW cO (qB 1) gB) ++ ((vW cI cJ (qB 0) qv (uV vv 2 ((vv 2) + 1)) (uA (uA av 0 (uI ((av 0)) y z)) 1 (uI ((av 1)) y (vc 8)))) ++ (lW cI cJ he qe (LVf (PUB N y z) n) ae))))))) H locs := hW
      rw [LVf_PUB (by omega) (by omega)] at hW
      have hW : zW G (tyZ cI cJ cO) A s ((dO cI cJ hc qc vc ac) ++ ((kO cI cJ (qc 3) qw (mk6 w1_1 w2_2 w3_3 w4_4 w5_5 w6_6) (uA aw 0 g0_7)) ++ ((iW cI cJ (qc 3) qw (mk6 w1_1 w2_2 w3_3 w4_4 w5_5 w6_6) (uA aw 0 g0_7)) ++ ((bO cI cJ (qc 6) qB vB aB) ++ ((gW cO (qB 1) gB) ++ ((vW cI cJ (qB 0) qv (uV vv 2 ((vv 2) + 1)) (uA (uA av 0 (uI ((av 0)) y z)) 1 (uI ((av 1)) y (vc 8)))) ++ (lW cI cJ he qe (LVf N n) ae))))))) H locs := hW
      refine lv_istore (lv' := [(6, .int (iI (RNTm (PUB N y z) n (vc 8) (vc 8)))), (5, .int (iI (WHY N y z))), (4, .ref he), (0, .ref hc), (1, .int (iI n)), (2, .int (iI y)), (3, .int (iI z))]) hx hb dX10_would_75 hl (by decide) rfl (fun ls hl => ?_)
      refine lv_aload_n hx hb dX10_would_77 rfl (lv_at hl 3 rfl) ?_
      refine z_get (v := .ref (qc 6)) hx hb hts hiX10_would_X10 hown hW 0 6 1 rfl rfl rfl (by decide) rfl dX10_would_78 ?_
      refine z_get (v := .ref (qB 0)) hx hb hts hiX10_would_X1 hown hW 3 0 3 rfl rfl rfl (by decide) rfl dX10_would_81 ?_
      refine lv_iload_n hx hb dX10_would_84 rfl (lv_at hl 5 rfl) ?_
      refine z_callV (As := [.int (iI y)]) (rest := []) F (c_X8_drop  (qB 0) qv (uV vv 2 ((vv 2) + 1)) (uA (uA av 0 (uI ((av 0)) y z)) 1 (uI ((av 1)) y (vc 8))) y  (show 0 ≤ y ∧ y < 240 by omega)) gX10_would_X8_drop rfl ziX8_drop ⟨rfl, rfl, by decide, by decide⟩ rfl hl.1 rfl (Nat.le_of_ble_eq_true rfl) dX10_would_85 ⟨Nat.zero_le _, Nat.zero_le _⟩ hW hA [6, 7, 8] rfl (by decide) (fun _ => rfl) (fun _ => (dO cI cJ hc qc vc ac) ++ ((kO cI cJ (qc 3) qw (mk6 w1_1 w2_2 w3_3 w4_4 w5_5 w6_6) (uA aw 0 g0_7)) ++ ((iW cI cJ (qc 3) qw (mk6 w1_1 w2_2 w3_3 w4_4 w5_5 w6_6) (uA aw 0 g0_7)) ++ ((bO cI cJ (qc 6) qB vB aB) ++ ((gW cO (qB 1) gB) ++ ((vW cI cJ (qB 0) qv (uV vv 2 (((vv 2) + 1) - 1)) (uA (uA av 0 (uI ((uI ((av 0)) y z)) y 0)) 1 (uI ((uI ((av 1)) y (vc 8))) y 240))) ++ (lW cI cJ he qe (LVf N n) ae))))))) (fun _ => rfl) (fun _ => []) (fun _ => rfl) 6 rfl rfl rfl (fun _ H locs hp85 hW => ?_)
      have hW : zW G (tyZ cI cJ cO) A s ((dO cI cJ hc qc vc ac) ++ ((kO cI cJ (qc 3) qw (mk6 w1_1 w2_2 w3_3 w4_4 w5_5 w6_6) (uA aw 0 g0_7)) ++ ((iW cI cJ (qc 3) qw (mk6 w1_1 w2_2 w3_3 w4_4 w5_5 w6_6) (uA aw 0 g0_7)) ++ ((bO cI cJ (qc 6) qB vB aB) ++ ((gW cO (qB 1) gB) ++ ((vW cI cJ (qB 0) qv (uV vv 2 (((vv 2) + 1) - 1)) (uA (uA av 0 (uI ((uI ((av 0)) y z)) y 0)) 1 (uI ((uI ((av 1)) y (vc 8))) y 240))) ++ (lW cI cJ he qe (LVf N n) ae))))))) H locs := hW
      refine lv_iload hx hb dX10_would_88 (lv_at hl 0 rfl) ?_
      exact z_iret hx hb hr hlk hW (⟨uI ((uI ((av 0)) y z)) y 0, uI ((uI ((av 1)) y (vc 8))) y 240, ((vv 2) + 1) - 1, w1_1, w2_2, w3_3, w4_4, w5_5, w6_6, g0_7⟩) (by unfold A_would; rw [if_pos ⟨by omega, by omega, by omega⟩, if_neg (by omega), hnw]) (⟨RV_drop (a := av) hRV (by have q8 := hV y (by omega) (by omega); omega) rfl rfl, by show vv 2 + 1 - 1 = vv 2; omega⟩) rfl dX10_would_90
    · refine lv_iload hx hb dX10_would_42 (lv_at hl 0 rfl) ?_
      exact z_iret hx hb hr hlk hW (⟨av 0, av 1, vv 2, vw 1, vw 2, vw 3, vw 4, vw 5, vw 6, aw 0⟩) (by unfold A_would; rw [if_pos ⟨by omega, by omega, by omega⟩]; exact if_pos (by omega)) (⟨hRV, rfl⟩) rfl dX10_would_44
  · refine z_iconst (n := -1) hx hb dX10_would_27 ?_
    exact z_iret hx hb hr hlk hW (⟨av 0, av 1, vv 2, vw 1, vw 2, vw 3, vw 4, vw 5, vw 6, aw 0⟩) (by unfold A_would; exact if_neg (fun q9 => by obtain ⟨q1, q2, q3⟩ := q9; omega)) (⟨hRV, rfl⟩) rfl dX10_would_28
set_option maxHeartbeats 4000000 in
set_option maxRecDepth 100000 in
theorem c_X10_would0 {l : Launch} {G : va_G} {cI cJ cO : ClassId} (N : Int → Int) (hc : Nat) (qc : Nat → Nat) (vc : Nat → Int) (ac : Nat → Int → Int) (qB : Nat → Nat) (vB : Nat → Int) (aB : Nat → Int → Int) (gB : Nat → Nat) (n y z : Int)  (h1 : -2147483648 ≤ n ∧ n < 2147483648) (h2 : -2147483648 ≤ y ∧ y < 2147483648) (h3 : -2147483648 ≤ z ∧ z < 2147483648) (cL : ¬ (0 ≤ n ∧ n < vB 4)) (hv4 : vB 4 = N 2) (hWF : WF N) : zC l yX10_would wsX10_would { frames := 5, cells := 0, slots := 0, locals := 119 } G (tyZ cI cJ cO) (S := Unit) [.ref hc, .int (iI n), .int (iI y), .int (iI z)] ((dO cI cJ hc qc vc ac) ++ ((bO cI cJ (qc 6) qB vB aB) ++ (gW cO (qB 1) gB))) (zI (fun _ => A_would N n y z)) (fun _ => True) (fun _ => (dO cI cJ hc qc vc ac) ++ ((bO cI cJ (qc 6) qB vB aB) ++ (gW cO (qB 1) gB))) 0 0 := by
  refine z_start (cc := cX10_would) (maxL := 7) (ret := (some .int)) (by decide) rfl (Nat.le_of_ble_eq_true rfl) ?_
  intro p e s m below meth c A ls F hr hlk hnm hAe hA hW hl
  have hx := F.1
  have hb := F.2.1
  have hown : s.vm.findClass RX10 = some m.cls := F.2.2.2.1
  have hts := F.2.2.2.2
  have hl : lv_has ls 7 [(0, .ref hc), (1, .int (iI n)), (2, .int (iI y)), (3, .int (iI z))] := hl
  obtain ⟨w0, w1, w2, hV, hls⟩ := id hWF
  refine lv_aload_n hx hb dX10_would_0 rfl (lv_at hl 0 rfl) ?_
  refine z_get (v := .ref (qc 6)) hx hb hts hiX10_would_X10 hown hW 0 6 1 rfl rfl rfl (by decide) rfl dX10_would_1 ?_
  refine lv_iload_n hx hb dX10_would_4 rfl (lv_at hl 1 rfl) ?_
  refine z_callV (As := [.int (iI n)]) (rest := []) F (c_X1_leaseAt  (qc 6) qB vB aB gB n  (show -2147483648 ≤ n ∧ n < 2147483648 by omega) (show 0 ≤ (vB 4) ∧ (vB 4) ≤ 6 by omega)) gX10_would_X1_leaseAt rfl ziX1_leaseAt ⟨rfl, rfl, by decide, by decide⟩ rfl hl.1 rfl (Nat.le_of_ble_eq_true rfl) dX10_would_5 ⟨Nat.zero_le _, Nat.zero_le _⟩ hW hA [1, 2, 3] rfl (by decide) (fun _ => rfl) (fun _ => (dO cI cJ hc qc vc ac) ++ ((bO cI cJ (qc 6) qB vB aB) ++ (gW cO (qB 1) gB))) (fun _ => rfl) (fun _ => [va_rf (if 0 ≤ n ∧ n < (vB 4) then some (gB n.toNat) else none)]) (fun _ => rfl) 1 rfl rfl rfl (fun _ H locs hp5 hW => ?_)
  rw [if_neg cL]
  refine W.eq (g2 := F0 m 8 ls [.null]) rfl ?_
  refine lv_astoreN (lv' := [(4, .null), (0, .ref hc), (1, .int (iI n)), (2, .int (iI y)), (3, .int (iI z))]) hx hb dX10_would_8 hl (by decide) rfl (fun ls hl => ?_)
  refine lv_aloadN hx hb dX10_would_10 (lv_at hl 0 rfl) ?_
  refine lv_ifnullN (tgt := 27) hx hb dX10_would_12 (by decide) ?_
  refine z_iconst (n := -1) hx hb dX10_would_27 ?_
  exact z_iret hx hb hr hlk hW () (by unfold A_would; exact if_neg (fun q9 => by obtain ⟨q1, q2, q3⟩ := q9; omega)) trivial rfl dX10_would_28
theorem hiX10_tellOfLease_X10 : ∀ w ∈ wsX100, w ∈ wsX10_tellOfLease := fun _ h => List.mem_cons_of_mem _ (List.mem_append_left _ (List.mem_append_left _ (List.mem_append_left _ (List.mem_append_right _ h))))
theorem hiX10_tellOfLease_X2 : ∀ w ∈ wsX20, w ∈ wsX10_tellOfLease := fun _ h => List.mem_cons_of_mem _ (List.mem_append_left _ (List.mem_append_left _ (List.mem_append_right _ h)))
theorem hiX10_tellOfLease_X1 : ∀ w ∈ wsX10, w ∈ wsX10_tellOfLease := fun _ h => List.mem_cons_of_mem _ (List.mem_append_left _ (List.mem_append_right _ h))
theorem hiX10_tellOfLease_X0 : ∀ w ∈ wsX00, w ∈ wsX10_tellOfLease := fun _ h => List.mem_cons_of_mem _ (List.mem_append_right _ h)
theorem ziX10_tellOfLease : yX10_tellOfLease.cls = RX10 ∧ yX10_tellOfLease.cls ≠ "java/lang/invoke/MethodHandle" ∧ yX10_tellOfLease.cls ≠ "java/lang/invoke/VarHandle" ∧ (parseMethodDescriptor yX10_tellOfLease.desc).map (fun d => d.parameters.length) = some 4 := by decide +kernel
set_option maxHeartbeats 4000000 in
set_option maxRecDepth 100000 in
theorem c_X10_tellOfLease {l : Launch} {G : va_G} {cI cJ cO : ClassId}  (hc : Nat) (qc : Nat → Nat) (vc : Nat → Int) (ac : Nat → Int → Int) (qy : Nat → Nat) (vy : Nat → Int) (ay : Nat → Int → Int) (qB : Nat → Nat) (vB : Nat → Int) (aB : Nat → Int → Int) (he : Nat) (qe : Nat → Nat) (ve : Nat → Int) (ae : Nat → Int → Int) (x r z : Int)  (h1 : 0 ≤ r ∧ r < 120) (hnow : 0 ≤ vc 8 ∧ vc 8 ≤ 239) (hac : 0 ≤ vy 3 ∧ vy 3 ≤ 10) : zC l yX10_tellOfLease wsX10_tellOfLease { frames := 2, cells := 0, slots := 0, locals := 44 } G (tyZ cI cJ cO) (S := (Int → Int) × (Int → Int) × (Int → Int) × Int) [.ref hc, .ref he, .int (iI x), .int (iI r), .int (iI z)] ((dO cI cJ hc qc vc ac) ++ ((aW cI cJ (qc 2) qy vy ay) ++ ((bO cI cJ (qc 6) qB vB aB) ++ (lW cI cJ he qe ve ae)))) (zN) (fun u => KEPT (ay 0) (vy 3) 2 u.1 ∧ KEPT (ay 1) (vy 3) x u.2.1 ∧ KEPT (ay 2) (vy 3) r u.2.2.1 ∧ u.2.2.2 = (if vy 3 = 10 then 10 else vy 3 + 1)) (fun u => (dO cI cJ hc qc vc ac) ++ ((aW cI cJ (qc 2) qy (uV vy 3 u.2.2.2) (uA (uA (uA ay 0 u.1) 1 u.2.1) 2 u.2.2.1)) ++ ((bO cI cJ (qc 6) qB vB (uA aB 2 (uI (aB 2) (vc 8) (aB 2 (vc 8) + 1)))) ++ (lW cI cJ he qe ve (uA (uA ae 2 (uI (ae 2) r z)) 3 (uI (ae 3) r (vc 8))))))) 0 0 := by
  refine z_start (cc := cX10_tellOfLease) (maxL := 5) (ret := none) (by decide) rfl (Nat.le_of_ble_eq_true rfl) ?_
  intro p e s m below meth c A ls F hr hlk hnm hAe hA hW hl
  have hx := F.1
  have hb := F.2.1
  have hown : s.vm.findClass RX10 = some m.cls := F.2.2.2.1
  have hts := F.2.2.2.2
  have hl : lv_has ls 5 [(0, .ref hc), (1, .ref he), (2, .int (iI x)), (3, .int (iI r)), (4, .int (iI z))] := hl
  refine lv_aload_n hx hb dX10_tellOfLease_0 rfl (lv_at hl 1 rfl) ?_
  refine lv_iload_n hx hb dX10_tellOfLease_1 rfl (lv_at hl 3 rfl) ?_
  refine lv_iload hx hb dX10_tellOfLease_2 (lv_at hl 4 rfl) ?_
  refine lv_aload_n hx hb dX10_tellOfLease_4 rfl (lv_at hl 0 rfl) ?_
  refine z_get (v := .int (iI (vc 8))) hx hb hts hiX10_tellOfLease_X10 hown hW 0 8 1 rfl rfl rfl (by decide) rfl dX10_tellOfLease_5 ?_
  refine z_callV (As := [.int (iI r), .int (iI z), .int (iI (vc 8))]) (rest := []) F (c_X2_tell  he qe ve ae r z (vc 8)  (show 0 ≤ r ∧ r < 120 by omega)) gX10_tellOfLease_X2_tell rfl ziX2_tell ⟨rfl, rfl, by decide, by decide⟩ rfl hl.1 rfl (Nat.le_of_ble_eq_true rfl) dX10_tellOfLease_8 ⟨Nat.zero_le _, Nat.zero_le _⟩ hW hA [7, 8, 9, 10, 11] rfl (by decide) (fun _ => rfl) (fun _ => (dO cI cJ hc qc vc ac) ++ ((aW cI cJ (qc 2) qy vy ay) ++ ((bO cI cJ (qc 6) qB vB aB) ++ (lW cI cJ he qe ve (uA (uA ae 2 (uI ((ae 2)) r z)) 3 (uI ((ae 3)) r (vc 8))))))) (fun _ => rfl) (fun _ => []) (fun _ => rfl) 7 rfl rfl rfl (fun _ H locs hp8 hW => ?_)
  have hW : zW G (tyZ cI cJ cO) A s ((dO cI cJ hc qc vc ac) ++ ((aW cI cJ (qc 2) qy vy ay) ++ ((bO cI cJ (qc 6) qB vB aB) ++ (lW cI cJ he qe ve (uA (uA ae 2 (uI ((ae 2)) r z)) 3 (uI ((ae 3)) r (vc 8))))))) H locs := hW
  refine lv_aload_n hx hb dX10_tellOfLease_11 rfl (lv_at hl 0 rfl) ?_
  refine z_get (v := .ref (qc 6)) hx hb hts hiX10_tellOfLease_X10 hown hW 0 6 2 rfl rfl rfl (by decide) rfl dX10_tellOfLease_12 ?_
  refine lv_aload_n hx hb dX10_tellOfLease_15 rfl (lv_at hl 0 rfl) ?_
  refine z_get (v := .int (iI (vc 8))) hx hb hts hiX10_tellOfLease_X10 hown hW 0 8 1 rfl rfl rfl (by decide) rfl dX10_tellOfLease_16 ?_
  refine z_iconst (n := 1) hx hb dX10_tellOfLease_19 ?_
  refine z_callV (As := [.int (iI (vc 8)), .int (iI 1)]) (rest := []) F (c_X1_addNews  (qc 6) qB vB aB (vc 8) 1  (show 0 ≤ (vc 8) ∧ (vc 8) < 240 by omega)) gX10_tellOfLease_X1_addNews rfl ziX1_addNews ⟨rfl, rfl, by decide, by decide⟩ rfl hl.1 rfl (Nat.le_of_ble_eq_true rfl) dX10_tellOfLease_20 ⟨Nat.zero_le _, Nat.zero_le _⟩ hW hA [5, 6] rfl (by decide) (fun _ => rfl) (fun _ => (dO cI cJ hc qc vc ac) ++ ((aW cI cJ (qc 2) qy vy ay) ++ ((bO cI cJ (qc 6) qB vB (uA aB 2 (uI ((aB 2)) (vc 8) ((aB 2) (vc 8) + 1)))) ++ (lW cI cJ he qe ve (uA (uA ae 2 (uI ((ae 2)) r z)) 3 (uI ((ae 3)) r (vc 8))))))) (fun _ => rfl) (fun _ => []) (fun _ => rfl) 5 rfl rfl rfl (fun _ H locs hp20 hW => ?_)
  have hW : zW G (tyZ cI cJ cO) A s ((dO cI cJ hc qc vc ac) ++ ((aW cI cJ (qc 2) qy vy ay) ++ ((bO cI cJ (qc 6) qB vB (uA aB 2 (uI ((aB 2)) (vc 8) ((aB 2) (vc 8) + 1)))) ++ (lW cI cJ he qe ve (uA (uA ae 2 (uI ((ae 2)) r z)) 3 (uI ((ae 3)) r (vc 8))))))) H locs := hW
  refine lv_aload_n hx hb dX10_tellOfLease_23 rfl (lv_at hl 0 rfl) ?_
  refine z_get (v := .ref (qc 2)) hx hb hts hiX10_tellOfLease_X10 hown hW 0 2 3 rfl rfl rfl (by decide) rfl dX10_tellOfLease_24 ?_
  refine z_iconst (n := 2) hx hb dX10_tellOfLease_27 ?_
  refine lv_iload_n hx hb dX10_tellOfLease_28 rfl (lv_at hl 2 rfl) ?_
  refine lv_iload_n hx hb dX10_tellOfLease_29 rfl (lv_at hl 3 rfl) ?_
  refine z_callV (As := [.int (iI 2), .int (iI x), .int (iI r)]) (rest := []) F (c_X0_keep  (qc 2) qy vy ay 2 x r  (show 0 ≤ (vy 3) ∧ (vy 3) ≤ 10 by omega)) gX10_tellOfLease_X0_keep rfl ziX0_keep ⟨rfl, rfl, by decide, by decide⟩ rfl hl.1 rfl (Nat.le_of_ble_eq_true rfl) dX10_tellOfLease_30 ⟨Nat.zero_le _, Nat.zero_le _⟩ hW hA [1, 2, 3, 4] rfl (by decide) (fun _ => rfl) (fun u => (dO cI cJ hc qc vc ac) ++ ((aW cI cJ (qc 2) qy (uV vy 3 u.2.2.2) (uA (uA (uA ay 0 u.1) 1 u.2.1) 2 u.2.2.1)) ++ ((bO cI cJ (qc 6) qB vB (uA aB 2 (uI ((aB 2)) (vc 8) ((aB 2) (vc 8) + 1)))) ++ (lW cI cJ he qe ve (uA (uA ae 2 (uI ((ae 2)) r z)) 3 (uI ((ae 3)) r (vc 8))))))) (fun _ => rfl) (fun u => []) (fun _ => rfl) 1 rfl rfl rfl (fun u H locs hp30 hW => ?_)
  obtain ⟨g0_1, g1_2, g2_3, c2_4⟩ := u
  have hp30 : KEPT ((ay 0)) ((vy 3)) 2 g0_1 ∧ KEPT ((ay 1)) ((vy 3)) x g1_2 ∧ KEPT ((ay 2)) ((vy 3)) r g2_3 ∧ c2_4 = (if (vy 3) = 10 then 10 else (vy 3) + 1) := hp30
  have hW : zW G (tyZ cI cJ cO) A s ((dO cI cJ hc qc vc ac) ++ ((aW cI cJ (qc 2) qy (uV vy 3 c2_4) (uA (uA (uA ay 0 g0_1) 1 g1_2) 2 g2_3)) ++ ((bO cI cJ (qc 6) qB vB (uA aB 2 (uI ((aB 2)) (vc 8) ((aB 2) (vc 8) + 1)))) ++ (lW cI cJ he qe ve (uA (uA ae 2 (uI ((ae 2)) r z)) 3 (uI ((ae 3)) r (vc 8))))))) H locs := hW
  exact z_vret hx hb hr hlk hW (⟨g0_1, g1_2, g2_3, c2_4⟩) hp30 rfl dX10_tellOfLease_33
