/-! the class: truing up -/
theorem hiX10_interestOn_X10 : ∀ w ∈ wsX100, w ∈ wsX10_interestOn := fun _ h => List.mem_cons_of_mem _ (List.mem_append_left _ (List.mem_append_right _ h))
theorem hiX10_interestOn_X1 : ∀ w ∈ wsX10, w ∈ wsX10_interestOn := fun _ h => List.mem_cons_of_mem _ (List.mem_append_right _ h)
theorem ziX10_interestOn : yX10_interestOn.cls = RX10 ∧ yX10_interestOn.cls ≠ "java/lang/invoke/MethodHandle" ∧ yX10_interestOn.cls ≠ "java/lang/invoke/VarHandle" ∧ (parseMethodDescriptor yX10_interestOn.desc).map (fun d => d.parameters.length) = some 2 := by decide +kernel
set_option maxHeartbeats 4000000 in
set_option maxRecDepth 100000 in
theorem c_X10_interestOn {l : Launch} {G : va_G} {cI cJ cO : ClassId}  (hc : Nat) (qc : Nat → Nat) (vc : Nat → Int) (ac : Nat → Int → Int) (qB : Nat → Nat) (vB : Nat → Int) (aB : Nat → Int → Int) (z n : Int)  (h1 : -999999 ≤ z ∧ z ≤ 999999) (h2 : 0 ≤ n ∧ n ≤ 239) (h3 : 0 ≤ vB 3 ∧ vB 3 ≤ 500) : zC l yX10_interestOn wsX10_interestOn { frames := 0, cells := 0, slots := 0, locals := 0 } G (tyZ cI cJ cO) (S := Unit) [.ref hc, .long (lI z), .int (iI n)] ((dO cI cJ hc qc vc ac) ++ (bO cI cJ (qc 6) qB vB aB)) (zI (fun _ => (z * vB 3 * n).tdiv 12000)) (fun _ => True) (fun _ => (dO cI cJ hc qc vc ac) ++ (bO cI cJ (qc 6) qB vB aB)) 0 0 := by
  refine z_start (cc := cX10_interestOn) (maxL := 4) (ret := (some .int)) (by decide) rfl (Nat.le_of_ble_eq_true rfl) ?_
  intro p e s m below meth c A ls F hr hlk hnm hAe hA hW hl
  have hx := F.1
  have hb := F.2.1
  have hown : s.vm.findClass RX10 = some m.cls := F.2.2.2.1
  have hts := F.2.2.2.2
  have hl : lv_has ls 4 [(0, .ref hc), (1, .long (lI z)), (3, .int (iI n))] := hl
  have m1 := mul_R (p := z) (q := vB 3) (P := 999999) (Q := 500) (by omega) (by omega)
  have m2 := mul_R (p := z * vB 3) (q := n) (P := 999999 * 500) (Q := 239) (by omega) (by omega)
  refine lv_lload_n hx hb dX10_interestOn_0 rfl (lv_at hl 1 rfl) ?_
  refine lv_aload_n hx hb dX10_interestOn_1 rfl (lv_at hl 0 rfl) ?_
  refine z_get (v := .ref (qc 6)) hx hb hts hiX10_interestOn_X10 hown hW 0 6 1 rfl rfl rfl (by decide) rfl dX10_interestOn_2 ?_
  refine z_get (v := .int (iI (vB 3))) hx hb hts hiX10_interestOn_X1 hown hW 1 3 2 rfl rfl rfl (by decide) rfl dX10_interestOn_5 ?_
  refine z_i2l hx hb dX10_interestOn_8 ⟨by omega, by omega⟩ ?_
  refine z_lmul hx hb dX10_interestOn_9 ?_
  refine lv_iload_n hx hb dX10_interestOn_10 rfl (lv_at hl 2 rfl) ?_
  refine z_i2l hx hb dX10_interestOn_11 ⟨by omega, by omega⟩ ?_
  refine z_lmul hx hb dX10_interestOn_12 ?_
  refine z_ldc2 hx hb (12000) hown (hts _ (List.mem_of_getElem? (i := 3) rfl)) (by decide +kernel) dX10_interestOn_13 ?_
  refine z_ldiv hx hb dX10_interestOn_16 ⟨by omega, by omega⟩ (by decide) (by decide) (by omega) ?_
  refine z_l2i hx hb dX10_interestOn_17 ?_
  exact z_iret hx hb hr hlk hW () (by first | rfl | omega) trivial rfl dX10_interestOn_18
theorem hiX10_trueUp_X10 : ∀ w ∈ wsX100, w ∈ wsX10_trueUp := fun _ h => List.mem_cons_of_mem _ (List.mem_append_left _ (List.mem_append_left _ (List.mem_append_left _ (List.mem_append_left _ (List.mem_append_left _ (List.mem_append_right _ h))))))
theorem hiX10_trueUp_X1 : ∀ w ∈ wsX10, w ∈ wsX10_trueUp := fun _ h => List.mem_cons_of_mem _ (List.mem_append_left _ (List.mem_append_left _ (List.mem_append_left _ (List.mem_append_left _ (List.mem_append_right _ h)))))
theorem hiX10_trueUp_X2 : ∀ w ∈ wsX20, w ∈ wsX10_trueUp := fun _ h => List.mem_cons_of_mem _ (List.mem_append_left _ (List.mem_append_left _ (List.mem_append_left _ (List.mem_append_right _ h))))
theorem hiX10_trueUp_X9 : ∀ w ∈ wsX90, w ∈ wsX10_trueUp := fun _ h => List.mem_cons_of_mem _ (List.mem_append_left _ (List.mem_append_left _ (List.mem_append_right _ h)))
theorem hiX10_trueUp_X8 : ∀ w ∈ wsX80, w ∈ wsX10_trueUp := fun _ h => List.mem_cons_of_mem _ (List.mem_append_left _ (List.mem_append_right _ h))
theorem hiX10_trueUp_X3 : ∀ w ∈ wsX30, w ∈ wsX10_trueUp := fun _ h => List.mem_cons_of_mem _ (List.mem_append_right _ h)
theorem ziX10_trueUp : yX10_trueUp.cls = RX10 ∧ yX10_trueUp.cls ≠ "java/lang/invoke/MethodHandle" ∧ yX10_trueUp.cls ≠ "java/lang/invoke/VarHandle" ∧ (parseMethodDescriptor yX10_trueUp.desc).map (fun d => d.parameters.length) = some 3 := by decide +kernel
set_option maxHeartbeats 4000000 in
set_option maxRecDepth 100000 in
theorem c_X10_trueUp {l : Launch} {G : va_G} {cI cJ cO : ClassId} (N : Int → Int) (hc : Nat) (qc : Nat → Nat) (vc : Nat → Int) (ac : Nat → Int → Int) (qw : Nat → Nat) (vw : Nat → Int) (aw : Nat → Int → Int) (qu : Nat → Nat) (vu : Nat → Int) (au : Nat → Int → Int) (qB : Nat → Nat) (vB : Nat → Int) (aB : Nat → Int → Int) (gB : Nat → Nat) (qv : Nat → Nat) (vv : Nat → Int) (av : Nat → Int → Int) (he : Nat) (qe : Nat → Nat) (ae : Nat → Int → Int) (n k z : Int)  (h1 : -2147483648 ≤ n ∧ n < 2147483648) (h2 : -2147483648 ≤ k ∧ k < 2147483648) (h3 : 0 ≤ z ∧ z ≤ 1) (hn : 0 ≤ n ∧ n < vB 4) (hg : gB n.toNat = he) (hv4 : vB 4 = N 2) (hWF : WF N) (hRV : RV N av) (hTR : TR N n ae) (hWb : WFb N n) (hv3 : vB 3 = N 1) : zC l yX10_trueUp wsX10_trueUp { frames := 5, cells := 0, slots := 0, locals := 118 } G (tyZ cI cJ cO) (S := Int × Int × Int × Int × Int × Int × (Int → Int) × Int × Int × Int × Int × Int × Int × (Int → Int)) [.ref hc, .int (iI n), .int (iI k), .int (iI z)] ((dO cI cJ hc qc vc ac) ++ ((kO cI cJ (qc 3) qw vw aw) ++ ((iW cI cJ (qc 3) qw vw aw) ++ ((kO cI cJ (qc 4) qu vu au) ++ ((iW cI cJ (qc 4) qu vu au) ++ ((bO cI cJ (qc 6) qB vB aB) ++ ((gW cO (qB 1) gB) ++ ((vW cI cJ (qB 0) qv vv av) ++ (lW cI cJ he qe (LVf N n) ae))))))))) (zI (fun _ => if (0 ≤ n ∧ n ≤ N 2 - 1) ∧ (1 ≤ k ∧ k ≤ 239) then (if z = 0 then TRUED N n k else INTED N n k) else -100000000)) (fun u => True) (fun u => (dO cI cJ hc qc vc ac) ++ ((kO cI cJ (qc 3) qw (mk6 u.1 u.2.1 u.2.2.1 u.2.2.2.1 u.2.2.2.2.1 u.2.2.2.2.2.1) (uA aw 0 u.2.2.2.2.2.2.1)) ++ ((iW cI cJ (qc 3) qw (mk6 u.1 u.2.1 u.2.2.1 u.2.2.2.1 u.2.2.2.2.1 u.2.2.2.2.2.1) (uA aw 0 u.2.2.2.2.2.2.1)) ++ ((kO cI cJ (qc 4) qu (mk6 u.2.2.2.2.2.2.2.1 u.2.2.2.2.2.2.2.2.1 u.2.2.2.2.2.2.2.2.2.1 u.2.2.2.2.2.2.2.2.2.2.1 u.2.2.2.2.2.2.2.2.2.2.2.1 u.2.2.2.2.2.2.2.2.2.2.2.2.1) (uA au 0 u.2.2.2.2.2.2.2.2.2.2.2.2.2)) ++ ((iW cI cJ (qc 4) qu (mk6 u.2.2.2.2.2.2.2.1 u.2.2.2.2.2.2.2.2.1 u.2.2.2.2.2.2.2.2.2.1 u.2.2.2.2.2.2.2.2.2.2.1 u.2.2.2.2.2.2.2.2.2.2.2.1 u.2.2.2.2.2.2.2.2.2.2.2.2.1) (uA au 0 u.2.2.2.2.2.2.2.2.2.2.2.2.2)) ++ ((bO cI cJ (qc 6) qB vB aB) ++ ((gW cO (qB 1) gB) ++ ((vW cI cJ (qB 0) qv vv av) ++ (lW cI cJ he qe (LVf N n) ae))))))))) 0 0 := by
  refine z_start (cc := cX10_trueUp) (maxL := 9) (ret := (some .int)) (by decide) rfl (Nat.le_of_ble_eq_true rfl) ?_
  intro p e s m below meth c A ls F hr hlk hnm hAe hA hW hl
  have hx := F.1
  have hb := F.2.1
  have hown : s.vm.findClass RX10 = some m.cls := F.2.2.2.1
  have hts := F.2.2.2.2
  have hl : lv_has ls 9 [(0, .ref hc), (1, .int (iI n)), (2, .int (iI k)), (3, .int (iI z))] := hl
  obtain ⟨w0, w1, w2, hV, hls⟩ := id hWF
  obtain ⟨hL, hT⟩ := hls n (by omega) (by omega)
  obtain ⟨l0, l1, l2, l3, l4, l5, l6, l7, l8, l9, l10, l11, l12, l13, l14, l15⟩ := id hL
  refine lv_aload_n hx hb dX10_trueUp_0 rfl (lv_at hl 0 rfl) ?_
  refine z_get (v := .ref (qc 6)) hx hb hts hiX10_trueUp_X10 hown hW 0 6 1 rfl rfl rfl (by decide) rfl dX10_trueUp_1 ?_
  refine lv_iload_n hx hb dX10_trueUp_4 rfl (lv_at hl 1 rfl) ?_
  refine z_callV (As := [.int (iI n)]) (rest := []) F (c_X1_leaseAt  (qc 6) qB vB aB gB n  (show -2147483648 ≤ n ∧ n < 2147483648 by omega) (show 0 ≤ (vB 4) ∧ (vB 4) ≤ 6 by omega)) gX10_trueUp_X1_leaseAt rfl ziX1_leaseAt ⟨rfl, rfl, by decide, by decide⟩ rfl hl.1 rfl (Nat.le_of_ble_eq_true rfl) dX10_trueUp_5 ⟨Nat.zero_le _, Nat.zero_le _⟩ hW hA [5, 6, 7] rfl (by decide) (fun _ => rfl) (fun _ => (dO cI cJ hc qc vc ac) ++ ((kO cI cJ (qc 3) qw vw aw) ++ ((iW cI cJ (qc 3) qw vw aw) ++ ((kO cI cJ (qc 4) qu vu au) ++ ((iW cI cJ (qc 4) qu vu au) ++ ((bO cI cJ (qc 6) qB vB aB) ++ ((gW cO (qB 1) gB) ++ ((vW cI cJ (qB 0) qv vv av) ++ (lW cI cJ he qe (LVf N n) ae))))))))) (fun _ => rfl) (fun _ => [va_rf (if 0 ≤ n ∧ n < (vB 4) then some (gB n.toNat) else none)]) (fun _ => rfl) 5 rfl rfl rfl (fun _ H locs hp5 hW => ?_)
  rw [if_pos (show 0 ≤ n ∧ n < vB 4 by omega), hg]
  refine W.eq (g2 := F0 m 8 ls [.ref he]) rfl ?_
  refine lv_astore (lv' := [(4, .ref he), (0, .ref hc), (1, .int (iI n)), (2, .int (iI k)), (3, .int (iI z))]) hx hb dX10_trueUp_8 hl (by decide) rfl (fun ls hl => ?_)
  refine lv_aload hx hb dX10_trueUp_10 (lv_at hl 0 rfl) ?_
  refine lv_ifnull hx hb dX10_trueUp_12 ?_
  refine lv_iload_n hx hb dX10_trueUp_15 rfl (lv_at hl 3 rfl) ?_
  refine z_iconst (n := 1) hx hb dX10_trueUp_16 ?_
  refine z_icmp_lt (tgt := 27) hx hb dX10_trueUp_17 (by decide) ⟨by omega, by omega⟩ (by decide) (fun c17 => ?_) (fun c17 => ?_)
  · refine z_ldc hx hb (-100000000) hown (hts _ (List.mem_of_getElem? (i := 2) rfl)) (by decide +kernel) dX10_trueUp_27 ?_
    exact z_iret hx hb hr hlk hW (⟨vw 1, vw 2, vw 3, vw 4, vw 5, vw 6, aw 0, vu 1, vu 2, vu 3, vu 4, vu 5, vu 6, au 0⟩) (by exact if_neg (fun q9 => by obtain ⟨q1, q2⟩ := q9; omega)) trivial rfl dX10_trueUp_29
  · refine lv_iload_n hx hb dX10_trueUp_20 rfl (lv_at hl 3 rfl) ?_
    refine z_callS (As := [.int (iI k)]) (rest := []) F (c_X10_isMonth   k  (show -2147483648 ≤ k ∧ k < 2147483648 by omega)) gX10_trueUp_X10_isMonth rfl ziX10_isMonth ⟨rfl, rfl, by decide, by decide⟩ rfl hl.1 rfl (Nat.le_of_ble_eq_true rfl) dX10_trueUp_21 ⟨Nat.zero_le _, Nat.zero_le _⟩ hW hA [] rfl (by decide) (fun _ => rfl) (fun _ => (dO cI cJ hc qc vc ac) ++ ((kO cI cJ (qc 3) qw vw aw) ++ ((iW cI cJ (qc 3) qw vw aw) ++ ((kO cI cJ (qc 4) qu vu au) ++ ((iW cI cJ (qc 4) qu vu au) ++ ((bO cI cJ (qc 6) qB vB aB) ++ ((gW cO (qB 1) gB) ++ ((vW cI cJ (qB 0) qv vv av) ++ (lW cI cJ he qe (LVf N n) ae))))))))) (fun _ => rfl) (fun _ => [.int (iI (bI (0 ≤ k ∧ k < 240)))]) (fun _ => rfl) (fun _ H locs hp21 hW => ?_)
    refine z_b_ne (tgt := 30) hx hb dX10_trueUp_24 (by decide) (fun c24 => ?_) (fun c24 => ?_)
    · refine lv_aload_n hx hb dX10_trueUp_30 rfl (lv_at hl 1 rfl) ?_
      refine z_get (v := .ref (qc 3)) hx hb hts hiX10_trueUp_X10 hown hW 0 3 3 rfl rfl rfl (by decide) rfl dX10_trueUp_31 ?_
      refine lv_aload hx hb dX10_trueUp_34 (lv_at hl 0 rfl) ?_
      refine lv_aload_n hx hb dX10_trueUp_36 rfl (lv_at hl 1 rfl) ?_
      refine z_get (v := .ref (qc 6)) hx hb hts hiX10_trueUp_X10 hown hW 0 6 1 rfl rfl rfl (by decide) rfl dX10_trueUp_37 ?_
      refine z_get (v := .ref (qB 0)) hx hb hts hiX10_trueUp_X1 hown hW 5 0 4 rfl rfl rfl (by decide) rfl dX10_trueUp_40 ?_
      refine lv_iload_n hx hb dX10_trueUp_43 rfl (lv_at hl 3 rfl) ?_
      refine z_callV (As := [.ref he, .ref (qB 0), .int (iI k)]) (rest := []) F (c_X9_begin N n (qc 3) qw vw aw he qe ae (qB 0) qv vv av k  (show -2147483648 ≤ k ∧ k < 2147483648 by omega) hV hL hRV) gX10_trueUp_X9_begin rfl ziX9_begin ⟨rfl, rfl, by decide, by decide⟩ rfl hl.1 rfl (Nat.le_of_ble_eq_true rfl) dX10_trueUp_44 ⟨Nat.zero_le _, Nat.zero_le _⟩ hW hA [1, 2, 11, 12, 13, 14, 15, 8, 9, 10] rfl (by decide) (fun _ => rfl) (fun u => (dO cI cJ hc qc vc ac) ++ ((kO cI cJ (qc 3) qw (mk6 k 0 (LF N n 2) (-1) (LF N n 2) (LF N n 2)) (uA aw 0 u)) ++ ((iW cI cJ (qc 3) qw (mk6 k 0 (LF N n 2) (-1) (LF N n 2) (LF N n 2)) (uA aw 0 u)) ++ ((kO cI cJ (qc 4) qu vu au) ++ ((iW cI cJ (qc 4) qu vu au) ++ ((bO cI cJ (qc 6) qB vB aB) ++ ((gW cO (qB 1) gB) ++ ((vW cI cJ (qB 0) qv vv av) ++ (lW cI cJ he qe (LVf N n) ae))))))))) (fun _ => rfl) (fun u => []) (fun _ => rfl) 1 rfl rfl rfl (fun u H locs hp44 hW => ?_)
      obtain ⟨g_1, rfl⟩ : ∃ z, z = u := ⟨_, rfl⟩
      have hp44 : rowI N n k g_1 := hp44
      have hW : zW G (tyZ cI cJ cO) A s ((dO cI cJ hc qc vc ac) ++ ((kO cI cJ (qc 3) qw (mk6 k 0 (LF N n 2) (-1) (LF N n 2) (LF N n 2)) (uA aw 0 g_1)) ++ ((iW cI cJ (qc 3) qw (mk6 k 0 (LF N n 2) (-1) (LF N n 2) (LF N n 2)) (uA aw 0 g_1)) ++ ((kO cI cJ (qc 4) qu vu au) ++ ((iW cI cJ (qc 4) qu vu au) ++ ((bO cI cJ (qc 6) qB vB aB) ++ ((gW cO (qB 1) gB) ++ ((vW cI cJ (qB 0) qv vv av) ++ (lW cI cJ he qe (LVf N n) ae))))))))) H locs := hW
      refine lv_aload_n hx hb dX10_trueUp_47 rfl (lv_at hl 1 rfl) ?_
      refine z_get (v := .ref (qc 4)) hx hb hts hiX10_trueUp_X10 hown hW 0 4 5 rfl rfl rfl (by decide) rfl dX10_trueUp_48 ?_
      refine lv_aload hx hb dX10_trueUp_51 (lv_at hl 0 rfl) ?_
      refine lv_aload_n hx hb dX10_trueUp_53 rfl (lv_at hl 1 rfl) ?_
      refine z_get (v := .ref (qc 6)) hx hb hts hiX10_trueUp_X10 hown hW 0 6 1 rfl rfl rfl (by decide) rfl dX10_trueUp_54 ?_
      refine z_get (v := .ref (qB 0)) hx hb hts hiX10_trueUp_X1 hown hW 5 0 4 rfl rfl rfl (by decide) rfl dX10_trueUp_57 ?_
      refine lv_iload_n hx hb dX10_trueUp_60 rfl (lv_at hl 3 rfl) ?_
      refine z_iconst (n := 1) hx hb dX10_trueUp_61 ?_
      refine z_isub hx hb dX10_trueUp_62 ?_
      refine z_callV (As := [.ref he, .ref (qB 0), .int (iI (k - 1))]) (rest := []) F (c_X9_begin N n (qc 4) qu vu au he qe ae (qB 0) qv vv av (k - 1)  (show -2147483648 ≤ (k - 1) ∧ (k - 1) < 2147483648 by omega) hV hL hRV) gX10_trueUp_X9_begin rfl ziX9_begin ⟨rfl, rfl, by decide, by decide⟩ rfl hl.1 rfl (Nat.le_of_ble_eq_true rfl) dX10_trueUp_63 ⟨Nat.zero_le _, Nat.zero_le _⟩ hW hA [3, 4, 11, 12, 13, 14, 15, 8, 9, 10] rfl (by decide) (fun _ => rfl) (fun u => (dO cI cJ hc qc vc ac) ++ ((kO cI cJ (qc 3) qw (mk6 k 0 (LF N n 2) (-1) (LF N n 2) (LF N n 2)) (uA aw 0 g_1)) ++ ((iW cI cJ (qc 3) qw (mk6 k 0 (LF N n 2) (-1) (LF N n 2) (LF N n 2)) (uA aw 0 g_1)) ++ ((kO cI cJ (qc 4) qu (mk6 (k - 1) 0 (LF N n 2) (-1) (LF N n 2) (LF N n 2)) (uA au 0 u)) ++ ((iW cI cJ (qc 4) qu (mk6 (k - 1) 0 (LF N n 2) (-1) (LF N n 2) (LF N n 2)) (uA au 0 u)) ++ ((bO cI cJ (qc 6) qB vB aB) ++ ((gW cO (qB 1) gB) ++ ((vW cI cJ (qB 0) qv vv av) ++ (lW cI cJ he qe (LVf N n) ae))))))))) (fun _ => rfl) (fun u => []) (fun _ => rfl) 3 rfl rfl rfl (fun u H locs hp63 hW => ?_)
      obtain ⟨g_2, rfl⟩ : ∃ z, z = u := ⟨_, rfl⟩
      have hp63 : rowI N n (k - 1) g_2 := hp63
      have hW : zW G (tyZ cI cJ cO) A s ((dO cI cJ hc qc vc ac) ++ ((kO cI cJ (qc 3) qw (mk6 k 0 (LF N n 2) (-1) (LF N n 2) (LF N n 2)) (uA aw 0 g_1)) ++ ((iW cI cJ (qc 3) qw (mk6 k 0 (LF N n 2) (-1) (LF N n 2) (LF N n 2)) (uA aw 0 g_1)) ++ ((kO cI cJ (qc 4) qu (mk6 (k - 1) 0 (LF N n 2) (-1) (LF N n 2) (LF N n 2)) (uA au 0 g_2)) ++ ((iW cI cJ (qc 4) qu (mk6 (k - 1) 0 (LF N n 2) (-1) (LF N n 2) (LF N n 2)) (uA au 0 g_2)) ++ ((bO cI cJ (qc 6) qB vB aB) ++ ((gW cO (qB 1) gB) ++ ((vW cI cJ (qB 0) qv vv av) ++ (lW cI cJ he qe (LVf N n) ae))))))))) H locs := hW
      have l13b : 0 ≤ (if 0 < LF N n 13 then LF N n 13 - 1 else 240) ∧ (if 0 < LF N n 13 then LF N n 13 - 1 else 240) ≤ 240 := by split <;> omega
      have hE := END_R (k := k) hL
      refine lv_iload_n hx hb dX10_trueUp_66 rfl (lv_at hl 3 rfl) ?_
      refine lv_aload hx hb dX10_trueUp_67 (lv_at hl 0 rfl) ?_
      refine lv_iload_n hx hb dX10_trueUp_69 rfl (lv_at hl 3 rfl) ?_
      refine z_callV (As := [.int (iI k)]) (rest := [.int (iI k)]) F (c_X2_endKnownIn  he qe (LVf N n) ae k  (show -2147483648 ≤ k ∧ k < 2147483648 by omega) (show 0 ≤ (if 0 < LF N n 13 then LF N n 13 - 1 else 240) ∧ (if 0 < LF N n 13 then LF N n 13 - 1 else 240) ≤ 240 by omega)) gX10_trueUp_X2_endKnownIn rfl ziX2_endKnownIn ⟨rfl, rfl, by decide, by decide⟩ rfl hl.1 rfl (Nat.le_of_ble_eq_true rfl) dX10_trueUp_70 ⟨Nat.zero_le _, Nat.zero_le _⟩ hW hA [11, 12, 13, 14, 15] rfl (by decide) (fun _ => rfl) (fun _ => (dO cI cJ hc qc vc ac) ++ ((kO cI cJ (qc 3) qw (mk6 k 0 (LF N n 2) (-1) (LF N n 2) (LF N n 2)) (uA aw 0 g_1)) ++ ((iW cI cJ (qc 3) qw (mk6 k 0 (LF N n 2) (-1) (LF N n 2) (LF N n 2)) (uA aw 0 g_1)) ++ ((kO cI cJ (qc 4) qu (mk6 (k - 1) 0 (LF N n 2) (-1) (LF N n 2) (LF N n 2)) (uA au 0 g_2)) ++ ((iW cI cJ (qc 4) qu (mk6 (k - 1) 0 (LF N n 2) (-1) (LF N n 2) (LF N n 2)) (uA au 0 g_2)) ++ ((bO cI cJ (qc 6) qB vB aB) ++ ((gW cO (qB 1) gB) ++ ((vW cI cJ (qB 0) qv vv av) ++ (lW cI cJ he qe (LVf N n) ae))))))))) (fun _ => rfl) (fun _ => [.int (iI (if (if 0 < LF N n 13 then LF N n 13 - 1 else 240) ≤ k then (if zand (LF N n 7) 16 ≠ 0 then LF N n 12 else -1) else (LF N n 0) + (LF N n 1))), .int (iI k)]) (fun _ => rfl) 11 rfl rfl rfl (fun _ H locs hp70 hW => ?_)
      rw [ENDc hWb hL (show k ≤ 239 by omega)]
      refine z_mmin F hl.1 6 7 8 9 rfl rfl rfl rfl (by decide) (Nat.le_of_ble_eq_true rfl) ⟨Nat.zero_le _, Nat.zero_le _⟩ ⟨by omega, by omega⟩ ⟨by omega, by omega⟩ dX10_trueUp_73 ?_
      refine lv_istore (lv' := [(5, .int (iI (zmin k (END N n k)))), (4, .ref he), (0, .ref hc), (1, .int (iI n)), (2, .int (iI k)), (3, .int (iI z))]) hx hb dX10_trueUp_76 hl (by decide) rfl (fun ls hl => ?_)
      refine z_iconst (n := 0) hx hb dX10_trueUp_78 ?_
      refine lv_istore (lv' := [(6, .int (iI 0)), (5, .int (iI (zmin k (END N n k)))), (4, .ref he), (0, .ref hc), (1, .int (iI n)), (2, .int (iI k)), (3, .int (iI z))]) hx hb dX10_trueUp_79 hl (by decide) rfl (fun ls hl => ?_)
      refine lv_aload hx hb dX10_trueUp_81 (lv_at hl 2 rfl) ?_
      refine z_get (v := .int (iI (LF N n 0))) hx hb hts hiX10_trueUp_X2 hown hW 11 4 10 rfl rfl rfl (by decide) rfl dX10_trueUp_83 ?_
      refine lv_istore (lv' := [(7, .int (iI (LF N n 0))), (6, .int (iI 0)), (5, .int (iI (zmin k (END N n k)))), (4, .ref he), (0, .ref hc), (1, .int (iI n)), (2, .int (iI k)), (3, .int (iI z))]) hx hb dX10_trueUp_86 hl (by decide) rfl (fun ls hl => ?_)
      have hA2 : zmin k (END N n k) = AHD N n k := rfl
      have hA3 := zmin_is k (END N n k)
      refine z_loop12 (fun (s6 : Int) (m7 : Int) (d2 : Int) (d3 : Int) (d4 : Int) (d5 : Int) (d6 : Int) (e2 : Int) (e3 : Int) (e4 : Int) (e5 : Int) (e6 : Int) (ls : Array Slot) (H : Heap) (locs : List Loc) => (LF N n 0 ≤ m7 ∧ m7 ≤ 240 ∧ (LF N n 0 ≤ zmin k (END N n k) → m7 ≤ zmin k (END N n k)) ∧ (zmin k (END N n k) < LF N n 0 → m7 = LF N n 0)) ∧ (s6 = SUM (fun j => if z = 0 then TRU N n k j else INTR N n k j) (LF N n 0) (m7 - LF N n 0).toNat) ∧ (0 ≤ d2 ∧ d2 ≤ RVW N n m7 ∧ d3 = RNT N n k d2.toNat ∧ d5 = LST N n d2.toNat ∧ d6 = MST N n d2.toNat ∧ (1 ≤ d2 → d4 = WNT N n k (RNT N n k (d2 - 1).toNat) d2)) ∧ (0 ≤ e2 ∧ e2 ≤ RVW N n m7 ∧ e3 = RNT N n (k - 1) e2.toNat ∧ e5 = LST N n e2.toNat ∧ e6 = MST N n e2.toNat ∧ (1 ≤ e2 → e4 = WNT N n (k - 1) (RNT N n (k - 1) (e2 - 1).toNat) e2)) ∧ zW G (tyZ cI cJ cO) A s ((dO cI cJ hc qc vc ac) ++ ((kO cI cJ (qc 3) qw (mk6 k d2 d3 d4 d5 d6) (uA aw 0 g_1)) ++ ((iW cI cJ (qc 3) qw (mk6 k 0 (LF N n 2) (-1) (LF N n 2) (LF N n 2)) (uA aw 0 g_1)) ++ ((kO cI cJ (qc 4) qu (mk6 (k - 1) e2 e3 e4 e5 e6) (uA au 0 g_2)) ++ ((iW cI cJ (qc 4) qu (mk6 (k - 1) 0 (LF N n 2) (-1) (LF N n 2) (LF N n 2)) (uA au 0 g_2)) ++ ((bO cI cJ (qc 6) qB vB aB) ++ ((gW cO (qB 1) gB) ++ ((vW cI cJ (qB 0) qv vv av) ++ (lW cI cJ he qe (LVf N n) ae))))))))) H locs ∧ lv_has ls 9 [(7, .int (iI m7)), (6, .int (iI s6)), (5, .int (iI (zmin k (END N n k)))), (4, .ref he), (0, .ref hc), (1, .int (iI n)), (2, .int (iI k)), (3, .int (iI z))]) (fun s6 m7 d2 d3 d4 d5 d6 e2 e3 e4 e5 e6 => (zmin k (END N n k) - m7).toNat) ?_ 0 (LF N n 0) 0 (LF N n 2) (-1) (LF N n 2) (LF N n 2) 0 (LF N n 2) (-1) (LF N n 2) (LF N n 2) _ _ _ ⟨(by omega), (by rw [show (LF N n 0 - LF N n 0).toNat = 0 by omega]; rfl), ⟨Int.le_refl 0, RVW_0 hL (by omega), rfl, rfl, rfl, fun q9 => by omega⟩, ⟨Int.le_refl 0, RVW_0 hL (by omega), rfl, rfl, rfl, fun q9 => by omega⟩, hW, (lv_sub hl [0, 1, 2, 3, 4, 5, 6, 7] rfl)⟩
      intro s6 m7 d2 d3 d4 d5 d6 e2 e3 e4 e5 e6 ls H locs hI ih
      obtain ⟨i1, i2, i3, i4, hW, hl⟩ := hI
      refine lv_iload hx hb dX10_trueUp_88 (lv_at hl 0 rfl) ?_
      refine lv_iload hx hb dX10_trueUp_90 (lv_at hl 2 rfl) ?_
      refine z_icmp_ge (tgt := 151) hx hb dX10_trueUp_92 (by decide) ⟨by omega, by omega⟩ ⟨by omega, by omega⟩ (fun c92 => ?_) (fun c92 => ?_)
      · refine lv_iload hx hb dX10_trueUp_151 (lv_at hl 1 rfl) ?_
        exact z_iret hx hb hr hlk hW (⟨k, d2, d3, d4, d5, d6, g_1, (k - 1), e2, e3, e4, e5, e6, g_2⟩) (by rw [if_pos ⟨by omega, by omega⟩, i2, show (m7 - LF N n 0).toNat = (AHD N n k - LF N n 0).toNat by omega, TRI_eq]; rfl) trivial rfl dX10_trueUp_153
      · refine lv_aload_n hx hb dX10_trueUp_95 rfl (lv_at hl 4 rfl) ?_
        refine z_get (v := .ref (qc 3)) hx hb hts hiX10_trueUp_X10 hown hW 0 3 3 rfl rfl rfl (by decide) rfl dX10_trueUp_96 ?_
        refine lv_aload hx hb dX10_trueUp_99 (lv_at hl 3 rfl) ?_
        refine lv_iload hx hb dX10_trueUp_101 (lv_at hl 0 rfl) ?_
        refine z_callV (As := [.ref he, .int (iI m7)]) (rest := []) F (c_X9_dueIn N n (qc 3) qw (mk6 k d2 d3 d4 d5 d6) (uA aw 0 g_1) he qe ae m7 k d2 (show LF N n 0 ≤ m7 ∧ m7 ≤ LF N n 0 + 239 by omega) (show 0 ≤ k ∧ k ≤ 239 by omega) ⟨i3.1, i3.2.1⟩ ⟨rfl, rfl, i3.2.2.1, i3.2.2.2.1, i3.2.2.2.2.1, i3.2.2.2.2.2⟩ hp44 hV hL hT hTR) gX10_trueUp_X9_dueIn rfl ziX9_dueIn ⟨rfl, rfl, by decide, by decide⟩ rfl hl.1 rfl (Nat.le_of_ble_eq_true rfl) dX10_trueUp_103 ⟨Nat.zero_le _, Nat.zero_le _⟩ hW hA [1, 2, 11, 12, 13, 14, 15] rfl (by decide) (fun _ => rfl) (fun u => (dO cI cJ hc qc vc ac) ++ ((kO cI cJ (qc 3) qw (mk6 k (RVW N n m7) (RNT N n k (RVW N n m7).toNat) u (LST N n (RVW N n m7).toNat) (MST N n (RVW N n m7).toNat)) (uA aw 0 g_1)) ++ ((iW cI cJ (qc 3) qw (mk6 k (RVW N n m7) (RNT N n k (RVW N n m7).toNat) u (LST N n (RVW N n m7).toNat) (MST N n (RVW N n m7).toNat)) (uA aw 0 g_1)) ++ ((kO cI cJ (qc 4) qu (mk6 (k - 1) e2 e3 e4 e5 e6) (uA au 0 g_2)) ++ ((iW cI cJ (qc 4) qu (mk6 (k - 1) 0 (LF N n 2) (-1) (LF N n 2) (LF N n 2)) (uA au 0 g_2)) ++ ((bO cI cJ (qc 6) qB vB aB) ++ ((gW cO (qB 1) gB) ++ ((vW cI cJ (qB 0) qv vv av) ++ (lW cI cJ he qe (LVf N n) ae))))))))) (fun _ => rfl) (fun u => [.int (iI (DUE N n k m7))]) (fun _ => rfl) 1 rfl rfl rfl (fun u H locs hp103 hW => ?_)
        obtain ⟨w4_4, rfl⟩ : ∃ z, z = u := ⟨_, rfl⟩
        have hp103 : 1 ≤ RVW N n m7 → w4_4 = WNT N n k (RNT N n k (RVW N n m7 - 1).toNat) (RVW N n m7) := hp103
        have hW : zW G (tyZ cI cJ cO) A s ((dO cI cJ hc qc vc ac) ++ ((kO cI cJ (qc 3) qw (mk6 k (RVW N n m7) (RNT N n k (RVW N n m7).toNat) w4_4 (LST N n (RVW N n m7).toNat) (MST N n (RVW N n m7).toNat)) (uA aw 0 g_1)) ++ ((iW cI cJ (qc 3) qw (mk6 k (RVW N n m7) (RNT N n k (RVW N n m7).toNat) w4_4 (LST N n (RVW N n m7).toNat) (MST N n (RVW N n m7).toNat)) (uA aw 0 g_1)) ++ ((kO cI cJ (qc 4) qu (mk6 (k - 1) e2 e3 e4 e5 e6) (uA au 0 g_2)) ++ ((iW cI cJ (qc 4) qu (mk6 (k - 1) 0 (LF N n 2) (-1) (LF N n 2) (LF N n 2)) (uA au 0 g_2)) ++ ((bO cI cJ (qc 6) qB vB aB) ++ ((gW cO (qB 1) gB) ++ ((vW cI cJ (qB 0) qv vv av) ++ (lW cI cJ he qe (LVf N n) ae))))))))) H locs := hW
        refine lv_aload_n hx hb dX10_trueUp_106 rfl (lv_at hl 4 rfl) ?_
        refine z_get (v := .ref (qc 4)) hx hb hts hiX10_trueUp_X10 hown hW 0 4 5 rfl rfl rfl (by decide) rfl dX10_trueUp_107 ?_
        refine lv_aload hx hb dX10_trueUp_110 (lv_at hl 3 rfl) ?_
        refine lv_iload hx hb dX10_trueUp_112 (lv_at hl 0 rfl) ?_
        refine z_callV (As := [.ref he, .int (iI m7)]) (rest := [.int (iI (DUE N n k m7))]) F (c_X9_dueIn N n (qc 4) qu (mk6 (k - 1) e2 e3 e4 e5 e6) (uA au 0 g_2) he qe ae m7 (k - 1) e2 (show LF N n 0 ≤ m7 ∧ m7 ≤ LF N n 0 + 239 by omega) (show 0 ≤ (k - 1) ∧ (k - 1) ≤ 239 by omega) ⟨i4.1, i4.2.1⟩ ⟨rfl, rfl, i4.2.2.1, i4.2.2.2.1, i4.2.2.2.2.1, i4.2.2.2.2.2⟩ hp63 hV hL hT hTR) gX10_trueUp_X9_dueIn rfl ziX9_dueIn ⟨rfl, rfl, by decide, by decide⟩ rfl hl.1 rfl (Nat.le_of_ble_eq_true rfl) dX10_trueUp_114 ⟨Nat.zero_le _, Nat.zero_le _⟩ hW hA [3, 4, 11, 12, 13, 14, 15] rfl (by decide) (fun _ => rfl) (fun u => (dO cI cJ hc qc vc ac) ++ ((kO cI cJ (qc 3) qw (mk6 k (RVW N n m7) (RNT N n k (RVW N n m7).toNat) w4_4 (LST N n (RVW N n m7).toNat) (MST N n (RVW N n m7).toNat)) (uA aw 0 g_1)) ++ ((iW cI cJ (qc 3) qw (mk6 k (RVW N n m7) (RNT N n k (RVW N n m7).toNat) w4_4 (LST N n (RVW N n m7).toNat) (MST N n (RVW N n m7).toNat)) (uA aw 0 g_1)) ++ ((kO cI cJ (qc 4) qu (mk6 (k - 1) (RVW N n m7) (RNT N n (k - 1) (RVW N n m7).toNat) u (LST N n (RVW N n m7).toNat) (MST N n (RVW N n m7).toNat)) (uA au 0 g_2)) ++ ((iW cI cJ (qc 4) qu (mk6 (k - 1) (RVW N n m7) (RNT N n (k - 1) (RVW N n m7).toNat) u (LST N n (RVW N n m7).toNat) (MST N n (RVW N n m7).toNat)) (uA au 0 g_2)) ++ ((bO cI cJ (qc 6) qB vB aB) ++ ((gW cO (qB 1) gB) ++ ((vW cI cJ (qB 0) qv vv av) ++ (lW cI cJ he qe (LVf N n) ae))))))))) (fun _ => rfl) (fun u => [.int (iI (DUE N n (k - 1) m7)), .int (iI (DUE N n k m7))]) (fun _ => rfl) 3 rfl rfl rfl (fun u H locs hp114 hW => ?_)
        obtain ⟨w4_5, rfl⟩ : ∃ z, z = u := ⟨_, rfl⟩
        have hp114 : 1 ≤ RVW N n m7 → w4_5 = WNT N n (k - 1) (RNT N n (k - 1) (RVW N n m7 - 1).toNat) (RVW N n m7) := hp114
        have hW : zW G (tyZ cI cJ cO) A s ((dO cI cJ hc qc vc ac) ++ ((kO cI cJ (qc 3) qw (mk6 k (RVW N n m7) (RNT N n k (RVW N n m7).toNat) w4_4 (LST N n (RVW N n m7).toNat) (MST N n (RVW N n m7).toNat)) (uA aw 0 g_1)) ++ ((iW cI cJ (qc 3) qw (mk6 k (RVW N n m7) (RNT N n k (RVW N n m7).toNat) w4_4 (LST N n (RVW N n m7).toNat) (MST N n (RVW N n m7).toNat)) (uA aw 0 g_1)) ++ ((kO cI cJ (qc 4) qu (mk6 (k - 1) (RVW N n m7) (RNT N n (k - 1) (RVW N n m7).toNat) w4_5 (LST N n (RVW N n m7).toNat) (MST N n (RVW N n m7).toNat)) (uA au 0 g_2)) ++ ((iW cI cJ (qc 4) qu (mk6 (k - 1) (RVW N n m7) (RNT N n (k - 1) (RVW N n m7).toNat) w4_5 (LST N n (RVW N n m7).toNat) (MST N n (RVW N n m7).toNat)) (uA au 0 g_2)) ++ ((bO cI cJ (qc 6) qB vB aB) ++ ((gW cO (qB 1) gB) ++ ((vW cI cJ (qB 0) qv vv av) ++ (lW cI cJ he qe (LVf N n) ae))))))))) H locs := hW
        have dr1 := DUE_R (k := k) (y := m7) hL
        have dr2 := DUE_R (k := k - 1) (y := m7) hL
        refine z_isub hx hb dX10_trueUp_117 ?_
        refine lv_istore (lv' := [(8, .int (iI ((DUE N n k m7) - (DUE N n (k - 1) m7)))), (7, .int (iI m7)), (6, .int (iI s6)), (5, .int (iI (zmin k (END N n k)))), (4, .ref he), (0, .ref hc), (1, .int (iI n)), (2, .int (iI k)), (3, .int (iI z))]) hx hb dX10_trueUp_118 hl (by decide) rfl (fun ls hl => ?_)
        refine lv_iload hx hb dX10_trueUp_120 (lv_at hl 2 rfl) ?_
        refine lv_iload_n hx hb dX10_trueUp_122 rfl (lv_at hl 8 rfl) ?_
        refine z_if_eq (tgt := 140) hx hb dX10_trueUp_123 (by decide) ⟨by omega, by omega⟩ (fun c123 => ?_) (fun c123 => ?_)
        · refine lv_iload hx hb dX10_trueUp_140 (lv_at hl 0 rfl) ?_
          refine z_iadd hx hb dX10_trueUp_142 ?_
          refine lv_istore (lv' := [(6, .int (iI (s6 + ((DUE N n k m7) - (DUE N n (k - 1) m7))))), (8, .int (iI ((DUE N n k m7) - (DUE N n (k - 1) m7)))), (7, .int (iI m7)), (5, .int (iI (zmin k (END N n k)))), (4, .ref he), (0, .ref hc), (1, .int (iI n)), (2, .int (iI k)), (3, .int (iI z))]) hx hb dX10_trueUp_143 hl (by decide) rfl (fun ls hl => ?_)
          refine z_iinc (k := 2) (lv' := [(7, .int (iI (m7 + 1))), (6, .int (iI (s6 + ((DUE N n k m7) - (DUE N n (k - 1) m7))))), (8, .int (iI ((DUE N n k m7) - (DUE N n (k - 1) m7)))), (5, .int (iI (zmin k (END N n k)))), (4, .ref he), (0, .ref hc), (1, .int (iI n)), (2, .int (iI k)), (3, .int (iI z))]) hx hb dX10_trueUp_145 hl rfl (by decide) rfl (fun ls hl => ?_)
          refine lv_goto (tgt := 88) hx hb dX10_trueUp_148 (by decide) ?_
          exact ih (s6 + ((DUE N n k m7) - (DUE N n (k - 1) m7))) (m7 + 1) (RVW N n m7) (RNT N n k (RVW N n m7).toNat) w4_4 (LST N n (RVW N n m7).toNat) (MST N n (RVW N n m7).toNat) (RVW N n m7) (RNT N n (k - 1) (RVW N n m7).toNat) w4_5 (LST N n (RVW N n m7).toNat) (MST N n (RVW N n m7).toNat) _ _ _ ⟨(by omega), (by rw [SUM_succ (by omega), ← i2]; first | (rw [if_pos c123]; rfl) | (rw [if_neg c123, hv3]; rfl)), ⟨RVW_0 hL (by omega), RVW_mono hL (by omega) (by omega), rfl, rfl, rfl, hp103⟩, ⟨RVW_0 hL (by omega), RVW_mono hL (by omega) (by omega), rfl, rfl, rfl, hp114⟩, hW, (lv_sub hl [0, 1, 3, 4, 5, 6, 7, 8] rfl)⟩ (by omega)
        · refine lv_aload_n hx hb dX10_trueUp_126 rfl (lv_at hl 5 rfl) ?_
          refine lv_iload hx hb dX10_trueUp_127 (lv_at hl 0 rfl) ?_
          refine z_i2l hx hb dX10_trueUp_129 ⟨by omega, by omega⟩ ?_
          refine lv_iload_n hx hb dX10_trueUp_130 rfl (lv_at hl 7 rfl) ?_
          refine lv_iload hx hb dX10_trueUp_131 (lv_at hl 1 rfl) ?_
          refine z_isub hx hb dX10_trueUp_133 ?_
          refine z_callV (As := [.long (lI ((DUE N n k m7) - (DUE N n (k - 1) m7))), .int (iI (k - m7))]) (rest := [.int (iI s6)]) F (c_X10_interestOn  hc qc vc ac qB vB aB ((DUE N n k m7) - (DUE N n (k - 1) m7)) (k - m7)  (show -999999 ≤ ((DUE N n k m7) - (DUE N n (k - 1) m7)) ∧ ((DUE N n k m7) - (DUE N n (k - 1) m7)) ≤ 999999 by omega) (show 0 ≤ (k - m7) ∧ (k - m7) ≤ 239 by omega) (show 0 ≤ (vB 3) ∧ (vB 3) ≤ 500 by omega)) gX10_trueUp_X10_interestOn rfl ziX10_interestOn ⟨rfl, rfl, by decide, by decide⟩ rfl hl.1 rfl (Nat.le_of_ble_eq_true rfl) dX10_trueUp_134 ⟨Nat.zero_le _, Nat.zero_le _⟩ hW hA [0, 5, 6] rfl (by decide) (fun _ => rfl) (fun _ => (dO cI cJ hc qc vc ac) ++ ((kO cI cJ (qc 3) qw (mk6 k (RVW N n m7) (RNT N n k (RVW N n m7).toNat) w4_4 (LST N n (RVW N n m7).toNat) (MST N n (RVW N n m7).toNat)) (uA aw 0 g_1)) ++ ((iW cI cJ (qc 3) qw (mk6 k (RVW N n m7) (RNT N n k (RVW N n m7).toNat) w4_4 (LST N n (RVW N n m7).toNat) (MST N n (RVW N n m7).toNat)) (uA aw 0 g_1)) ++ ((kO cI cJ (qc 4) qu (mk6 (k - 1) (RVW N n m7) (RNT N n (k - 1) (RVW N n m7).toNat) w4_5 (LST N n (RVW N n m7).toNat) (MST N n (RVW N n m7).toNat)) (uA au 0 g_2)) ++ ((iW cI cJ (qc 4) qu (mk6 (k - 1) (RVW N n m7) (RNT N n (k - 1) (RVW N n m7).toNat) w4_5 (LST N n (RVW N n m7).toNat) (MST N n (RVW N n m7).toNat)) (uA au 0 g_2)) ++ ((bO cI cJ (qc 6) qB vB aB) ++ ((gW cO (qB 1) gB) ++ ((vW cI cJ (qB 0) qv vv av) ++ (lW cI cJ he qe (LVf N n) ae))))))))) (fun _ => rfl) (fun _ => [.int (iI ((((DUE N n k m7) - (DUE N n (k - 1) m7)) * (vB 3) * (k - m7)).tdiv 12000)), .int (iI s6)]) (fun _ => rfl) 0 rfl rfl rfl (fun _ H locs hp134 hW => ?_)
          refine lv_goto (tgt := 142) hx hb dX10_trueUp_137 (by decide) ?_
          refine z_iadd hx hb dX10_trueUp_142 ?_
          refine lv_istore (lv' := [(6, .int (iI (s6 + ((((DUE N n k m7) - (DUE N n (k - 1) m7)) * (vB 3) * (k - m7)).tdiv 12000)))), (8, .int (iI ((DUE N n k m7) - (DUE N n (k - 1) m7)))), (7, .int (iI m7)), (5, .int (iI (zmin k (END N n k)))), (4, .ref he), (0, .ref hc), (1, .int (iI n)), (2, .int (iI k)), (3, .int (iI z))]) hx hb dX10_trueUp_143 hl (by decide) rfl (fun ls hl => ?_)
          refine z_iinc (k := 2) (lv' := [(7, .int (iI (m7 + 1))), (6, .int (iI (s6 + ((((DUE N n k m7) - (DUE N n (k - 1) m7)) * (vB 3) * (k - m7)).tdiv 12000)))), (8, .int (iI ((DUE N n k m7) - (DUE N n (k - 1) m7)))), (5, .int (iI (zmin k (END N n k)))), (4, .ref he), (0, .ref hc), (1, .int (iI n)), (2, .int (iI k)), (3, .int (iI z))]) hx hb dX10_trueUp_145 hl rfl (by decide) rfl (fun ls hl => ?_)
          refine lv_goto (tgt := 88) hx hb dX10_trueUp_148 (by decide) ?_
          exact ih (s6 + ((((DUE N n k m7) - (DUE N n (k - 1) m7)) * (vB 3) * (k - m7)).tdiv 12000)) (m7 + 1) (RVW N n m7) (RNT N n k (RVW N n m7).toNat) w4_4 (LST N n (RVW N n m7).toNat) (MST N n (RVW N n m7).toNat) (RVW N n m7) (RNT N n (k - 1) (RVW N n m7).toNat) w4_5 (LST N n (RVW N n m7).toNat) (MST N n (RVW N n m7).toNat) _ _ _ ⟨(by omega), (by rw [SUM_succ (by omega), ← i2]; first | (rw [if_pos c123]; rfl) | (rw [if_neg c123, hv3]; rfl)), ⟨RVW_0 hL (by omega), RVW_mono hL (by omega) (by omega), rfl, rfl, rfl, hp103⟩, ⟨RVW_0 hL (by omega), RVW_mono hL (by omega) (by omega), rfl, rfl, rfl, hp114⟩, hW, (lv_sub hl [0, 1, 3, 4, 5, 6, 7, 8] rfl)⟩ (by omega)
    · refine z_ldc hx hb (-100000000) hown (hts _ (List.mem_of_getElem? (i := 2) rfl)) (by decide +kernel) dX10_trueUp_27 ?_
      exact z_iret hx hb hr hlk hW (⟨vw 1, vw 2, vw 3, vw 4, vw 5, vw 6, aw 0, vu 1, vu 2, vu 3, vu 4, vu 5, vu 6, au 0⟩) (by exact if_neg (fun q9 => by obtain ⟨q1, q2⟩ := q9; omega)) trivial rfl dX10_trueUp_29
set_option maxHeartbeats 4000000 in
set_option maxRecDepth 100000 in
theorem c_X10_trueUp0 {l : Launch} {G : va_G} {cI cJ cO : ClassId} (N : Int → Int) (hc : Nat) (qc : Nat → Nat) (vc : Nat → Int) (ac : Nat → Int → Int) (qB : Nat → Nat) (vB : Nat → Int) (aB : Nat → Int → Int) (gB : Nat → Nat) (n k z : Int)  (h1 : -2147483648 ≤ n ∧ n < 2147483648) (h2 : -2147483648 ≤ k ∧ k < 2147483648) (h3 : 0 ≤ z ∧ z ≤ 1) (cL : ¬ (0 ≤ n ∧ n < vB 4)) (hv4 : vB 4 = N 2) (hWF : WF N) : zC l yX10_trueUp wsX10_trueUp { frames := 5, cells := 0, slots := 0, locals := 118 } G (tyZ cI cJ cO) (S := Unit) [.ref hc, .int (iI n), .int (iI k), .int (iI z)] ((dO cI cJ hc qc vc ac) ++ ((bO cI cJ (qc 6) qB vB aB) ++ (gW cO (qB 1) gB))) (zI (fun _ => if (0 ≤ n ∧ n ≤ N 2 - 1) ∧ (1 ≤ k ∧ k ≤ 239) then (if z = 0 then TRUED N n k else INTED N n k) else -100000000)) (fun _ => True) (fun _ => (dO cI cJ hc qc vc ac) ++ ((bO cI cJ (qc 6) qB vB aB) ++ (gW cO (qB 1) gB))) 0 0 := by
  refine z_start (cc := cX10_trueUp) (maxL := 9) (ret := (some .int)) (by decide) rfl (Nat.le_of_ble_eq_true rfl) ?_
  intro p e s m below meth c A ls F hr hlk hnm hAe hA hW hl
  have hx := F.1
  have hb := F.2.1
  have hown : s.vm.findClass RX10 = some m.cls := F.2.2.2.1
  have hts := F.2.2.2.2
  have hl : lv_has ls 9 [(0, .ref hc), (1, .int (iI n)), (2, .int (iI k)), (3, .int (iI z))] := hl
  obtain ⟨w0, w1, w2, hV, hls⟩ := id hWF
  refine lv_aload_n hx hb dX10_trueUp_0 rfl (lv_at hl 0 rfl) ?_
  refine z_get (v := .ref (qc 6)) hx hb hts hiX10_trueUp_X10 hown hW 0 6 1 rfl rfl rfl (by decide) rfl dX10_trueUp_1 ?_
  refine lv_iload_n hx hb dX10_trueUp_4 rfl (lv_at hl 1 rfl) ?_
  refine z_callV (As := [.int (iI n)]) (rest := []) F (c_X1_leaseAt  (qc 6) qB vB aB gB n  (show -2147483648 ≤ n ∧ n < 2147483648 by omega) (show 0 ≤ (vB 4) ∧ (vB 4) ≤ 6 by omega)) gX10_trueUp_X1_leaseAt rfl ziX1_leaseAt ⟨rfl, rfl, by decide, by decide⟩ rfl hl.1 rfl (Nat.le_of_ble_eq_true rfl) dX10_trueUp_5 ⟨Nat.zero_le _, Nat.zero_le _⟩ hW hA [1, 2, 3] rfl (by decide) (fun _ => rfl) (fun _ => (dO cI cJ hc qc vc ac) ++ ((bO cI cJ (qc 6) qB vB aB) ++ (gW cO (qB 1) gB))) (fun _ => rfl) (fun _ => [va_rf (if 0 ≤ n ∧ n < (vB 4) then some (gB n.toNat) else none)]) (fun _ => rfl) 1 rfl rfl rfl (fun _ H locs hp5 hW => ?_)
  rw [if_neg cL]
  refine W.eq (g2 := F0 m 8 ls [.null]) rfl ?_
  refine lv_astoreN (lv' := [(4, .null), (0, .ref hc), (1, .int (iI n)), (2, .int (iI k)), (3, .int (iI z))]) hx hb dX10_trueUp_8 hl (by decide) rfl (fun ls hl => ?_)
  refine lv_aloadN hx hb dX10_trueUp_10 (lv_at hl 0 rfl) ?_
  refine lv_ifnullN (tgt := 27) hx hb dX10_trueUp_12 (by decide) ?_
  refine z_ldc hx hb (-100000000) hown (hts _ (List.mem_of_getElem? (i := 2) rfl)) (by decide +kernel) dX10_trueUp_27 ?_
  exact z_iret hx hb hr hlk hW () (by exact if_neg (fun q9 => by obtain ⟨q1, q2⟩ := q9; omega)) trivial rfl dX10_trueUp_29
theorem hiX10_trued_X10 : ∀ w ∈ wsX100, w ∈ wsX10_trued := fun _ h => List.mem_cons_of_mem _ (List.mem_append_left _ (List.mem_append_left _ (List.mem_append_left _ (List.mem_append_left _ (List.mem_append_left _ (List.mem_append_right _ h))))))
theorem hiX10_trued_X1 : ∀ w ∈ wsX10, w ∈ wsX10_trued := fun _ h => List.mem_cons_of_mem _ (List.mem_append_left _ (List.mem_append_left _ (List.mem_append_left _ (List.mem_append_left _ (List.mem_append_right _ h)))))
theorem hiX10_trued_X2 : ∀ w ∈ wsX20, w ∈ wsX10_trued := fun _ h => List.mem_cons_of_mem _ (List.mem_append_left _ (List.mem_append_left _ (List.mem_append_left _ (List.mem_append_right _ h))))
theorem hiX10_trued_X9 : ∀ w ∈ wsX90, w ∈ wsX10_trued := fun _ h => List.mem_cons_of_mem _ (List.mem_append_left _ (List.mem_append_left _ (List.mem_append_right _ h)))
theorem hiX10_trued_X8 : ∀ w ∈ wsX80, w ∈ wsX10_trued := fun _ h => List.mem_cons_of_mem _ (List.mem_append_left _ (List.mem_append_right _ h))
theorem hiX10_trued_X3 : ∀ w ∈ wsX30, w ∈ wsX10_trued := fun _ h => List.mem_cons_of_mem _ (List.mem_append_right _ h)
theorem ziX10_trued : yX10_trued.cls = RX10 ∧ yX10_trued.cls ≠ "java/lang/invoke/MethodHandle" ∧ yX10_trued.cls ≠ "java/lang/invoke/VarHandle" ∧ (parseMethodDescriptor yX10_trued.desc).map (fun d => d.parameters.length) = some 2 := by decide +kernel
set_option maxHeartbeats 4000000 in
set_option maxRecDepth 100000 in
theorem c_X10_trued {l : Launch} {G : va_G} {cI cJ cO : ClassId} (N : Int → Int) (hc : Nat) (qc : Nat → Nat) (vc : Nat → Int) (ac : Nat → Int → Int) (qw : Nat → Nat) (vw : Nat → Int) (aw : Nat → Int → Int) (qu : Nat → Nat) (vu : Nat → Int) (au : Nat → Int → Int) (qB : Nat → Nat) (vB : Nat → Int) (aB : Nat → Int → Int) (gB : Nat → Nat) (qv : Nat → Nat) (vv : Nat → Int) (av : Nat → Int → Int) (he : Nat) (qe : Nat → Nat) (ae : Nat → Int → Int) (n k : Int)  (h1 : -2147483648 ≤ n ∧ n < 2147483648) (h2 : -2147483648 ≤ k ∧ k < 2147483648) (hn : 0 ≤ n ∧ n < vB 4) (hg : gB n.toNat = he) (hv4 : vB 4 = N 2) (hWF : WF N) (hRV : RV N av) (hTR : TR N n ae) (hWb : WFb N n) (hv3 : vB 3 = N 1) : zC l yX10_trued wsX10_trued { frames := 6, cells := 0, slots := 0, locals := 146 } G (tyZ cI cJ cO) (S := Int × Int × Int × Int × Int × Int × (Int → Int) × Int × Int × Int × Int × Int × Int × (Int → Int)) [.ref hc, .int (iI n), .int (iI k)] ((dO cI cJ hc qc vc ac) ++ ((kO cI cJ (qc 3) qw vw aw) ++ ((iW cI cJ (qc 3) qw vw aw) ++ ((kO cI cJ (qc 4) qu vu au) ++ ((iW cI cJ (qc 4) qu vu au) ++ ((bO cI cJ (qc 6) qB vB aB) ++ ((gW cO (qB 1) gB) ++ ((vW cI cJ (qB 0) qv vv av) ++ (lW cI cJ he qe (LVf N n) ae))))))))) (zI (fun _ => A_trued N n k)) (fun u => True) (fun u => (dO cI cJ hc qc vc ac) ++ ((kO cI cJ (qc 3) qw (mk6 u.1 u.2.1 u.2.2.1 u.2.2.2.1 u.2.2.2.2.1 u.2.2.2.2.2.1) (uA aw 0 u.2.2.2.2.2.2.1)) ++ ((iW cI cJ (qc 3) qw (mk6 u.1 u.2.1 u.2.2.1 u.2.2.2.1 u.2.2.2.2.1 u.2.2.2.2.2.1) (uA aw 0 u.2.2.2.2.2.2.1)) ++ ((kO cI cJ (qc 4) qu (mk6 u.2.2.2.2.2.2.2.1 u.2.2.2.2.2.2.2.2.1 u.2.2.2.2.2.2.2.2.2.1 u.2.2.2.2.2.2.2.2.2.2.1 u.2.2.2.2.2.2.2.2.2.2.2.1 u.2.2.2.2.2.2.2.2.2.2.2.2.1) (uA au 0 u.2.2.2.2.2.2.2.2.2.2.2.2.2)) ++ ((iW cI cJ (qc 4) qu (mk6 u.2.2.2.2.2.2.2.1 u.2.2.2.2.2.2.2.2.1 u.2.2.2.2.2.2.2.2.2.1 u.2.2.2.2.2.2.2.2.2.2.1 u.2.2.2.2.2.2.2.2.2.2.2.1 u.2.2.2.2.2.2.2.2.2.2.2.2.1) (uA au 0 u.2.2.2.2.2.2.2.2.2.2.2.2.2)) ++ ((bO cI cJ (qc 6) qB vB aB) ++ ((gW cO (qB 1) gB) ++ ((vW cI cJ (qB 0) qv vv av) ++ (lW cI cJ he qe (LVf N n) ae))))))))) 0 0 := by
  refine z_start (cc := cX10_trued) (maxL := 3) (ret := (some .int)) (by decide) rfl (Nat.le_of_ble_eq_true rfl) ?_
  intro p e s m below meth c A ls F hr hlk hnm hAe hA hW hl
  have hx := F.1
  have hb := F.2.1
  have hown : s.vm.findClass RX10 = some m.cls := F.2.2.2.1
  have hts := F.2.2.2.2
  have hl : lv_has ls 3 [(0, .ref hc), (1, .int (iI n)), (2, .int (iI k))] := hl
  refine lv_aload_n hx hb dX10_trued_0 rfl (lv_at hl 0 rfl) ?_
  refine lv_iload_n hx hb dX10_trued_1 rfl (lv_at hl 1 rfl) ?_
  refine lv_iload_n hx hb dX10_trued_2 rfl (lv_at hl 2 rfl) ?_
  refine z_iconst (n := 0) hx hb dX10_trued_3 ?_
  refine z_callV (As := [.int (iI n), .int (iI k), .int (iI 0)]) (rest := []) F (c_X10_trueUp N hc qc vc ac qw vw aw qu vu au qB vB aB gB qv vv av he qe ae n k 0  (show -2147483648 ≤ n ∧ n < 2147483648 by omega) (show -2147483648 ≤ k ∧ k < 2147483648 by omega) (show 0 ≤ 0 ∧ 0 ≤ 1 by omega) hn hg hv4 hWF hRV hTR hWb hv3) gX10_trued_X10_trueUp rfl ziX10_trueUp ⟨rfl, rfl, by decide, by decide⟩ rfl hl.1 rfl (Nat.le_of_ble_eq_true rfl) dX10_trued_4 ⟨Nat.zero_le _, Nat.zero_le _⟩ hW hA [0, 1, 2, 3, 4, 5, 6, 7, 8, 9, 10, 11, 12, 13, 14, 15] rfl (by decide) (fun _ => rfl) (fun u => (dO cI cJ hc qc vc ac) ++ ((kO cI cJ (qc 3) qw (mk6 u.1 u.2.1 u.2.2.1 u.2.2.2.1 u.2.2.2.2.1 u.2.2.2.2.2.1) (uA aw 0 u.2.2.2.2.2.2.1)) ++ ((iW cI cJ (qc 3) qw (mk6 u.1 u.2.1 u.2.2.1 u.2.2.2.1 u.2.2.2.2.1 u.2.2.2.2.2.1) (uA aw 0 u.2.2.2.2.2.2.1)) ++ ((kO cI cJ (qc 4) qu (mk6 u.2.2.2.2.2.2.2.1 u.2.2.2.2.2.2.2.2.1 u.2.2.2.2.2.2.2.2.2.1 u.2.2.2.2.2.2.2.2.2.2.1 u.2.2.2.2.2.2.2.2.2.2.2.1 u.2.2.2.2.2.2.2.2.2.2.2.2.1) (uA au 0 u.2.2.2.2.2.2.2.2.2.2.2.2.2)) ++ ((iW cI cJ (qc 4) qu (mk6 u.2.2.2.2.2.2.2.1 u.2.2.2.2.2.2.2.2.1 u.2.2.2.2.2.2.2.2.2.1 u.2.2.2.2.2.2.2.2.2.2.1 u.2.2.2.2.2.2.2.2.2.2.2.1 u.2.2.2.2.2.2.2.2.2.2.2.2.1) (uA au 0 u.2.2.2.2.2.2.2.2.2.2.2.2.2)) ++ ((bO cI cJ (qc 6) qB vB aB) ++ ((gW cO (qB 1) gB) ++ ((vW cI cJ (qB 0) qv vv av) ++ (lW cI cJ he qe (LVf N n) ae))))))))) (fun _ => rfl) (fun u => [.int (iI (if (0 ≤ n ∧ n ≤ N 2 - 1) ∧ (1 ≤ k ∧ k ≤ 239) then (if 0 = 0 then TRUED N n k else INTED N n k) else -100000000))]) (fun _ => rfl) 0 rfl rfl rfl (fun u H locs hp4 hW => ?_)
  obtain ⟨w1_1, w2_2, w3_3, w4_4, w5_5, w6_6, g0_7, u1_8, u2_9, u3_10, u4_11, u5_12, u6_13, g1_14⟩ := u
  have hp4 : True := hp4
  have hW : zW G (tyZ cI cJ cO) A s ((dO cI cJ hc qc vc ac) ++ ((kO cI cJ (qc 3) qw (mk6 w1_1 w2_2 w3_3 w4_4 w5_5 w6_6) (uA aw 0 g0_7)) ++ ((iW cI cJ (qc 3) qw (mk6 w1_1 w2_2 w3_3 w4_4 w5_5 w6_6) (uA aw 0 g0_7)) ++ ((kO cI cJ (qc 4) qu (mk6 u1_8 u2_9 u3_10 u4_11 u5_12 u6_13) (uA au 0 g1_14)) ++ ((iW cI cJ (qc 4) qu (mk6 u1_8 u2_9 u3_10 u4_11 u5_12 u6_13) (uA au 0 g1_14)) ++ ((bO cI cJ (qc 6) qB vB aB) ++ ((gW cO (qB 1) gB) ++ ((vW cI cJ (qB 0) qv vv av) ++ (lW cI cJ he qe (LVf N n) ae))))))))) H locs := hW
  exact z_iret hx hb hr hlk hW (⟨w1_1, w2_2, w3_3, w4_4, w5_5, w6_6, g0_7, u1_8, u2_9, u3_10, u4_11, u5_12, u6_13, g1_14⟩) rfl trivial rfl dX10_trued_7
set_option maxHeartbeats 4000000 in
set_option maxRecDepth 100000 in
theorem c_X10_trued0 {l : Launch} {G : va_G} {cI cJ cO : ClassId} (N : Int → Int) (hc : Nat) (qc : Nat → Nat) (vc : Nat → Int) (ac : Nat → Int → Int) (qB : Nat → Nat) (vB : Nat → Int) (aB : Nat → Int → Int) (gB : Nat → Nat) (n k : Int)  (h1 : -2147483648 ≤ n ∧ n < 2147483648) (h2 : -2147483648 ≤ k ∧ k < 2147483648) (cL : ¬ (0 ≤ n ∧ n < vB 4)) (hv4 : vB 4 = N 2) (hWF : WF N) : zC l yX10_trued wsX10_trued { frames := 6, cells := 0, slots := 0, locals := 146 } G (tyZ cI cJ cO) (S := Unit) [.ref hc, .int (iI n), .int (iI k)] ((dO cI cJ hc qc vc ac) ++ ((bO cI cJ (qc 6) qB vB aB) ++ (gW cO (qB 1) gB))) (zI (fun _ => A_trued N n k)) (fun _ => True) (fun _ => (dO cI cJ hc qc vc ac) ++ ((bO cI cJ (qc 6) qB vB aB) ++ (gW cO (qB 1) gB))) 0 0 := by
  refine z_start (cc := cX10_trued) (maxL := 3) (ret := (some .int)) (by decide) rfl (Nat.le_of_ble_eq_true rfl) ?_
  intro p e s m below meth c A ls F hr hlk hnm hAe hA hW hl
  have hx := F.1
  have hb := F.2.1
  have hown : s.vm.findClass RX10 = some m.cls := F.2.2.2.1
  have hts := F.2.2.2.2
  have hl : lv_has ls 3 [(0, .ref hc), (1, .int (iI n)), (2, .int (iI k))] := hl
  refine lv_aload_n hx hb dX10_trued_0 rfl (lv_at hl 0 rfl) ?_
  refine lv_iload_n hx hb dX10_trued_1 rfl (lv_at hl 1 rfl) ?_
  refine lv_iload_n hx hb dX10_trued_2 rfl (lv_at hl 2 rfl) ?_
  refine z_iconst (n := 0) hx hb dX10_trued_3 ?_
  refine z_callV (As := [.int (iI n), .int (iI k), .int (iI 0)]) (rest := []) F (c_X10_trueUp0 N hc qc vc ac qB vB aB gB n k 0  (show -2147483648 ≤ n ∧ n < 2147483648 by omega) (show -2147483648 ≤ k ∧ k < 2147483648 by omega) (show 0 ≤ 0 ∧ 0 ≤ 1 by omega) cL hv4 hWF) gX10_trued_X10_trueUp rfl ziX10_trueUp ⟨rfl, rfl, by decide, by decide⟩ rfl hl.1 rfl (Nat.le_of_ble_eq_true rfl) dX10_trued_4 ⟨Nat.zero_le _, Nat.zero_le _⟩ hW hA [0, 1, 2, 3] rfl (by decide) (fun _ => rfl) (fun _ => (dO cI cJ hc qc vc ac) ++ ((bO cI cJ (qc 6) qB vB aB) ++ (gW cO (qB 1) gB))) (fun _ => rfl) (fun _ => [.int (iI (if (0 ≤ n ∧ n ≤ N 2 - 1) ∧ (1 ≤ k ∧ k ≤ 239) then (if 0 = 0 then TRUED N n k else INTED N n k) else -100000000))]) (fun _ => rfl) 0 rfl rfl rfl (fun _ H locs hp4 hW => ?_)
  exact z_iret hx hb hr hlk hW () rfl trivial rfl dX10_trued_7
theorem hiX10_interest_X10 : ∀ w ∈ wsX100, w ∈ wsX10_interest := fun _ h => List.mem_cons_of_mem _ (List.mem_append_left _ (List.mem_append_left _ (List.mem_append_left _ (List.mem_append_left _ (List.mem_append_left _ (List.mem_append_right _ h))))))
theorem hiX10_interest_X1 : ∀ w ∈ wsX10, w ∈ wsX10_interest := fun _ h => List.mem_cons_of_mem _ (List.mem_append_left _ (List.mem_append_left _ (List.mem_append_left _ (List.mem_append_left _ (List.mem_append_right _ h)))))
theorem hiX10_interest_X2 : ∀ w ∈ wsX20, w ∈ wsX10_interest := fun _ h => List.mem_cons_of_mem _ (List.mem_append_left _ (List.mem_append_left _ (List.mem_append_left _ (List.mem_append_right _ h))))
theorem hiX10_interest_X9 : ∀ w ∈ wsX90, w ∈ wsX10_interest := fun _ h => List.mem_cons_of_mem _ (List.mem_append_left _ (List.mem_append_left _ (List.mem_append_right _ h)))
theorem hiX10_interest_X8 : ∀ w ∈ wsX80, w ∈ wsX10_interest := fun _ h => List.mem_cons_of_mem _ (List.mem_append_left _ (List.mem_append_right _ h))
theorem hiX10_interest_X3 : ∀ w ∈ wsX30, w ∈ wsX10_interest := fun _ h => List.mem_cons_of_mem _ (List.mem_append_right _ h)
theorem ziX10_interest : yX10_interest.cls = RX10 ∧ yX10_interest.cls ≠ "java/lang/invoke/MethodHandle" ∧ yX10_interest.cls ≠ "java/lang/invoke/VarHandle" ∧ (parseMethodDescriptor yX10_interest.desc).map (fun d => d.parameters.length) = some 2 := by decide +kernel
set_option maxHeartbeats 4000000 in
set_option maxRecDepth 100000 in
theorem c_X10_interest {l : Launch} {G : va_G} {cI cJ cO : ClassId} (N : Int → Int) (hc : Nat) (qc : Nat → Nat) (vc : Nat → Int) (ac : Nat → Int → Int) (qw : Nat → Nat) (vw : Nat → Int) (aw : Nat → Int → Int) (qu : Nat → Nat) (vu : Nat → Int) (au : Nat → Int → Int) (qB : Nat → Nat) (vB : Nat → Int) (aB : Nat → Int → Int) (gB : Nat → Nat) (qv : Nat → Nat) (vv : Nat → Int) (av : Nat → Int → Int) (he : Nat) (qe : Nat → Nat) (ae : Nat → Int → Int) (n k : Int)  (h1 : -2147483648 ≤ n ∧ n < 2147483648) (h2 : -2147483648 ≤ k ∧ k < 2147483648) (hn : 0 ≤ n ∧ n < vB 4) (hg : gB n.toNat = he) (hv4 : vB 4 = N 2) (hWF : WF N) (hRV : RV N av) (hTR : TR N n ae) (hWb : WFb N n) (hv3 : vB 3 = N 1) : zC l yX10_interest wsX10_interest { frames := 6, cells := 0, slots := 0, locals := 146 } G (tyZ cI cJ cO) (S := Int × Int × Int × Int × Int × Int × (Int → Int) × Int × Int × Int × Int × Int × Int × (Int → Int)) [.ref hc, .int (iI n), .int (iI k)] ((dO cI cJ hc qc vc ac) ++ ((kO cI cJ (qc 3) qw vw aw) ++ ((iW cI cJ (qc 3) qw vw aw) ++ ((kO cI cJ (qc 4) qu vu au) ++ ((iW cI cJ (qc 4) qu vu au) ++ ((bO cI cJ (qc 6) qB vB aB) ++ ((gW cO (qB 1) gB) ++ ((vW cI cJ (qB 0) qv vv av) ++ (lW cI cJ he qe (LVf N n) ae))))))))) (zI (fun _ => A_inted N n k)) (fun u => True) (fun u => (dO cI cJ hc qc vc ac) ++ ((kO cI cJ (qc 3) qw (mk6 u.1 u.2.1 u.2.2.1 u.2.2.2.1 u.2.2.2.2.1 u.2.2.2.2.2.1) (uA aw 0 u.2.2.2.2.2.2.1)) ++ ((iW cI cJ (qc 3) qw (mk6 u.1 u.2.1 u.2.2.1 u.2.2.2.1 u.2.2.2.2.1 u.2.2.2.2.2.1) (uA aw 0 u.2.2.2.2.2.2.1)) ++ ((kO cI cJ (qc 4) qu (mk6 u.2.2.2.2.2.2.2.1 u.2.2.2.2.2.2.2.2.1 u.2.2.2.2.2.2.2.2.2.1 u.2.2.2.2.2.2.2.2.2.2.1 u.2.2.2.2.2.2.2.2.2.2.2.1 u.2.2.2.2.2.2.2.2.2.2.2.2.1) (uA au 0 u.2.2.2.2.2.2.2.2.2.2.2.2.2)) ++ ((iW cI cJ (qc 4) qu (mk6 u.2.2.2.2.2.2.2.1 u.2.2.2.2.2.2.2.2.1 u.2.2.2.2.2.2.2.2.2.1 u.2.2.2.2.2.2.2.2.2.2.1 u.2.2.2.2.2.2.2.2.2.2.2.1 u.2.2.2.2.2.2.2.2.2.2.2.2.1) (uA au 0 u.2.2.2.2.2.2.2.2.2.2.2.2.2)) ++ ((bO cI cJ (qc 6) qB vB aB) ++ ((gW cO (qB 1) gB) ++ ((vW cI cJ (qB 0) qv vv av) ++ (lW cI cJ he qe (LVf N n) ae))))))))) 0 0 := by
  refine z_start (cc := cX10_interest) (maxL := 3) (ret := (some .int)) (by decide) rfl (Nat.le_of_ble_eq_true rfl) ?_
  intro p e s m below meth c A ls F hr hlk hnm hAe hA hW hl
  have hx := F.1
  have hb := F.2.1
  have hown : s.vm.findClass RX10 = some m.cls := F.2.2.2.1
  have hts := F.2.2.2.2
  have hl : lv_has ls 3 [(0, .ref hc), (1, .int (iI n)), (2, .int (iI k))] := hl
  refine lv_aload_n hx hb dX10_interest_0 rfl (lv_at hl 0 rfl) ?_
  refine lv_iload_n hx hb dX10_interest_1 rfl (lv_at hl 1 rfl) ?_
  refine lv_iload_n hx hb dX10_interest_2 rfl (lv_at hl 2 rfl) ?_
  refine z_iconst (n := 1) hx hb dX10_interest_3 ?_
  refine z_callV (As := [.int (iI n), .int (iI k), .int (iI 1)]) (rest := []) F (c_X10_trueUp N hc qc vc ac qw vw aw qu vu au qB vB aB gB qv vv av he qe ae n k 1  (show -2147483648 ≤ n ∧ n < 2147483648 by omega) (show -2147483648 ≤ k ∧ k < 2147483648 by omega) (show 0 ≤ 1 ∧ 1 ≤ 1 by omega) hn hg hv4 hWF hRV hTR hWb hv3) gX10_interest_X10_trueUp rfl ziX10_trueUp ⟨rfl, rfl, by decide, by decide⟩ rfl hl.1 rfl (Nat.le_of_ble_eq_true rfl) dX10_interest_4 ⟨Nat.zero_le _, Nat.zero_le _⟩ hW hA [0, 1, 2, 3, 4, 5, 6, 7, 8, 9, 10, 11, 12, 13, 14, 15] rfl (by decide) (fun _ => rfl) (fun u => (dO cI cJ hc qc vc ac) ++ ((kO cI cJ (qc 3) qw (mk6 u.1 u.2.1 u.2.2.1 u.2.2.2.1 u.2.2.2.2.1 u.2.2.2.2.2.1) (uA aw 0 u.2.2.2.2.2.2.1)) ++ ((iW cI cJ (qc 3) qw (mk6 u.1 u.2.1 u.2.2.1 u.2.2.2.1 u.2.2.2.2.1 u.2.2.2.2.2.1) (uA aw 0 u.2.2.2.2.2.2.1)) ++ ((kO cI cJ (qc 4) qu (mk6 u.2.2.2.2.2.2.2.1 u.2.2.2.2.2.2.2.2.1 u.2.2.2.2.2.2.2.2.2.1 u.2.2.2.2.2.2.2.2.2.2.1 u.2.2.2.2.2.2.2.2.2.2.2.1 u.2.2.2.2.2.2.2.2.2.2.2.2.1) (uA au 0 u.2.2.2.2.2.2.2.2.2.2.2.2.2)) ++ ((iW cI cJ (qc 4) qu (mk6 u.2.2.2.2.2.2.2.1 u.2.2.2.2.2.2.2.2.1 u.2.2.2.2.2.2.2.2.2.1 u.2.2.2.2.2.2.2.2.2.2.1 u.2.2.2.2.2.2.2.2.2.2.2.1 u.2.2.2.2.2.2.2.2.2.2.2.2.1) (uA au 0 u.2.2.2.2.2.2.2.2.2.2.2.2.2)) ++ ((bO cI cJ (qc 6) qB vB aB) ++ ((gW cO (qB 1) gB) ++ ((vW cI cJ (qB 0) qv vv av) ++ (lW cI cJ he qe (LVf N n) ae))))))))) (fun _ => rfl) (fun u => [.int (iI (if (0 ≤ n ∧ n ≤ N 2 - 1) ∧ (1 ≤ k ∧ k ≤ 239) then (if 1 = 0 then TRUED N n k else INTED N n k) else -100000000))]) (fun _ => rfl) 0 rfl rfl rfl (fun u H locs hp4 hW => ?_)
  obtain ⟨w1_1, w2_2, w3_3, w4_4, w5_5, w6_6, g0_7, u1_8, u2_9, u3_10, u4_11, u5_12, u6_13, g1_14⟩ := u
  have hp4 : True := hp4
  have hW : zW G (tyZ cI cJ cO) A s ((dO cI cJ hc qc vc ac) ++ ((kO cI cJ (qc 3) qw (mk6 w1_1 w2_2 w3_3 w4_4 w5_5 w6_6) (uA aw 0 g0_7)) ++ ((iW cI cJ (qc 3) qw (mk6 w1_1 w2_2 w3_3 w4_4 w5_5 w6_6) (uA aw 0 g0_7)) ++ ((kO cI cJ (qc 4) qu (mk6 u1_8 u2_9 u3_10 u4_11 u5_12 u6_13) (uA au 0 g1_14)) ++ ((iW cI cJ (qc 4) qu (mk6 u1_8 u2_9 u3_10 u4_11 u5_12 u6_13) (uA au 0 g1_14)) ++ ((bO cI cJ (qc 6) qB vB aB) ++ ((gW cO (qB 1) gB) ++ ((vW cI cJ (qB 0) qv vv av) ++ (lW cI cJ he qe (LVf N n) ae))))))))) H locs := hW
  exact z_iret hx hb hr hlk hW (⟨w1_1, w2_2, w3_3, w4_4, w5_5, w6_6, g0_7, u1_8, u2_9, u3_10, u4_11, u5_12, u6_13, g1_14⟩) rfl trivial rfl dX10_interest_7
set_option maxHeartbeats 4000000 in
set_option maxRecDepth 100000 in
theorem c_X10_interest0 {l : Launch} {G : va_G} {cI cJ cO : ClassId} (N : Int → Int) (hc : Nat) (qc : Nat → Nat) (vc : Nat → Int) (ac : Nat → Int → Int) (qB : Nat → Nat) (vB : Nat → Int) (aB : Nat → Int → Int) (gB : Nat → Nat) (n k : Int)  (h1 : -2147483648 ≤ n ∧ n < 2147483648) (h2 : -2147483648 ≤ k ∧ k < 2147483648) (cL : ¬ (0 ≤ n ∧ n < vB 4)) (hv4 : vB 4 = N 2) (hWF : WF N) : zC l yX10_interest wsX10_interest { frames := 6, cells := 0, slots := 0, locals := 146 } G (tyZ cI cJ cO) (S := Unit) [.ref hc, .int (iI n), .int (iI k)] ((dO cI cJ hc qc vc ac) ++ ((bO cI cJ (qc 6) qB vB aB) ++ (gW cO (qB 1) gB))) (zI (fun _ => A_inted N n k)) (fun _ => True) (fun _ => (dO cI cJ hc qc vc ac) ++ ((bO cI cJ (qc 6) qB vB aB) ++ (gW cO (qB 1) gB))) 0 0 := by
  refine z_start (cc := cX10_interest) (maxL := 3) (ret := (some .int)) (by decide) rfl (Nat.le_of_ble_eq_true rfl) ?_
  intro p e s m below meth c A ls F hr hlk hnm hAe hA hW hl
  have hx := F.1
  have hb := F.2.1
  have hown : s.vm.findClass RX10 = some m.cls := F.2.2.2.1
  have hts := F.2.2.2.2
  have hl : lv_has ls 3 [(0, .ref hc), (1, .int (iI n)), (2, .int (iI k))] := hl
  refine lv_aload_n hx hb dX10_interest_0 rfl (lv_at hl 0 rfl) ?_
  refine lv_iload_n hx hb dX10_interest_1 rfl (lv_at hl 1 rfl) ?_
  refine lv_iload_n hx hb dX10_interest_2 rfl (lv_at hl 2 rfl) ?_
  refine z_iconst (n := 1) hx hb dX10_interest_3 ?_
  refine z_callV (As := [.int (iI n), .int (iI k), .int (iI 1)]) (rest := []) F (c_X10_trueUp0 N hc qc vc ac qB vB aB gB n k 1  (show -2147483648 ≤ n ∧ n < 2147483648 by omega) (show -2147483648 ≤ k ∧ k < 2147483648 by omega) (show 0 ≤ 1 ∧ 1 ≤ 1 by omega) cL hv4 hWF) gX10_interest_X10_trueUp rfl ziX10_trueUp ⟨rfl, rfl, by decide, by decide⟩ rfl hl.1 rfl (Nat.le_of_ble_eq_true rfl) dX10_interest_4 ⟨Nat.zero_le _, Nat.zero_le _⟩ hW hA [0, 1, 2, 3] rfl (by decide) (fun _ => rfl) (fun _ => (dO cI cJ hc qc vc ac) ++ ((bO cI cJ (qc 6) qB vB aB) ++ (gW cO (qB 1) gB))) (fun _ => rfl) (fun _ => [.int (iI (if (0 ≤ n ∧ n ≤ N 2 - 1) ∧ (1 ≤ k ∧ k ≤ 239) then (if 1 = 0 then TRUED N n k else INTED N n k) else -100000000))]) (fun _ => rfl) 0 rfl rfl rfl (fun _ H locs hp4 hW => ?_)
  exact z_iret hx hb hr hlk hW () rfl trivial rfl dX10_interest_7
