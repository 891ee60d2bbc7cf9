/-! the class: what is asked -/
def dO (cI cJ : ClassId) (h : Nat) (q : Nat → Nat) (v : Nat → Int) (a : Nat → Int → Int) : va_W := [(h, .inr (10, [.ref (q 0), .ref (q 1), .ref (q 2), .ref (q 3), .ref (q 4), .ref (q 5), .ref (q 6), .ref (q 7), .int (iI (v 8)), .int (iI (v 9))]))]
/-- every lease's rows, in the class -/
def TRS (N : Int → Int) (aE : Nat → Nat → Int → Int) : Prop := ∀ i : Nat, (i : Int) < N 2 → TR N i (aE i) ∧ WFb N i
theorem ziX10_isMonth : yX10_isMonth.cls = RX10 ∧ yX10_isMonth.cls ≠ "java/lang/invoke/MethodHandle" ∧ yX10_isMonth.cls ≠ "java/lang/invoke/VarHandle" ∧ (parseMethodDescriptor yX10_isMonth.desc).map (fun d => d.parameters.length) = some 1 := by decide +kernel
set_option maxHeartbeats 4000000 in
set_option maxRecDepth 100000 in
theorem c_X10_isMonth {l : Launch} {G : va_G} {cI cJ cO : ClassId}   (w : Int)  (h1 : -2147483648 ≤ w ∧ w < 2147483648) : zC l yX10_isMonth wsX10_isMonth { frames := 0, cells := 0, slots := 0, locals := 0 } G (tyZ cI cJ cO) (S := Unit) [.int (iI w)] ([]) (zI (fun _ => bI (0 ≤ w ∧ w < 240))) (fun _ => True) (fun _ => []) 0 0 := by
  refine z_start (cc := cX10_isMonth) (maxL := 1) (ret := (some .boolean)) (by decide) rfl (Nat.le_of_ble_eq_true rfl) ?_
  intro p e s m below meth c A ls F hr hlk hnm hAe hA hW hl
  have hx := F.1
  have hb := F.2.1
  have hown : s.vm.findClass RX10 = some m.cls := F.2.2.2.1
  have hts := F.2.2.2.2
  have hl : lv_has ls 1 [(0, .int (iI w))] := hl
  refine lv_iload_n hx hb dX10_isMonth_0 rfl (lv_at hl 0 rfl) ?_
  refine z_if_lt (tgt := 15) hx hb dX10_isMonth_1 (by decide) ⟨by omega, by omega⟩ (fun c1 => ?_) (fun c1 => ?_)
  · refine z_iconst (n := 0) hx hb dX10_isMonth_15 ?_
    exact z_zret hx hb hr hlk (by first | exact Or.inl rfl | exact Or.inr rfl | omega) hW () (by first | exact bI_t (by omega) | exact bI_f (by omega)) trivial rfl dX10_isMonth_16
  · refine lv_iload_n hx hb dX10_isMonth_4 rfl (lv_at hl 0 rfl) ?_
    refine z_sipush hx hb dX10_isMonth_5 (by decide +kernel) ?_
    refine z_icmp_ge (tgt := 15) hx hb dX10_isMonth_8 (by decide) ⟨by omega, by omega⟩ (by decide) (fun c8 => ?_) (fun c8 => ?_)
    · refine z_iconst (n := 0) hx hb dX10_isMonth_15 ?_
      exact z_zret hx hb hr hlk (by first | exact Or.inl rfl | exact Or.inr rfl | omega) hW () (by first | exact bI_t (by omega) | exact bI_f (by omega)) trivial rfl dX10_isMonth_16
    · refine z_iconst (n := 1) hx hb dX10_isMonth_11 ?_
      refine lv_goto (tgt := 16) hx hb dX10_isMonth_12 (by decide) ?_
      exact z_zret hx hb hr hlk (by first | exact Or.inl rfl | exact Or.inr rfl | omega) hW () (by first | exact bI_t (by omega) | exact bI_f (by omega)) trivial rfl dX10_isMonth_16
theorem hiX10_fault_X10 : ∀ w ∈ wsX100, w ∈ wsX10_fault := fun _ h => List.mem_cons_of_mem _ (List.mem_append_right _ h)
theorem ziX10_fault : yX10_fault.cls = RX10 ∧ yX10_fault.cls ≠ "java/lang/invoke/MethodHandle" ∧ yX10_fault.cls ≠ "java/lang/invoke/VarHandle" ∧ (parseMethodDescriptor yX10_fault.desc).map (fun d => d.parameters.length) = some 0 := by decide +kernel
set_option maxHeartbeats 4000000 in
set_option maxRecDepth 100000 in
theorem c_X10_fault {l : Launch} {G : va_G} {cI cJ cO : ClassId}  (hc : Nat) (qc : Nat → Nat) (vc : Nat → Int) (ac : Nat → Int → Int)    : zC l yX10_fault wsX10_fault { frames := 0, cells := 0, slots := 0, locals := 0 } G (tyZ cI cJ cO) (S := Unit) [.ref hc] (dO cI cJ hc qc vc ac) (zI (fun _ => vc 9)) (fun _ => True) (fun _ => dO cI cJ hc qc vc ac) 0 0 := by
  refine z_start (cc := cX10_fault) (maxL := 1) (ret := (some .int)) (by decide) rfl (Nat.le_of_ble_eq_true rfl) ?_
  intro p e s m below meth c A ls F hr hlk hnm hAe hA hW hl
  have hx := F.1
  have hb := F.2.1
  have hown : s.vm.findClass RX10 = some m.cls := F.2.2.2.1
  have hts := F.2.2.2.2
  have hl : lv_has ls 1 [(0, .ref hc)] := hl
  refine lv_aload_n hx hb dX10_fault_0 rfl (lv_at hl 0 rfl) ?_
  refine z_get (v := .int (iI (vc 9))) hx hb hts hiX10_fault_X10 hown hW 0 9 1 rfl rfl rfl (by decide) rfl dX10_fault_1 ?_
  exact z_iret hx hb hr hlk hW () (by first | rfl | omega) trivial rfl dX10_fault_4
theorem hiX10_rentKnownIn_X10 : ∀ w ∈ wsX100, w ∈ wsX10_rentKnownIn := fun _ h => List.mem_cons_of_mem _ (List.mem_append_left _ (List.mem_append_left _ (List.mem_append_left _ (List.mem_append_left _ (List.mem_append_left _ (List.mem_append_right _ h))))))
theorem hiX10_rentKnownIn_X1 : ∀ w ∈ wsX10, w ∈ wsX10_rentKnownIn := fun _ h => List.mem_cons_of_mem _ (List.mem_append_left _ (List.mem_append_left _ (List.mem_append_left _ (List.mem_append_left _ (List.mem_append_right _ h)))))
theorem hiX10_rentKnownIn_X9 : ∀ w ∈ wsX90, w ∈ wsX10_rentKnownIn := fun _ h => List.mem_cons_of_mem _ (List.mem_append_left _ (List.mem_append_left _ (List.mem_append_left _ (List.mem_append_right _ h))))
theorem hiX10_rentKnownIn_X2 : ∀ w ∈ wsX20, w ∈ wsX10_rentKnownIn := fun _ h => List.mem_cons_of_mem _ (List.mem_append_left _ (List.mem_append_left _ (List.mem_append_right _ h)))
theorem hiX10_rentKnownIn_X8 : ∀ w ∈ wsX80, w ∈ wsX10_rentKnownIn := fun _ h => List.mem_cons_of_mem _ (List.mem_append_left _ (List.mem_append_right _ h))
theorem hiX10_rentKnownIn_X3 : ∀ w ∈ wsX30, w ∈ wsX10_rentKnownIn := fun _ h => List.mem_cons_of_mem _ (List.mem_append_right _ h)
theorem ziX10_rentKnownIn : yX10_rentKnownIn.cls = RX10 ∧ yX10_rentKnownIn.cls ≠ "java/lang/invoke/MethodHandle" ∧ yX10_rentKnownIn.cls ≠ "java/lang/invoke/VarHandle" ∧ (parseMethodDescriptor yX10_rentKnownIn.desc).map (fun d => d.parameters.length) = some 3 := by decide +kernel
set_option maxHeartbeats 4000000 in
set_option maxRecDepth 100000 in
theorem c_X10_rentKnownIn {l : Launch} {G : va_G} {cI cJ cO : ClassId} (N : Int → Int) (x : Int) (hc : Nat) (qc : Nat → Nat) (vc : Nat → Int) (ac : Nat → Int → Int) (qw : Nat → Nat) (vw : Nat → Int) (aw : Nat → Int → Int) (qB : Nat → Nat) (vB : Nat → Int) (aB : Nat → Int → Int) (qv : Nat → Nat) (vv : Nat → Int) (av : Nat → Int → Int) (he : Nat) (qe : Nat → Nat) (ae : Nat → Int → Int) (y k : Int)  (h1 : LF N x 0 ≤ y ∧ y < LF N x 0 + LF N x 1) (h2 : 0 ≤ k ∧ k ≤ 239) (hRV : RV N av) (hV : WFv N) (hL : WFl N x) (hT : WFt N x) (hTR : TR N x ae) : zC l yX10_rentKnownIn wsX10_rentKnownIn { frames := 4, cells := 0, slots := 0, locals := 96 } G (tyZ cI cJ cO) (S := Int × Int × Int × Int × Int × Int × (Int → Int)) [.ref hc, .ref he, .int (iI y), .int (iI k)] ((dO cI cJ hc qc vc ac) ++ ((kO cI cJ (qc 3) qw vw aw) ++ ((iW cI cJ (qc 3) qw vw aw) ++ ((bO cI cJ (qc 6) qB vB aB) ++ ((vW cI cJ (qB 0) qv vv av) ++ (lW cI cJ he qe (LVf N x) ae)))))) (zI (fun _ => RNTm N x k y)) (fun u => True) (fun u => (dO cI cJ hc qc vc ac) ++ ((kO cI cJ (qc 3) qw (mk6 u.1 u.2.1 u.2.2.1 u.2.2.2.1 u.2.2.2.2.1 u.2.2.2.2.2.1) (uA aw 0 u.2.2.2.2.2.2)) ++ ((iW cI cJ (qc 3) qw (mk6 u.1 u.2.1 u.2.2.1 u.2.2.2.1 u.2.2.2.2.1 u.2.2.2.2.2.1) (uA aw 0 u.2.2.2.2.2.2)) ++ ((bO cI cJ (qc 6) qB vB aB) ++ ((vW cI cJ (qB 0) qv vv av) ++ (lW cI cJ he qe (LVf N x) ae)))))) 0 0 := by
  refine z_start (cc := cX10_rentKnownIn) (maxL := 4) (ret := (some .int)) (by decide) rfl (Nat.le_of_ble_eq_true rfl) ?_
  intro p e s m below meth c A ls F hr hlk hnm hAe hA hW hl
  have hx := F.1
  have hb := F.2.1
  have hown : s.vm.findClass RX10 = some m.cls := F.2.2.2.1
  have hts := F.2.2.2.2
  have hl : lv_has ls 4 [(0, .ref hc), (1, .ref he), (2, .int (iI y)), (3, .int (iI k))] := hl
  obtain ⟨l0, l1, l2, l3, l4, l5, l6, l7, l8, l9, l10, l11, l12, l13, l14, l15⟩ := id hL
  refine lv_aload_n hx hb dX10_rentKnownIn_0 rfl (lv_at hl 0 rfl) ?_
  refine z_get (v := .ref (qc 3)) hx hb hts hiX10_rentKnownIn_X10 hown hW 0 3 1 rfl rfl rfl (by decide) rfl dX10_rentKnownIn_1 ?_
  refine lv_aload_n hx hb dX10_rentKnownIn_4 rfl (lv_at hl 1 rfl) ?_
  refine lv_aload_n hx hb dX10_rentKnownIn_5 rfl (lv_at hl 0 rfl) ?_
  refine z_get (v := .ref (qc 6)) hx hb hts hiX10_rentKnownIn_X10 hown hW 0 6 2 rfl rfl rfl (by decide) rfl dX10_rentKnownIn_6 ?_
  refine z_get (v := .ref (qB 0)) hx hb hts hiX10_rentKnownIn_X1 hown hW 3 0 3 rfl rfl rfl (by decide) rfl dX10_rentKnownIn_9 ?_
  refine lv_iload_n hx hb dX10_rentKnownIn_12 rfl (lv_at hl 3 rfl) ?_
  refine z_callV (As := [.ref he, .ref (qB 0), .int (iI k)]) (rest := []) F (c_X9_begin N x (qc 3) qw vw aw he qe ae (qB 0) qv vv av k  (show -2147483648 ≤ k ∧ k < 2147483648 by omega) hV hL hRV) gX10_rentKnownIn_X9_begin rfl ziX9_begin ⟨rfl, rfl, by decide, by decide⟩ rfl hl.1 rfl (Nat.le_of_ble_eq_true rfl) dX10_rentKnownIn_13 ⟨Nat.zero_le _, Nat.zero_le _⟩ hW hA [1, 2, 8, 9, 10, 11, 12, 5, 6, 7] rfl (by decide) (fun _ => rfl) (fun u => (dO cI cJ hc qc vc ac) ++ ((kO cI cJ (qc 3) qw (mk6 k 0 (LF N x 2) (-1) (LF N x 2) (LF N x 2)) (uA aw 0 u)) ++ ((iW cI cJ (qc 3) qw (mk6 k 0 (LF N x 2) (-1) (LF N x 2) (LF N x 2)) (uA aw 0 u)) ++ ((bO cI cJ (qc 6) qB vB aB) ++ ((vW cI cJ (qB 0) qv vv av) ++ (lW cI cJ he qe (LVf N x) ae)))))) (fun _ => rfl) (fun u => []) (fun _ => rfl) 1 rfl rfl rfl (fun u H locs hp13 hW => ?_)
  obtain ⟨g_1, rfl⟩ : ∃ z, z = u := ⟨_, rfl⟩
  have hp13 : rowI N x k g_1 := hp13
  have hW : zW G (tyZ cI cJ cO) A s ((dO cI cJ hc qc vc ac) ++ ((kO cI cJ (qc 3) qw (mk6 k 0 (LF N x 2) (-1) (LF N x 2) (LF N x 2)) (uA aw 0 g_1)) ++ ((iW cI cJ (qc 3) qw (mk6 k 0 (LF N x 2) (-1) (LF N x 2) (LF N x 2)) (uA aw 0 g_1)) ++ ((bO cI cJ (qc 6) qB vB aB) ++ ((vW cI cJ (qB 0) qv vv av) ++ (lW cI cJ he qe (LVf N x) ae)))))) H locs := hW
  refine lv_aload_n hx hb dX10_rentKnownIn_16 rfl (lv_at hl 0 rfl) ?_
  refine z_get (v := .ref (qc 3)) hx hb hts hiX10_rentKnownIn_X10 hown hW 0 3 1 rfl rfl rfl (by decide) rfl dX10_rentKnownIn_17 ?_
  refine lv_aload_n hx hb dX10_rentKnownIn_20 rfl (lv_at hl 1 rfl) ?_
  refine lv_iload_n hx hb dX10_rentKnownIn_21 rfl (lv_at hl 2 rfl) ?_
  refine z_callV (As := [.ref he, .int (iI y)]) (rest := []) F (c_X9_goTo N x (qc 3) qw (mk6 k 0 (LF N x 2) (-1) (LF N x 2) (LF N x 2)) (uA aw 0 g_1) he qe ae y k 0 (show LF N x 0 ≤ y ∧ y ≤ LF N x 0 + 239 by omega) (show 0 ≤ k ∧ k ≤ 239 by omega) ⟨Int.le_refl 0, RVW_0 hL (by omega)⟩ ⟨rfl, rfl, rfl, rfl, rfl, fun q9 => by omega⟩ hp13 hV hL hT hTR) gX10_rentKnownIn_X9_goTo rfl ziX9_goTo ⟨rfl, rfl, by decide, by decide⟩ rfl hl.1 rfl (Nat.le_of_ble_eq_true rfl) dX10_rentKnownIn_22 ⟨Nat.zero_le _, Nat.zero_le _⟩ hW hA [1, 2, 8, 9, 10, 11, 12] rfl (by decide) (fun _ => rfl) (fun u => (dO cI cJ hc qc vc ac) ++ ((kO cI cJ (qc 3) qw (mk6 k (RVW N x y) (RNT N x k (RVW N x y).toNat) u (LST N x (RVW N x y).toNat) (MST N x (RVW N x y).toNat)) (uA aw 0 g_1)) ++ ((iW cI cJ (qc 3) qw (mk6 k (RVW N x y) (RNT N x k (RVW N x y).toNat) u (LST N x (RVW N x y).toNat) (MST N x (RVW N x y).toNat)) (uA aw 0 g_1)) ++ ((bO cI cJ (qc 6) qB vB aB) ++ ((vW cI cJ (qB 0) qv vv av) ++ (lW cI cJ he qe (LVf N x) ae)))))) (fun _ => rfl) (fun u => []) (fun _ => rfl) 1 rfl rfl rfl (fun u H locs hp22 hW => ?_)
  obtain ⟨w4_2, rfl⟩ : ∃ z, z = u := ⟨_, rfl⟩
  have hp22 : 1 ≤ RVW N x y → w4_2 = WNT N x k (RNT N x k (RVW N x y - 1).toNat) (RVW N x y) := hp22
  have hW : zW G (tyZ cI cJ cO) A s ((dO cI cJ hc qc vc ac) ++ ((kO cI cJ (qc 3) qw (mk6 k (RVW N x y) (RNT N x k (RVW N x y).toNat) w4_2 (LST N x (RVW N x y).toNat) (MST N x (RVW N x y).toNat)) (uA aw 0 g_1)) ++ ((iW cI cJ (qc 3) qw (mk6 k (RVW N x y) (RNT N x k (RVW N x y).toNat) w4_2 (LST N x (RVW N x y).toNat) (MST N x (RVW N x y).toNat)) (uA aw 0 g_1)) ++ ((bO cI cJ (qc 6) qB vB aB) ++ ((vW cI cJ (qB 0) qv vv av) ++ (lW cI cJ he qe (LVf N x) ae)))))) H locs := hW
  refine lv_aload_n hx hb dX10_rentKnownIn_25 rfl (lv_at hl 0 rfl) ?_
  refine z_get (v := .ref (qc 3)) hx hb hts hiX10_rentKnownIn_X10 hown hW 0 3 1 rfl rfl rfl (by decide) rfl dX10_rentKnownIn_26 ?_
  refine z_get (v := .int (iI (RNT N x k (RVW N x y).toNat))) hx hb hts hiX10_rentKnownIn_X9 hown hW 1 3 4 rfl rfl rfl (by decide) rfl dX10_rentKnownIn_29 ?_
  exact z_iret hx hb hr hlk hW (⟨k, RVW N x y, RNT N x k (RVW N x y).toNat, w4_2, LST N x (RVW N x y).toNat, MST N x (RVW N x y).toNat, g_1⟩) rfl trivial rfl dX10_rentKnownIn_32
theorem hiX10_index_X10 : ∀ w ∈ wsX100, w ∈ wsX10_index := fun _ h => List.mem_cons_of_mem _ (List.mem_append_left _ (List.mem_append_left _ (List.mem_append_left _ (List.mem_append_right _ h))))
theorem hiX10_index_X1 : ∀ w ∈ wsX10, w ∈ wsX10_index := fun _ h => List.mem_cons_of_mem _ (List.mem_append_left _ (List.mem_append_left _ (List.mem_append_right _ h)))
theorem hiX10_index_X9 : ∀ w ∈ wsX90, w ∈ wsX10_index := fun _ h => List.mem_cons_of_mem _ (List.mem_append_left _ (List.mem_append_right _ h))
theorem hiX10_index_X8 : ∀ w ∈ wsX80, w ∈ wsX10_index := fun _ h => List.mem_cons_of_mem _ (List.mem_append_right _ h)
theorem ziX10_index : yX10_index.cls = RX10 ∧ yX10_index.cls ≠ "java/lang/invoke/MethodHandle" ∧ yX10_index.cls ≠ "java/lang/invoke/VarHandle" ∧ (parseMethodDescriptor yX10_index.desc).map (fun d => d.parameters.length) = some 2 := by decide +kernel
set_option maxHeartbeats 4000000 in
set_option maxRecDepth 100000 in
theorem c_X10_index {l : Launch} {G : va_G} {cI cJ cO : ClassId} (N : Int → Int) (hc : Nat) (qc : Nat → Nat) (vc : Nat → Int) (ac : Nat → Int → Int) (qw : Nat → Nat) (vw : Nat → Int) (aw : Nat → Int → Int) (qB : Nat → Nat) (vB : Nat → Int) (aB : Nat → Int → Int) (qv : Nat → Nat) (vv : Nat → Int) (av : Nat → Int → Int) (y k : Int)  (h1 : -2147483648 ≤ y ∧ y < 2147483648) (h2 : -2147483648 ≤ k ∧ k < 2147483648) (hWF : WF N) (hRV : RV N av) : zC l yX10_index wsX10_index { frames := 3, cells := 0, slots := 0, locals := 71 } G (tyZ cI cJ cO) (S := Int × Int × Int × Int × Int × Int × (Int → Int)) [.ref hc, .int (iI y), .int (iI k)] ((dO cI cJ hc qc vc ac) ++ ((kO cI cJ (qc 3) qw vw aw) ++ ((iW cI cJ (qc 3) qw vw aw) ++ ((bO cI cJ (qc 6) qB vB aB) ++ (vW cI cJ (qB 0) qv vv av))))) (zI (fun _ => A_index N y k)) (fun u => True) (fun u => (dO cI cJ hc qc vc ac) ++ ((kO cI cJ (qc 3) qw (mk6 u.1 u.2.1 u.2.2.1 u.2.2.2.1 u.2.2.2.2.1 u.2.2.2.2.2.1) (uA aw 0 u.2.2.2.2.2.2)) ++ ((iW cI cJ (qc 3) qw (mk6 u.1 u.2.1 u.2.2.1 u.2.2.2.1 u.2.2.2.2.1 u.2.2.2.2.2.1) (uA aw 0 u.2.2.2.2.2.2)) ++ ((bO cI cJ (qc 6) qB vB aB) ++ (vW cI cJ (qB 0) qv vv av))))) 0 0 := by
  refine z_start (cc := cX10_index) (maxL := 4) (ret := (some .int)) (by decide) rfl (Nat.le_of_ble_eq_true rfl) ?_
  intro p e s m below meth c A ls F hr hlk hnm hAe hA hW hl
  have hx := F.1
  have hb := F.2.1
  have hown : s.vm.findClass RX10 = some m.cls := F.2.2.2.1
  have hts := F.2.2.2.2
  have hl : lv_has ls 4 [(0, .ref hc), (1, .int (iI y)), (2, .int (iI k))] := hl
  obtain ⟨w0, w1, w2, hV, hls⟩ := id hWF
  refine lv_iload_n hx hb dX10_index_0 rfl (lv_at hl 1 rfl) ?_
  refine z_callS (As := [.int (iI y)]) (rest := []) F (c_X10_isMonth   y  (show -2147483648 ≤ y ∧ y < 2147483648 by omega)) gX10_index_X10_isMonth rfl ziX10_isMonth ⟨rfl, rfl, by decide, by decide⟩ rfl hl.1 rfl (Nat.le_of_ble_eq_true rfl) dX10_index_1 ⟨Nat.zero_le _, Nat.zero_le _⟩ hW hA [] rfl (by decide) (fun _ => rfl) (fun _ => (dO cI cJ hc qc vc ac) ++ ((kO cI cJ (qc 3) qw vw aw) ++ ((iW cI cJ (qc 3) qw vw aw) ++ ((bO cI cJ (qc 6) qB vB aB) ++ (vW cI cJ (qB 0) qv vv av))))) (fun _ => rfl) (fun _ => [.int (iI (bI (0 ≤ y ∧ y < 240)))]) (fun _ => rfl) (fun _ H locs hp1 hW => ?_)
  refine z_b_eq (tgt := 14) hx hb dX10_index_4 (by decide) (fun c4 => ?_) (fun c4 => ?_)
  · refine z_iconst (n := -1) hx hb dX10_index_14 ?_
    exact z_iret hx hb hr hlk hW (⟨vw 1, vw 2, vw 3, vw 4, vw 5, vw 6, aw 0⟩) (by unfold A_index; first | (rw [if_pos (by omega)]; omega) | exact if_neg (by omega) | (rw [if_pos (by omega)]; exact IDX_out (by omega)) | (by_cases q9 : 0 ≤ k ∧ k ≤ 239; (rw [if_pos q9]; exact IDX_out (by omega)); exact if_neg q9)) trivial rfl dX10_index_15
  · refine lv_iload_n hx hb dX10_index_7 rfl (lv_at hl 2 rfl) ?_
    refine z_callS (As := [.int (iI k)]) (rest := []) F (c_X10_isMonth   k  (show -2147483648 ≤ k ∧ k < 2147483648 by omega)) gX10_index_X10_isMonth rfl ziX10_isMonth ⟨rfl, rfl, by decide, by decide⟩ rfl hl.1 rfl (Nat.le_of_ble_eq_true rfl) dX10_index_8 ⟨Nat.zero_le _, Nat.zero_le _⟩ hW hA [] rfl (by decide) (fun _ => rfl) (fun _ => (dO cI cJ hc qc vc ac) ++ ((kO cI cJ (qc 3) qw vw aw) ++ ((iW cI cJ (qc 3) qw vw aw) ++ ((bO cI cJ (qc 6) qB vB aB) ++ (vW cI cJ (qB 0) qv vv av))))) (fun _ => rfl) (fun _ => [.int (iI (bI (0 ≤ k ∧ k < 240)))]) (fun _ => rfl) (fun _ H locs hp8 hW => ?_)
    refine z_b_ne (tgt := 16) hx hb dX10_index_11 (by decide) (fun c11 => ?_) (fun c11 => ?_)
    · refine lv_aload_n hx hb dX10_index_16 rfl (lv_at hl 0 rfl) ?_
      refine z_get (v := .ref (qc 3)) hx hb hts hiX10_index_X10 hown hW 0 3 1 rfl rfl rfl (by decide) rfl dX10_index_17 ?_
      refine lv_aload_n hx hb dX10_index_20 rfl (lv_at hl 0 rfl) ?_
      refine z_get (v := .ref (qc 6)) hx hb hts hiX10_index_X10 hown hW 0 6 2 rfl rfl rfl (by decide) rfl dX10_index_21 ?_
      refine z_get (v := .ref (qB 0)) hx hb hts hiX10_index_X1 hown hW 3 0 3 rfl rfl rfl (by decide) rfl dX10_index_24 ?_
      refine lv_iload_n hx hb dX10_index_27 rfl (lv_at hl 2 rfl) ?_
      refine z_callV (As := [.ref (qB 0), .int (iI k)]) (rest := []) F (c_X9_knowIndex N (qc 3) qw vw aw (qB 0) qv vv av k  (show -2147483648 ≤ k ∧ k < 2147483648 by omega) hV hRV) gX10_index_X9_knowIndex rfl ziX9_knowIndex ⟨rfl, rfl, by decide, by decide⟩ rfl hl.1 rfl (Nat.le_of_ble_eq_true rfl) dX10_index_28 ⟨Nat.zero_le _, Nat.zero_le _⟩ hW hA [1, 2, 5, 6, 7] rfl (by decide) (fun _ => rfl) (fun _ => (dO cI cJ hc qc vc ac) ++ ((kO cI cJ (qc 3) qw vw (uA aw 0 (IX0 N k))) ++ ((iW cI cJ (qc 3) qw vw (uA aw 0 (IX0 N k))) ++ ((bO cI cJ (qc 6) qB vB aB) ++ (vW cI cJ (qB 0) qv vv av))))) (fun _ => rfl) (fun _ => []) (fun _ => rfl) 1 rfl rfl rfl (fun _ H locs hp28 hW => ?_)
      have hW : zW G (tyZ cI cJ cO) A s ((dO cI cJ hc qc vc ac) ++ ((kO cI cJ (qc 3) qw vw (uA aw 0 (IX0 N k))) ++ ((iW cI cJ (qc 3) qw vw (uA aw 0 (IX0 N k))) ++ ((bO cI cJ (qc 6) qB vB aB) ++ (vW cI cJ (qB 0) qv vv av))))) H locs := hW
      refine lv_aload_n hx hb dX10_index_31 rfl (lv_at hl 0 rfl) ?_
      refine z_get (v := .ref (qc 3)) hx hb hts hiX10_index_X10 hown hW 0 3 1 rfl rfl rfl (by decide) rfl dX10_index_32 ?_
      refine lv_iload_n hx hb dX10_index_35 rfl (lv_at hl 1 rfl) ?_
      refine z_callV (As := [.int (iI y)]) (rest := []) F (c_X9_indexOf N (qc 3) qw vw (uA aw 0 (IX0 N k)) y k (show -2147483648 ≤ y ∧ y < 2147483648 by omega) rfl) gX10_index_X9_indexOf rfl ziX9_indexOf ⟨rfl, rfl, by decide, by decide⟩ rfl hl.1 rfl (Nat.le_of_ble_eq_true rfl) dX10_index_36 ⟨Nat.zero_le _, Nat.zero_le _⟩ hW hA [1, 2] rfl (by decide) (fun _ => rfl) (fun _ => (dO cI cJ hc qc vc ac) ++ ((kO cI cJ (qc 3) qw vw (uA aw 0 (IX0 N k))) ++ ((iW cI cJ (qc 3) qw vw (uA aw 0 (IX0 N k))) ++ ((bO cI cJ (qc 6) qB vB aB) ++ (vW cI cJ (qB 0) qv vv av))))) (fun _ => rfl) (fun _ => [.int (iI (IX0 N k y))]) (fun _ => rfl) 1 rfl rfl rfl (fun _ H locs hp36 hW => ?_)
      refine lv_istore_n (lv' := [(3, .int (iI (IX0 N k y))), (0, .ref hc), (1, .int (iI y)), (2, .int (iI k))]) hx hb dX10_index_39 rfl hl (by decide) rfl (fun ls hl => ?_)
      have xr := IX0_R hV k y
      refine lv_iload_n hx hb dX10_index_40 rfl (lv_at hl 0 rfl) ?_
      refine z_if_ne (tgt := 48) hx hb dX10_index_41 (by decide) ⟨by omega, by omega⟩ (fun c41 => ?_) (fun c41 => ?_)
      · refine lv_iload_n hx hb dX10_index_48 rfl (lv_at hl 0 rfl) ?_
        exact z_iret hx hb hr hlk hW (⟨vw 1, vw 2, vw 3, vw 4, vw 5, vw 6, IX0 N k⟩) (by unfold A_index; first | (rw [if_pos (by omega)]; omega) | exact if_neg (by omega) | (rw [if_pos (by omega)]; exact IDX_out (by omega)) | (by_cases q9 : 0 ≤ k ∧ k ≤ 239; (rw [if_pos q9]; exact IDX_out (by omega)); exact if_neg q9)) trivial rfl dX10_index_49
      · refine z_iconst (n := -1) hx hb dX10_index_44 ?_
        refine lv_goto (tgt := 49) hx hb dX10_index_45 (by decide) ?_
        exact z_iret hx hb hr hlk hW (⟨vw 1, vw 2, vw 3, vw 4, vw 5, vw 6, IX0 N k⟩) (by unfold A_index; first | (rw [if_pos (by omega)]; omega) | exact if_neg (by omega) | (rw [if_pos (by omega)]; exact IDX_out (by omega)) | (by_cases q9 : 0 ≤ k ∧ k ≤ 239; (rw [if_pos q9]; exact IDX_out (by omega)); exact if_neg q9)) trivial rfl dX10_index_49
    · refine z_iconst (n := -1) hx hb dX10_index_14 ?_
      exact z_iret hx hb hr hlk hW (⟨vw 1, vw 2, vw 3, vw 4, vw 5, vw 6, aw 0⟩) (by unfold A_index; first | (rw [if_pos (by omega)]; omega) | exact if_neg (by omega) | (rw [if_pos (by omega)]; exact IDX_out (by omega)) | (by_cases q9 : 0 ≤ k ∧ k ≤ 239; (rw [if_pos q9]; exact IDX_out (by omega)); exact if_neg q9)) trivial rfl dX10_index_15
theorem hiX10_rent_X10 : ∀ w ∈ wsX100, w ∈ wsX10_rent := fun _ h => List.mem_cons_of_mem _ (List.mem_append_left _ (List.mem_append_left _ (List.mem_append_left _ (List.mem_append_left _ (List.mem_append_left _ (List.mem_append_right _ h))))))
theorem hiX10_rent_X1 : ∀ w ∈ wsX10, w ∈ wsX10_rent := fun _ h => List.mem_cons_of_mem _ (List.mem_append_left _ (List.mem_append_left _ (List.mem_append_left _ (List.mem_append_left _ (List.mem_append_right _ h)))))
theorem hiX10_rent_X2 : ∀ w ∈ wsX20, w ∈ wsX10_rent := fun _ h => List.mem_cons_of_mem _ (List.mem_append_left _ (List.mem_append_left _ (List.mem_append_left _ (List.mem_append_right _ h))))
theorem hiX10_rent_X9 : ∀ w ∈ wsX90, w ∈ wsX10_rent := fun _ h => List.mem_cons_of_mem _ (List.mem_append_left _ (List.mem_append_left _ (List.mem_append_right _ h)))
theorem hiX10_rent_X8 : ∀ w ∈ wsX80, w ∈ wsX10_rent := fun _ h => List.mem_cons_of_mem _ (List.mem_append_left _ (List.mem_append_right _ h))
theorem hiX10_rent_X3 : ∀ w ∈ wsX30, w ∈ wsX10_rent := fun _ h => List.mem_cons_of_mem _ (List.mem_append_right _ h)
theorem ziX10_rent : yX10_rent.cls = RX10 ∧ yX10_rent.cls ≠ "java/lang/invoke/MethodHandle" ∧ yX10_rent.cls ≠ "java/lang/invoke/VarHandle" ∧ (parseMethodDescriptor yX10_rent.desc).map (fun d => d.parameters.length) = some 3 := by decide +kernel
set_option maxHeartbeats 4000000 in
set_option maxRecDepth 100000 in
theorem c_X10_rent {l : Launch} {G : va_G} {cI cJ cO : ClassId} (N : Int → Int) (hc : Nat) (qc : Nat → Nat) (vc : Nat → Int) (ac : Nat → Int → Int) (qw : Nat → Nat) (vw : Nat → Int) (aw : Nat → Int → Int) (qB : Nat → Nat) (vB : Nat → Int) (aB : Nat → Int → Int) (gB : Nat → Nat) (qv : Nat → Nat) (vv : Nat → Int) (av : Nat → Int → Int) (he : Nat) (qe : Nat → Nat) (ae : Nat → Int → Int) (n y k : Int)  (h1 : -2147483648 ≤ n ∧ n < 2147483648) (h2 : -2147483648 ≤ y ∧ y < 2147483648) (h3 : -2147483648 ≤ k ∧ k < 2147483648) (hn : 0 ≤ n ∧ n < vB 4) (hg : gB n.toNat = he) (hv4 : vB 4 = N 2) (hWF : WF N) (hRV : RV N av) (hTR : TR N n ae) (hWb : WFb N n) : zC l yX10_rent wsX10_rent { frames := 5, cells := 0, slots := 0, locals := 119 } G (tyZ cI cJ cO) (S := Int × Int × Int × Int × Int × Int × (Int → Int)) [.ref hc, .int (iI n), .int (iI y), .int (iI k)] ((dO cI cJ hc qc vc ac) ++ ((kO cI cJ (qc 3) qw vw aw) ++ ((iW cI cJ (qc 3) qw vw aw) ++ ((bO cI cJ (qc 6) qB vB aB) ++ ((gW cO (qB 1) gB) ++ ((vW cI cJ (qB 0) qv vv av) ++ (lW cI cJ he qe (LVf N n) ae))))))) (zI (fun _ => A_rent N n y k)) (fun u => True) (fun u => (dO cI cJ hc qc vc ac) ++ ((kO cI cJ (qc 3) qw (mk6 u.1 u.2.1 u.2.2.1 u.2.2.2.1 u.2.2.2.2.1 u.2.2.2.2.2.1) (uA aw 0 u.2.2.2.2.2.2)) ++ ((iW cI cJ (qc 3) qw (mk6 u.1 u.2.1 u.2.2.1 u.2.2.2.1 u.2.2.2.2.1 u.2.2.2.2.2.1) (uA aw 0 u.2.2.2.2.2.2)) ++ ((bO cI cJ (qc 6) qB vB aB) ++ ((gW cO (qB 1) gB) ++ ((vW cI cJ (qB 0) qv vv av) ++ (lW cI cJ he qe (LVf N n) ae))))))) 0 0 := by
  refine z_start (cc := cX10_rent) (maxL := 5) (ret := (some .int)) (by decide) rfl (Nat.le_of_ble_eq_true rfl) ?_
  intro p e s m below meth c A ls F hr hlk hnm hAe hA hW hl
  have hx := F.1
  have hb := F.2.1
  have hown : s.vm.findClass RX10 = some m.cls := F.2.2.2.1
  have hts := F.2.2.2.2
  have hl : lv_has ls 5 [(0, .ref hc), (1, .int (iI n)), (2, .int (iI y)), (3, .int (iI k))] := hl
  obtain ⟨w0, w1, w2, hV, hls⟩ := id hWF
  obtain ⟨hL, hT⟩ := hls n (by omega) (by omega)
  obtain ⟨l0, l1, l2, l3, l4, l5, l6, l7, l8, l9, l10, l11, l12, l13, l14, l15⟩ := id hL
  refine lv_aload_n hx hb dX10_rent_0 rfl (lv_at hl 0 rfl) ?_
  refine z_get (v := .ref (qc 6)) hx hb hts hiX10_rent_X10 hown hW 0 6 1 rfl rfl rfl (by decide) rfl dX10_rent_1 ?_
  refine lv_iload_n hx hb dX10_rent_4 rfl (lv_at hl 1 rfl) ?_
  refine z_callV (As := [.int (iI n)]) (rest := []) F (c_X1_leaseAt  (qc 6) qB vB aB gB n  (show -2147483648 ≤ n ∧ n < 2147483648 by omega) (show 0 ≤ (vB 4) ∧ (vB 4) ≤ 6 by omega)) gX10_rent_X1_leaseAt rfl ziX1_leaseAt ⟨rfl, rfl, by decide, by decide⟩ rfl hl.1 rfl (Nat.le_of_ble_eq_true rfl) dX10_rent_5 ⟨Nat.zero_le _, Nat.zero_le _⟩ hW hA [3, 4, 5] rfl (by decide) (fun _ => rfl) (fun _ => (dO cI cJ hc qc vc ac) ++ ((kO cI cJ (qc 3) qw vw aw) ++ ((iW cI cJ (qc 3) qw vw aw) ++ ((bO cI cJ (qc 6) qB vB aB) ++ ((gW cO (qB 1) gB) ++ ((vW cI cJ (qB 0) qv vv av) ++ (lW cI cJ he qe (LVf N n) ae))))))) (fun _ => rfl) (fun _ => [va_rf (if 0 ≤ n ∧ n < (vB 4) then some (gB n.toNat) else none)]) (fun _ => rfl) 3 rfl rfl rfl (fun _ H locs hp5 hW => ?_)
  rw [if_pos (show 0 ≤ n ∧ n < vB 4 by omega), hg]
  refine W.eq (g2 := F0 m 8 ls [.ref he]) rfl ?_
  refine lv_astore (lv' := [(4, .ref he), (0, .ref hc), (1, .int (iI n)), (2, .int (iI y)), (3, .int (iI k))]) hx hb dX10_rent_8 hl (by decide) rfl (fun ls hl => ?_)
  refine lv_aload hx hb dX10_rent_10 (lv_at hl 0 rfl) ?_
  refine lv_ifnull hx hb dX10_rent_12 ?_
  refine lv_aload hx hb dX10_rent_15 (lv_at hl 0 rfl) ?_
  refine lv_iload_n hx hb dX10_rent_17 rfl (lv_at hl 3 rfl) ?_
  refine z_callV (As := [.int (iI y)]) (rest := []) F (c_X2_hasMonth  he qe (LVf N n) ae y  (show -2147483648 ≤ y ∧ y < 2147483648 by omega) (show (0 ≤ (LF N n 0) ∧ (LF N n 0) ≤ 119) ∧ (0 ≤ (LF N n 1) ∧ (LF N n 1) ≤ 120) by omega)) gX10_rent_X2_hasMonth rfl ziX2_hasMonth ⟨rfl, rfl, by decide, by decide⟩ rfl hl.1 rfl (Nat.le_of_ble_eq_true rfl) dX10_rent_18 ⟨Nat.zero_le _, Nat.zero_le _⟩ hW hA [9, 10, 11, 12, 13] rfl (by decide) (fun _ => rfl) (fun _ => (dO cI cJ hc qc vc ac) ++ ((kO cI cJ (qc 3) qw vw aw) ++ ((iW cI cJ (qc 3) qw vw aw) ++ ((bO cI cJ (qc 6) qB vB aB) ++ ((gW cO (qB 1) gB) ++ ((vW cI cJ (qB 0) qv vv av) ++ (lW cI cJ he qe (LVf N n) ae))))))) (fun _ => rfl) (fun _ => [.int (iI (bI ((LF N n 0) ≤ y ∧ y < (LF N n 0) + (LF N n 1))))]) (fun _ => rfl) 9 rfl rfl rfl (fun _ H locs hp18 hW => ?_)
  refine z_b_eq (tgt := 31) hx hb dX10_rent_21 (by decide) (fun c21 => ?_) (fun c21 => ?_)
  · refine z_iconst (n := -1) hx hb dX10_rent_31 ?_
    exact z_iret hx hb hr hlk hW (⟨vw 1, vw 2, vw 3, vw 4, vw 5, vw 6, aw 0⟩) (by unfold A_rent; exact if_neg (fun q9 => by obtain ⟨⟨q1, q2, q3⟩, q4⟩ := q9; omega)) trivial rfl dX10_rent_32
  · refine lv_iload_n hx hb dX10_rent_24 rfl (lv_at hl 4 rfl) ?_
    refine z_callS (As := [.int (iI k)]) (rest := []) F (c_X10_isMonth   k  (show -2147483648 ≤ k ∧ k < 2147483648 by omega)) gX10_rent_X10_isMonth rfl ziX10_isMonth ⟨rfl, rfl, by decide, by decide⟩ rfl hl.1 rfl (Nat.le_of_ble_eq_true rfl) dX10_rent_25 ⟨Nat.zero_le _, Nat.zero_le _⟩ hW hA [] rfl (by decide) (fun _ => rfl) (fun _ => (dO cI cJ hc qc vc ac) ++ ((kO cI cJ (qc 3) qw vw aw) ++ ((iW cI cJ (qc 3) qw vw aw) ++ ((bO cI cJ (qc 6) qB vB aB) ++ ((gW cO (qB 1) gB) ++ ((vW cI cJ (qB 0) qv vv av) ++ (lW cI cJ he qe (LVf N n) ae))))))) (fun _ => rfl) (fun _ => [.int (iI (bI (0 ≤ k ∧ k < 240)))]) (fun _ => rfl) (fun _ H locs hp25 hW => ?_)
    refine z_b_ne (tgt := 33) hx hb dX10_rent_28 (by decide) (fun c28 => ?_) (fun c28 => ?_)
    · refine lv_aload_n hx hb dX10_rent_33 rfl (lv_at hl 1 rfl) ?_
      refine lv_aload hx hb dX10_rent_34 (lv_at hl 0 rfl) ?_
      refine lv_iload_n hx hb dX10_rent_36 rfl (lv_at hl 3 rfl) ?_
      refine lv_iload_n hx hb dX10_rent_37 rfl (lv_at hl 4 rfl) ?_
      refine z_callV (As := [.ref he, .int (iI y), .int (iI k)]) (rest := []) F (c_X10_rentKnownIn N n hc qc vc ac qw vw aw qB vB aB qv vv av he qe ae y k  (show LF N n 0 ≤ y ∧ y < LF N n 0 + LF N n 1 by omega) (show 0 ≤ k ∧ k ≤ 239 by omega) hRV hV hL hT hTR) gX10_rent_X10_rentKnownIn rfl ziX10_rentKnownIn ⟨rfl, rfl, by decide, by decide⟩ rfl hl.1 rfl (Nat.le_of_ble_eq_true rfl) dX10_rent_38 ⟨Nat.zero_le _, Nat.zero_le _⟩ hW hA [0, 1, 2, 3, 4, 6, 7, 8, 9, 10, 11, 12, 13] rfl (by decide) (fun _ => rfl) (fun u => (dO cI cJ hc qc vc ac) ++ ((kO cI cJ (qc 3) qw (mk6 u.1 u.2.1 u.2.2.1 u.2.2.2.1 u.2.2.2.2.1 u.2.2.2.2.2.1) (uA aw 0 u.2.2.2.2.2.2)) ++ ((iW cI cJ (qc 3) qw (mk6 u.1 u.2.1 u.2.2.1 u.2.2.2.1 u.2.2.2.2.1 u.2.2.2.2.2.1) (uA aw 0 u.2.2.2.2.2.2)) ++ ((bO cI cJ (qc 6) qB vB aB) ++ ((gW cO (qB 1) gB) ++ ((vW cI cJ (qB 0) qv vv av) ++ (lW cI cJ he qe (LVf N n) ae))))))) (fun _ => rfl) (fun u => [.int (iI (RNTm N n k y))]) (fun _ => rfl) 0 rfl rfl rfl (fun u H locs hp38 hW => ?_)
      obtain ⟨w1_1, w2_2, w3_3, w4_4, w5_5, w6_6, g0_7⟩ := u
      have hp38 : True := hp38
      have hW : zW G (tyZ cI cJ cO) A s ((dO cI cJ hc qc vc ac) ++ ((kO cI cJ (qc 3) qw (mk6 w1_1 w2_2 w3_3 w4_4 w5_5 w6_6) (uA aw 0 g0_7)) ++ ((iW cI cJ (qc 3) qw (mk6 w1_1 w2_2 w3_3 w4_4 w5_5 w6_6) (uA aw 0 g0_7)) ++ ((bO cI cJ (qc 6) qB vB aB) ++ ((gW cO (qB 1) gB) ++ ((vW cI cJ (qB 0) qv vv av) ++ (lW cI cJ he qe (LVf N n) ae))))))) H locs := hW
      exact z_iret hx hb hr hlk hW (⟨w1_1, w2_2, w3_3, w4_4, w5_5, w6_6, g0_7⟩) (by unfold A_rent; exact if_pos ⟨⟨by omega, by omega, by omega⟩, by omega⟩) trivial rfl dX10_rent_41
    · refine z_iconst (n := -1) hx hb dX10_rent_31 ?_
      exact z_iret hx hb hr hlk hW (⟨vw 1, vw 2, vw 3, vw 4, vw 5, vw 6, aw 0⟩) (by unfold A_rent; exact if_neg (fun q9 => by obtain ⟨⟨q1, q2, q3⟩, q4⟩ := q9; omega)) trivial rfl dX10_rent_32
set_option maxHeartbeats 4000000 in
set_option maxRecDepth 100000 in
theorem c_X10_rent0 {l : Launch} {G : va_G} {cI cJ cO : ClassId} (N : Int → Int) (hc : Nat) (qc : Nat → Nat) (vc : Nat → Int) (ac : Nat → Int → Int) (qB : Nat → Nat) (vB : Nat → Int) (aB : Nat → Int → Int) (gB : Nat → Nat) (n y k : Int)  (h1 : -2147483648 ≤ n ∧ n < 2147483648) (h2 : -2147483648 ≤ y ∧ y < 2147483648) (h3 : -2147483648 ≤ k ∧ k < 2147483648) (cL : ¬ (0 ≤ n ∧ n < vB 4)) (hv4 : vB 4 = N 2) (hWF : WF N) : zC l yX10_rent wsX10_rent { frames := 5, cells := 0, slots := 0, locals := 119 } G (tyZ cI cJ cO) (S := Unit) [.ref hc, .int (iI n), .int (iI y), .int (iI k)] ((dO cI cJ hc qc vc ac) ++ ((bO cI cJ (qc 6) qB vB aB) ++ (gW cO (qB 1) gB))) (zI (fun _ => A_rent N n y k)) (fun _ => True) (fun _ => (dO cI cJ hc qc vc ac) ++ ((bO cI cJ (qc 6) qB vB aB) ++ (gW cO (qB 1) gB))) 0 0 := by
  refine z_start (cc := cX10_rent) (maxL := 5) (ret := (some .int)) (by decide) rfl (Nat.le_of_ble_eq_true rfl) ?_
  intro p e s m below meth c A ls F hr hlk hnm hAe hA hW hl
  have hx := F.1
  have hb := F.2.1
  have hown : s.vm.findClass RX10 = some m.cls := F.2.2.2.1
  have hts := F.2.2.2.2
  have hl : lv_has ls 5 [(0, .ref hc), (1, .int (iI n)), (2, .int (iI y)), (3, .int (iI k))] := hl
  obtain ⟨w0, w1, w2, hV, hls⟩ := id hWF
  refine lv_aload_n hx hb dX10_rent_0 rfl (lv_at hl 0 rfl) ?_
  refine z_get (v := .ref (qc 6)) hx hb hts hiX10_rent_X10 hown hW 0 6 1 rfl rfl rfl (by decide) rfl dX10_rent_1 ?_
  refine lv_iload_n hx hb dX10_rent_4 rfl (lv_at hl 1 rfl) ?_
  refine z_callV (As := [.int (iI n)]) (rest := []) F (c_X1_leaseAt  (qc 6) qB vB aB gB n  (show -2147483648 ≤ n ∧ n < 2147483648 by omega) (show 0 ≤ (vB 4) ∧ (vB 4) ≤ 6 by omega)) gX10_rent_X1_leaseAt rfl ziX1_leaseAt ⟨rfl, rfl, by decide, by decide⟩ rfl hl.1 rfl (Nat.le_of_ble_eq_true rfl) dX10_rent_5 ⟨Nat.zero_le _, Nat.zero_le _⟩ hW hA [1, 2, 3] rfl (by decide) (fun _ => rfl) (fun _ => (dO cI cJ hc qc vc ac) ++ ((bO cI cJ (qc 6) qB vB aB) ++ (gW cO (qB 1) gB))) (fun _ => rfl) (fun _ => [va_rf (if 0 ≤ n ∧ n < (vB 4) then some (gB n.toNat) else none)]) (fun _ => rfl) 1 rfl rfl rfl (fun _ H locs hp5 hW => ?_)
  rw [if_neg cL]
  refine W.eq (g2 := F0 m 8 ls [.null]) rfl ?_
  refine lv_astoreN (lv' := [(4, .null), (0, .ref hc), (1, .int (iI n)), (2, .int (iI y)), (3, .int (iI k))]) hx hb dX10_rent_8 hl (by decide) rfl (fun ls hl => ?_)
  refine lv_aloadN hx hb dX10_rent_10 (lv_at hl 0 rfl) ?_
  refine lv_ifnullN (tgt := 31) hx hb dX10_rent_12 (by decide) ?_
  refine z_iconst (n := -1) hx hb dX10_rent_31 ?_
  exact z_iret hx hb hr hlk hW () (by unfold A_rent; exact if_neg (fun q9 => by obtain ⟨⟨q1, q2, q3⟩, q4⟩ := q9; omega)) trivial rfl dX10_rent_32
