/-! the class: the walk -/
/-- the walk's row holds the index where the lease goes by it -/
abbrev rowI (N : Int → Int) (x k : Int) (f : Int → Int) : Prop := LF N x 5 = 1 → f = IX0 N k
theorem HLD1_z {N : Int → Int} {x w was : Int} (hL : WFl N x) (hw : 1 ≤ was ∧ was ≤ 999999) (hp : zand (LF N x 7) 2 ≠ 0) : zmin (zmax w ((was * (1000 - LF N x 8)).tdiv 1000)) ((was * (1000 + LF N x 9)).tdiv 1000) = HLD1 N x w was := by
  obtain ⟨l0, l1, l2, l3, l4, l5, l6, l7, l8, l9, l10, l11, l12, l13, l14, l15⟩ := hL
  have m1 : was * (1000 - LF N x 8) ≤ was * (1000 + LF N x 9) := Int.mul_le_mul_of_nonneg_left (by omega) (by omega)
  have m0 : 0 ≤ was * (1000 - LF N x 8) := Int.mul_nonneg (by omega) (by omega)
  have d1 := tdiv_P (a := was * (1000 - LF N x 8)) (b := 1000) m0 (by decide)
  have d2 := tdiv_P (a := was * (1000 + LF N x 9)) (b := 1000) (by omega) (by decide)
  unfold HLD1
  rw [if_pos hp, zmm (by omega)]
theorem tsm_last {N : Int → Int} {x k i : Int} {n : Nat} (h : ¬ tsm N x k i n < 0) (hk : ¬ (LF N x (260 + (i + (n : Int))) = 0 ∨ k < LF N x (380 + (i + (n : Int))))) : tsm N x k i (n + 1) = tsm N x k i n + (LF N x (260 + (i + (n : Int))) - 1) := by
  show (if tsm N x k i n < 0 then -1 else if LF N x (260 + (i + (n : Int))) = 0 ∨ k < LF N x (380 + (i + (n : Int))) then -1 else tsm N x k i n + (LF N x (260 + (i + (n : Int))) - 1)) = _
  rw [if_neg h, if_neg hk]
theorem hiX9_knowIndex_X9 : ∀ w ∈ wsX90, w ∈ wsX9_knowIndex := fun _ h => List.mem_cons_of_mem _ (List.mem_append_left _ (List.mem_append_right _ h))
theorem hiX9_knowIndex_X8 : ∀ w ∈ wsX80, w ∈ wsX9_knowIndex := fun _ h => List.mem_cons_of_mem _ (List.mem_append_right _ h)
theorem ziX9_knowIndex : yX9_knowIndex.cls = RX9 ∧ yX9_knowIndex.cls ≠ "java/lang/invoke/MethodHandle" ∧ yX9_knowIndex.cls ≠ "java/lang/invoke/VarHandle" ∧ (parseMethodDescriptor yX9_knowIndex.desc).map (fun d => d.parameters.length) = some 2 := by decide +kernel
set_option maxHeartbeats 4000000 in
set_option maxRecDepth 100000 in
theorem c_X9_knowIndex {l : Launch} {G : va_G} {cI cJ cO : ClassId} (N : Int → Int) (hw : Nat) (qw : Nat → Nat) (vw : Nat → Int) (aw : Nat → Int → Int) (hv : Nat) (qv : Nat → Nat) (vv : Nat → Int) (av : Nat → Int → Int) (k : Int)  (h1 : -2147483648 ≤ k ∧ k < 2147483648) (hV : WFv N) (hRV : RV N av) : zC l yX9_knowIndex wsX9_knowIndex { frames := 2, cells := 0, slots := 0, locals := 49 } G (tyZ cI cJ cO) (S := Unit) [.ref hw, .ref hv, .int (iI k)] ((kO cI cJ hw qw vw aw) ++ ((iW cI cJ hw qw vw aw) ++ (vW cI cJ hv qv vv av))) (zN) (fun _ => True) (fun _ => (kO cI cJ hw qw vw (uA aw 0 (IX0 N k))) ++ ((iW cI cJ hw qw vw (uA aw 0 (IX0 N k))) ++ (vW cI cJ hv qv vv av))) 0 0 := by
  refine z_start (cc := cX9_knowIndex) (maxL := 3) (ret := none) (by decide) rfl (Nat.le_of_ble_eq_true rfl) ?_
  intro p e s m below meth c A ls F hr hlk hnm hAe hA hW hl
  have hx := F.1
  have hb := F.2.1
  have hown : s.vm.findClass RX9 = some m.cls := F.2.2.2.1
  have hts := F.2.2.2.2
  have hl : lv_has ls 3 [(0, .ref hw), (1, .ref hv), (2, .int (iI k))] := hl
  refine lv_aload_n hx hb dX9_knowIndex_0 rfl (lv_at hl 1 rfl) ?_
  refine lv_aload_n hx hb dX9_knowIndex_1 rfl (lv_at hl 0 rfl) ?_
  refine z_get (v := .ref (qw 0)) hx hb hts hiX9_knowIndex_X9 hown hW 0 0 1 rfl rfl rfl (by decide) rfl dX9_knowIndex_2 ?_
  refine lv_iload_n hx hb dX9_knowIndex_5 rfl (lv_at hl 2 rfl) ?_
  refine z_callV (As := [.ref (qw 0), .int (iI k)]) (rest := []) F (c_X8_fillIndex N hv qv vv av hw qw vw aw k  (show -2147483648 ≤ k ∧ k < 2147483648 by omega) hV hRV) gX9_knowIndex_X8_fillIndex rfl ziX8_fillIndex ⟨rfl, rfl, by decide, by decide⟩ rfl hl.1 rfl (Nat.le_of_ble_eq_true rfl) dX9_knowIndex_6 ⟨Nat.zero_le _, Nat.zero_le _⟩ hW hA [2, 3, 4, 1] rfl (by decide) (fun _ => rfl) (fun _ => (kO cI cJ hw qw vw aw) ++ ((iW cI cJ hw qw vw (uA aw 0 (IX0 N k))) ++ (vW cI cJ hv qv vv av))) (fun _ => rfl) (fun _ => []) (fun _ => rfl) 2 rfl rfl rfl (fun _ H locs hp6 hW => ?_)
  have hW : zW G (tyZ cI cJ cO) A s ((kO cI cJ hw qw vw aw) ++ ((iW cI cJ hw qw vw (uA aw 0 (IX0 N k))) ++ (vW cI cJ hv qv vv av))) H locs := hW
  exact z_vret hx hb hr hlk hW () trivial rfl dX9_knowIndex_9
theorem hiX9_begin_X9 : ∀ w ∈ wsX90, w ∈ wsX9_begin := fun _ h => List.mem_cons_of_mem _ (List.mem_append_left _ (List.mem_append_left _ (List.mem_append_right _ h)))
theorem hiX9_begin_X2 : ∀ w ∈ wsX20, w ∈ wsX9_begin := fun _ h => List.mem_cons_of_mem _ (List.mem_append_left _ (List.mem_append_right _ h))
theorem hiX9_begin_X8 : ∀ w ∈ wsX80, w ∈ wsX9_begin := fun _ h => List.mem_cons_of_mem _ (List.mem_append_right _ h)
theorem ziX9_begin : yX9_begin.cls = RX9 ∧ yX9_begin.cls ≠ "java/lang/invoke/MethodHandle" ∧ yX9_begin.cls ≠ "java/lang/invoke/VarHandle" ∧ (parseMethodDescriptor yX9_begin.desc).map (fun d => d.parameters.length) = some 3 := by decide +kernel
set_option maxHeartbeats 4000000 in
set_option maxRecDepth 100000 in
theorem c_X9_begin {l : Launch} {G : va_G} {cI cJ cO : ClassId} (N : Int → Int) (x : Int) (hw : Nat) (qw : Nat → Nat) (vw : Nat → Int) (aw : Nat → Int → Int) (he : Nat) (qe : Nat → Nat) (ae : Nat → Int → Int) (hv : Nat) (qv : Nat → Nat) (vv : Nat → Int) (av : Nat → Int → Int) (k : Int)  (h1 : -2147483648 ≤ k ∧ k < 2147483648) (hV : WFv N) (hL : WFl N x) (hRV : RV N av) : zC l yX9_begin wsX9_begin { frames := 3, cells := 0, slots := 0, locals := 71 } G (tyZ cI cJ cO) (S := (Int → Int)) [.ref hw, .ref he, .ref hv, .int (iI k)] ((kO cI cJ hw qw vw aw) ++ ((iW cI cJ hw qw vw aw) ++ ((lW cI cJ he qe (LVf N x) ae) ++ (vW cI cJ hv qv vv av)))) (zN) (fun u => rowI N x k u) (fun u => (kO cI cJ hw qw (mk6 k 0 (LF N x 2) (-1) (LF N x 2) (LF N x 2)) (uA aw 0 u)) ++ ((iW cI cJ hw qw (mk6 k 0 (LF N x 2) (-1) (LF N x 2) (LF N x 2)) (uA aw 0 u)) ++ ((lW cI cJ he qe (LVf N x) ae) ++ (vW cI cJ hv qv vv av)))) 0 0 := by
  refine z_start (cc := cX9_begin) (maxL := 4) (ret := none) (by decide) rfl (Nat.le_of_ble_eq_true rfl) ?_
  intro p e s m below meth c A ls F hr hlk hnm hAe hA hW hl
  have hx := F.1
  have hb := F.2.1
  have hown : s.vm.findClass RX9 = some m.cls := F.2.2.2.1
  have hts := F.2.2.2.2
  have hl : lv_has ls 4 [(0, .ref hw), (1, .ref he), (2, .ref hv), (3, .int (iI k))] := hl
  obtain ⟨l0, l1, l2, l3, l4, l5, l6, l7, l8, l9, l10, l11, l12, l13, l14, l15⟩ := id hL
  refine lv_aload_n hx hb dX9_begin_0 rfl (lv_at hl 0 rfl) ?_
  refine lv_iload_n hx hb dX9_begin_1 rfl (lv_at hl 3 rfl) ?_
  refine z_put hx hb hts hiX9_begin_X9 tyX9 tyX9_ok nmX9 hown hW 0 1 1 rfl rfl (by decide) (Nat.le_of_ble_eq_true rfl) rfl rfl rfl rfl dX9_begin_2 (fun H locs hW => ?_)
  have hW : zW G (tyZ cI cJ cO) A s ((kO cI cJ hw qw (uV vw 1 k) aw) ++ ((iW cI cJ hw qw vw aw) ++ ((lW cI cJ he qe (LVf N x) ae) ++ (vW cI cJ hv qv vv av)))) H locs := hW
  refine lv_aload_n hx hb dX9_begin_5 rfl (lv_at hl 0 rfl) ?_
  refine z_iconst (n := 0) hx hb dX9_begin_6 ?_
  refine z_put hx hb hts hiX9_begin_X9 tyX9 tyX9_ok nmX9 hown hW 0 2 2 rfl rfl (by decide) (Nat.le_of_ble_eq_true rfl) rfl rfl rfl rfl dX9_begin_7 (fun H locs hW => ?_)
  have hW : zW G (tyZ cI cJ cO) A s ((kO cI cJ hw qw (uV (uV vw 1 k) 2 0) aw) ++ ((iW cI cJ hw qw vw aw) ++ ((lW cI cJ he qe (LVf N x) ae) ++ (vW cI cJ hv qv vv av)))) H locs := hW
  refine lv_aload_n hx hb dX9_begin_10 rfl (lv_at hl 0 rfl) ?_
  refine lv_aload_n hx hb dX9_begin_11 rfl (lv_at hl 1 rfl) ?_
  refine z_get (v := .int (iI (LF N x 2))) hx hb hts hiX9_begin_X2 hown hW 2 6 3 rfl rfl rfl (by decide) rfl dX9_begin_12 ?_
  refine z_put hx hb hts hiX9_begin_X9 tyX9 tyX9_ok nmX9 hown hW 0 3 4 rfl rfl (by decide) (Nat.le_of_ble_eq_true rfl) rfl rfl rfl rfl dX9_begin_15 (fun H locs hW => ?_)
  have hW : zW G (tyZ cI cJ cO) A s ((kO cI cJ hw qw (uV (uV (uV vw 1 k) 2 0) 3 (LF N x 2)) aw) ++ ((iW cI cJ hw qw vw aw) ++ ((lW cI cJ he qe (LVf N x) ae) ++ (vW cI cJ hv qv vv av)))) H locs := hW
  refine lv_aload_n hx hb dX9_begin_18 rfl (lv_at hl 0 rfl) ?_
  refine z_iconst (n := -1) hx hb dX9_begin_19 ?_
  refine z_put hx hb hts hiX9_begin_X9 tyX9 tyX9_ok nmX9 hown hW 0 4 5 rfl rfl (by decide) (Nat.le_of_ble_eq_true rfl) rfl rfl rfl rfl dX9_begin_20 (fun H locs hW => ?_)
  have hW : zW G (tyZ cI cJ cO) A s ((kO cI cJ hw qw (uV (uV (uV (uV vw 1 k) 2 0) 3 (LF N x 2)) 4 (-1)) aw) ++ ((iW cI cJ hw qw vw aw) ++ ((lW cI cJ he qe (LVf N x) ae) ++ (vW cI cJ hv qv vv av)))) H locs := hW
  refine lv_aload_n hx hb dX9_begin_23 rfl (lv_at hl 0 rfl) ?_
  refine lv_aload_n hx hb dX9_begin_24 rfl (lv_at hl 1 rfl) ?_
  refine z_get (v := .int (iI (LF N x 2))) hx hb hts hiX9_begin_X2 hown hW 2 6 3 rfl rfl rfl (by decide) rfl dX9_begin_25 ?_
  refine z_put hx hb hts hiX9_begin_X9 tyX9 tyX9_ok nmX9 hown hW 0 5 6 rfl rfl (by decide) (Nat.le_of_ble_eq_true rfl) rfl rfl rfl rfl dX9_begin_28 (fun H locs hW => ?_)
  have hW : zW G (tyZ cI cJ cO) A s ((kO cI cJ hw qw (uV (uV (uV (uV (uV vw 1 k) 2 0) 3 (LF N x 2)) 4 (-1)) 5 (LF N x 2)) aw) ++ ((iW cI cJ hw qw vw aw) ++ ((lW cI cJ he qe (LVf N x) ae) ++ (vW cI cJ hv qv vv av)))) H locs := hW
  refine lv_aload_n hx hb dX9_begin_31 rfl (lv_at hl 0 rfl) ?_
  refine lv_aload_n hx hb dX9_begin_32 rfl (lv_at hl 1 rfl) ?_
  refine z_get (v := .int (iI (LF N x 2))) hx hb hts hiX9_begin_X2 hown hW 2 6 3 rfl rfl rfl (by decide) rfl dX9_begin_33 ?_
  refine z_put hx hb hts hiX9_begin_X9 tyX9 tyX9_ok nmX9 hown hW 0 6 7 rfl rfl (by decide) (Nat.le_of_ble_eq_true rfl) rfl rfl rfl rfl dX9_begin_36 (fun H locs hW => ?_)
  have hW : zW G (tyZ cI cJ cO) A s ((kO cI cJ hw qw (mk6 k 0 (LF N x 2) (-1) (LF N x 2) (LF N x 2)) aw) ++ ((iW cI cJ hw qw vw aw) ++ ((lW cI cJ he qe (LVf N x) ae) ++ (vW cI cJ hv qv vv av)))) H locs := hW
  refine lv_aload_n hx hb dX9_begin_39 rfl (lv_at hl 1 rfl) ?_
  refine z_get (v := .int (iI (LF N x 5))) hx hb hts hiX9_begin_X2 hown hW 2 9 8 rfl rfl rfl (by decide) rfl dX9_begin_40 ?_
  refine z_iconst (n := 1) hx hb dX9_begin_43 ?_
  refine z_icmp_ne (tgt := 53) hx hb dX9_begin_44 (by decide) ⟨by omega, by omega⟩ (by decide) (fun c44 => ?_) (fun c44 => ?_)
  · exact z_vret hx hb hr hlk hW (aw 0) (fun q9 => by first | rfl | exact absurd q9 (by omega)) rfl dX9_begin_53
  · refine lv_aload_n hx hb dX9_begin_47 rfl (lv_at hl 0 rfl) ?_
    refine lv_aload_n hx hb dX9_begin_48 rfl (lv_at hl 2 rfl) ?_
    refine lv_iload_n hx hb dX9_begin_49 rfl (lv_at hl 3 rfl) ?_
    refine z_callV (As := [.ref hv, .int (iI k)]) (rest := []) F (c_X9_knowIndex N hw qw (mk6 k 0 (LF N x 2) (-1) (LF N x 2) (LF N x 2)) aw hv qv vv av k  (show -2147483648 ≤ k ∧ k < 2147483648 by omega) hV hRV) gX9_begin_X9_knowIndex rfl ziX9_knowIndex ⟨rfl, rfl, by decide, by decide⟩ rfl hl.1 rfl (Nat.le_of_ble_eq_true rfl) dX9_begin_50 ⟨Nat.zero_le _, Nat.zero_le _⟩ hW hA [0, 1, 7, 8, 9] rfl (by decide) (fun _ => rfl) (fun _ => (kO cI cJ hw qw (mk6 k 0 (LF N x 2) (-1) (LF N x 2) (LF N x 2)) (uA aw 0 (IX0 N k))) ++ ((iW cI cJ hw qw vw (uA aw 0 (IX0 N k))) ++ ((lW cI cJ he qe (LVf N x) ae) ++ (vW cI cJ hv qv vv av)))) (fun _ => rfl) (fun _ => []) (fun _ => rfl) 0 rfl rfl rfl (fun _ H locs hp50 hW => ?_)
    have hW : zW G (tyZ cI cJ cO) A s ((kO cI cJ hw qw (mk6 k 0 (LF N x 2) (-1) (LF N x 2) (LF N x 2)) (uA aw 0 (IX0 N k))) ++ ((iW cI cJ hw qw vw (uA aw 0 (IX0 N k))) ++ ((lW cI cJ he qe (LVf N x) ae) ++ (vW cI cJ hv qv vv av)))) H locs := hW
    exact z_vret hx hb hr hlk hW (IX0 N k) (fun q9 => by first | rfl | exact absurd q9 (by omega)) rfl dX9_begin_53
theorem hiX9_indexOf_X9 : ∀ w ∈ wsX90, w ∈ wsX9_indexOf := fun _ h => List.mem_cons_of_mem _ (List.mem_append_right _ h)
theorem ziX9_indexOf : yX9_indexOf.cls = RX9 ∧ yX9_indexOf.cls ≠ "java/lang/invoke/MethodHandle" ∧ yX9_indexOf.cls ≠ "java/lang/invoke/VarHandle" ∧ (parseMethodDescriptor yX9_indexOf.desc).map (fun d => d.parameters.length) = some 1 := by decide +kernel
set_option maxHeartbeats 4000000 in
set_option maxRecDepth 100000 in
theorem c_X9_indexOf {l : Launch} {G : va_G} {cI cJ cO : ClassId} (N : Int → Int) (hw : Nat) (qw : Nat → Nat) (vw : Nat → Int) (aw : Nat → Int → Int) (y : Int) (k : Int) (h1 : -2147483648 ≤ y ∧ y < 2147483648) (hI : aw 0 = IX0 N k) : zC l yX9_indexOf wsX9_indexOf { frames := 0, cells := 0, slots := 0, locals := 0 } G (tyZ cI cJ cO) (S := Unit) [.ref hw, .int (iI y)] ((kO cI cJ hw qw vw aw) ++ (iW cI cJ hw qw vw aw)) (zI (fun _ => IX0 N k y)) (fun _ => True) (fun _ => (kO cI cJ hw qw vw aw) ++ (iW cI cJ hw qw vw aw)) 0 0 := by
  refine z_start (cc := cX9_indexOf) (maxL := 2) (ret := (some .int)) (by decide) rfl (Nat.le_of_ble_eq_true rfl) ?_
  intro p e s m below meth c A ls F hr hlk hnm hAe hA hW hl
  have hx := F.1
  have hb := F.2.1
  have hown : s.vm.findClass RX9 = some m.cls := F.2.2.2.1
  have hts := F.2.2.2.2
  have hl : lv_has ls 2 [(0, .ref hw), (1, .int (iI y))] := hl
  refine lv_iload_n hx hb dX9_indexOf_0 rfl (lv_at hl 1 rfl) ?_
  refine z_if_lt (tgt := 22) hx hb dX9_indexOf_1 (by decide) ⟨by omega, by omega⟩ (fun c1 => ?_) (fun c1 => ?_)
  · refine z_iconst (n := 0) hx hb dX9_indexOf_22 ?_
    exact z_iret hx hb hr hlk hW () (by first | (rw [hI]; done) | (unfold IX0; exact if_pos (IDX_out (by omega)))) trivial rfl dX9_indexOf_23
  · refine lv_iload_n hx hb dX9_indexOf_4 rfl (lv_at hl 1 rfl) ?_
    refine lv_aload_n hx hb dX9_indexOf_5 rfl (lv_at hl 0 rfl) ?_
    refine z_get (v := .ref (qw 0)) hx hb hts hiX9_indexOf_X9 hown hW 0 0 1 rfl rfl rfl (by decide) rfl dX9_indexOf_6 ?_
    refine z_alen hx hb hW 1 0 rfl rfl dX9_indexOf_9 ?_
    refine W.eq (g2 := F0 m 10 ls [.int (iI 240), .int (iI y)]) rfl ?_
    refine z_icmp_ge (tgt := 22) hx hb dX9_indexOf_10 (by decide) ⟨by omega, by omega⟩ (by decide) (fun c10 => ?_) (fun c10 => ?_)
    · refine z_iconst (n := 0) hx hb dX9_indexOf_22 ?_
      exact z_iret hx hb hr hlk hW () (by first | (rw [hI]; done) | (unfold IX0; exact if_pos (IDX_out (by omega)))) trivial rfl dX9_indexOf_23
    · refine lv_aload_n hx hb dX9_indexOf_13 rfl (lv_at hl 0 rfl) ?_
      refine z_get (v := .ref (qw 0)) hx hb hts hiX9_indexOf_X9 hown hW 0 0 1 rfl rfl rfl (by decide) rfl dX9_indexOf_14 ?_
      refine lv_iload_n hx hb dX9_indexOf_17 rfl (lv_at hl 1 rfl) ?_
      refine z_iald (f := aw 0) (i := y) hx hb hW 1 0 rfl rfl (by decide) ⟨by omega, by omega⟩ dX9_indexOf_18 ?_
      refine lv_goto (tgt := 23) hx hb dX9_indexOf_19 (by decide) ?_
      exact z_iret hx hb hr hlk hW () (by first | (rw [hI]; done) | (unfold IX0; exact if_pos (IDX_out (by omega)))) trivial rfl dX9_indexOf_23
theorem ziX9_thousandths : yX9_thousandths.cls = RX9 ∧ yX9_thousandths.cls ≠ "java/lang/invoke/MethodHandle" ∧ yX9_thousandths.cls ≠ "java/lang/invoke/VarHandle" ∧ (parseMethodDescriptor yX9_thousandths.desc).map (fun d => d.parameters.length) = some 2 := by decide +kernel
set_option maxHeartbeats 4000000 in
set_option maxRecDepth 100000 in
theorem c_X9_thousandths {l : Launch} {G : va_G} {cI cJ cO : ClassId}   (z n : Int)  (h1 : 0 ≤ z ∧ z ≤ 999999) (h2 : 0 ≤ n ∧ n ≤ 1999) : zC l yX9_thousandths wsX9_thousandths { frames := 0, cells := 0, slots := 0, locals := 0 } G (tyZ cI cJ cO) (S := Unit) [.long (lI z), .int (iI n)] ([]) (zI (fun _ => (z * n).tdiv 1000)) (fun _ => True) (fun _ => []) 0 0 := by
  refine z_start (cc := cX9_thousandths) (maxL := 3) (ret := (some .int)) (by decide) rfl (Nat.le_of_ble_eq_true rfl) ?_
  intro p e s m below meth c A ls F hr hlk hnm hAe hA hW hl
  have hx := F.1
  have hb := F.2.1
  have hown : s.vm.findClass RX9 = some m.cls := F.2.2.2.1
  have hts := F.2.2.2.2
  have hl : lv_has ls 3 [(0, .long (lI z)), (2, .int (iI n))] := hl
  have mm := mul_P (P := 999999) (Q := 1999) h1 h2
  refine lv_lload_n hx hb dX9_thousandths_0 rfl (lv_at hl 0 rfl) ?_
  refine lv_iload_n hx hb dX9_thousandths_1 rfl (lv_at hl 1 rfl) ?_
  refine z_i2l hx hb dX9_thousandths_2 ⟨by omega, by omega⟩ ?_
  refine z_lmul hx hb dX9_thousandths_3 ?_
  refine z_ldc2 hx hb (1000) hown (hts _ (List.mem_of_getElem? (i := 1) rfl)) (by decide +kernel) dX9_thousandths_4 ?_
  refine z_ldiv hx hb dX9_thousandths_7 ⟨by omega, by omega⟩ (by decide) (by decide) (by omega) ?_
  refine z_l2i hx hb dX9_thousandths_8 ?_
  exact z_iret hx hb hr hlk hW () (by first | rfl | omega) trivial rfl dX9_thousandths_9
theorem hiX9_wantedByIndex_X2 : ∀ w ∈ wsX20, w ∈ wsX9_wantedByIndex := fun _ h => List.mem_cons_of_mem _ (List.mem_append_left _ (List.mem_append_right _ h))
theorem hiX9_wantedByIndex_X9 : ∀ w ∈ wsX90, w ∈ wsX9_wantedByIndex := fun _ h => List.mem_cons_of_mem _ (List.mem_append_right _ h)
theorem ziX9_wantedByIndex : yX9_wantedByIndex.cls = RX9 ∧ yX9_wantedByIndex.cls ≠ "java/lang/invoke/MethodHandle" ∧ yX9_wantedByIndex.cls ≠ "java/lang/invoke/VarHandle" ∧ (parseMethodDescriptor yX9_wantedByIndex.desc).map (fun d => d.parameters.length) = some 2 := by decide +kernel
set_option maxHeartbeats 4000000 in
set_option maxRecDepth 100000 in
theorem c_X9_wantedByIndex {l : Launch} {G : va_G} {cI cJ cO : ClassId} (N : Int → Int) (x : Int) (hw : Nat) (qw : Nat → Nat) (vw : Nat → Int) (aw : Nat → Int → Int) (he : Nat) (qe : Nat → Nat) (ae : Nat → Int → Int) (r : Int) (k : Int) (h1 : 0 ≤ r * LF N x 3 ∧ r * LF N x 3 ≤ 119) (hI : aw 0 = IX0 N k) (hV : WFv N) (hL : WFl N x) : zC l yX9_wantedByIndex wsX9_wantedByIndex { frames := 1, cells := 0, slots := 0, locals := 21 } G (tyZ cI cJ cO) (S := Unit) [.ref hw, .ref he, .int (iI r)] ((kO cI cJ hw qw vw aw) ++ ((iW cI cJ hw qw vw aw) ++ (lW cI cJ he qe (LVf N x) ae))) (zI (fun _ => BYI N x (LF N x 0 + r * LF N x 3) k)) (fun _ => True) (fun _ => (kO cI cJ hw qw vw aw) ++ ((iW cI cJ hw qw vw aw) ++ (lW cI cJ he qe (LVf N x) ae))) 0 0 := by
  refine z_start (cc := cX9_wantedByIndex) (maxL := 6) (ret := (some .int)) (by decide) rfl (Nat.le_of_ble_eq_true rfl) ?_
  intro p e s m below meth c A ls F hr hlk hnm hAe hA hW hl
  have hx := F.1
  have hb := F.2.1
  have hown : s.vm.findClass RX9 = some m.cls := F.2.2.2.1
  have hts := F.2.2.2.2
  have hl : lv_has ls 6 [(0, .ref hw), (1, .ref he), (2, .int (iI r))] := hl
  obtain ⟨l0, l1, l2, l3, l4, l5, l6, l7, l8, l9, l10, l11, l12, l13, l14, l15⟩ := id hL
  refine lv_aload_n hx hb dX9_wantedByIndex_0 rfl (lv_at hl 0 rfl) ?_
  refine lv_aload_n hx hb dX9_wantedByIndex_1 rfl (lv_at hl 1 rfl) ?_
  refine lv_iload_n hx hb dX9_wantedByIndex_2 rfl (lv_at hl 2 rfl) ?_
  refine z_callV (As := [.int (iI r)]) (rest := [.ref hw]) F (c_X2_reviewMonth  he qe (LVf N x) ae r  ) gX9_wantedByIndex_X2_reviewMonth rfl ziX2_reviewMonth ⟨rfl, rfl, by decide, by decide⟩ rfl hl.1 rfl (Nat.le_of_ble_eq_true rfl) dX9_wantedByIndex_3 ⟨Nat.zero_le _, Nat.zero_le _⟩ hW hA [2, 3, 4, 5, 6] rfl (by decide) (fun _ => rfl) (fun _ => (kO cI cJ hw qw vw aw) ++ ((iW cI cJ hw qw vw aw) ++ (lW cI cJ he qe (LVf N x) ae))) (fun _ => rfl) (fun _ => [.int (iI ((LF N x 0) + r * (LF N x 3))), .ref hw]) (fun _ => rfl) 2 rfl rfl rfl (fun _ H locs hp3 hW => ?_)
  refine lv_aload_n hx hb dX9_wantedByIndex_6 rfl (lv_at hl 1 rfl) ?_
  refine z_get (v := .int (iI (LF N x 6))) hx hb hts hiX9_wantedByIndex_X2 hown hW 2 10 1 rfl rfl rfl (by decide) rfl dX9_wantedByIndex_7 ?_
  refine z_isub hx hb dX9_wantedByIndex_10 ?_
  refine z_callV (As := [.int (iI (((LF N x 0) + r * (LF N x 3)) - (LF N x 6)))]) (rest := []) F (c_X9_indexOf N hw qw vw aw (((LF N x 0) + r * (LF N x 3)) - (LF N x 6)) k (show -2147483648 ≤ (((LF N x 0) + r * (LF N x 3)) - (LF N x 6)) ∧ (((LF N x 0) + r * (LF N x 3)) - (LF N x 6)) < 2147483648 by omega) hI) gX9_wantedByIndex_X9_indexOf rfl ziX9_indexOf ⟨rfl, rfl, by decide, by decide⟩ rfl hl.1 rfl (Nat.le_of_ble_eq_true rfl) dX9_wantedByIndex_11 ⟨Nat.zero_le _, Nat.zero_le _⟩ hW hA [0, 1] rfl (by decide) (fun _ => rfl) (fun _ => (kO cI cJ hw qw vw aw) ++ ((iW cI cJ hw qw vw aw) ++ (lW cI cJ he qe (LVf N x) ae))) (fun _ => rfl) (fun _ => [.int (iI (IX0 N k (((LF N x 0) + r * (LF N x 3)) - (LF N x 6))))]) (fun _ => rfl) 0 rfl rfl rfl (fun _ H locs hp11 hW => ?_)
  have x1 := IX0_R hV k (LF N x 0 + r * LF N x 3 - LF N x 6)
  refine z_i2l hx hb dX9_wantedByIndex_14 ⟨by omega, by omega⟩ ?_
  refine lv_lstore_n (lv' := [(3, .long (lI (IX0 N k (((LF N x 0) + r * (LF N x 3)) - (LF N x 6))))), (0, .ref hw), (1, .ref he), (2, .int (iI r))]) hx hb dX9_wantedByIndex_15 rfl hl (by decide) rfl (fun ls hl => ?_)
  refine lv_aload_n hx hb dX9_wantedByIndex_16 rfl (lv_at hl 1 rfl) ?_
  refine lv_aload_n hx hb dX9_wantedByIndex_17 rfl (lv_at hl 2 rfl) ?_
  refine z_get (v := .int (iI (LF N x 0))) hx hb hts hiX9_wantedByIndex_X2 hown hW 2 4 2 rfl rfl rfl (by decide) rfl dX9_wantedByIndex_18 ?_
  refine lv_aload_n hx hb dX9_wantedByIndex_21 rfl (lv_at hl 2 rfl) ?_
  refine z_get (v := .int (iI (LF N x 6))) hx hb hts hiX9_wantedByIndex_X2 hown hW 2 10 1 rfl rfl rfl (by decide) rfl dX9_wantedByIndex_22 ?_
  refine z_isub hx hb dX9_wantedByIndex_25 ?_
  refine z_callV (As := [.int (iI ((LF N x 0) - (LF N x 6)))]) (rest := []) F (c_X9_indexOf N hw qw vw aw ((LF N x 0) - (LF N x 6)) k (show -2147483648 ≤ ((LF N x 0) - (LF N x 6)) ∧ ((LF N x 0) - (LF N x 6)) < 2147483648 by omega) hI) gX9_wantedByIndex_X9_indexOf rfl ziX9_indexOf ⟨rfl, rfl, by decide, by decide⟩ rfl hl.1 rfl (Nat.le_of_ble_eq_true rfl) dX9_wantedByIndex_26 ⟨Nat.zero_le _, Nat.zero_le _⟩ hW hA [0, 1] rfl (by decide) (fun _ => rfl) (fun _ => (kO cI cJ hw qw vw aw) ++ ((iW cI cJ hw qw vw aw) ++ (lW cI cJ he qe (LVf N x) ae))) (fun _ => rfl) (fun _ => [.int (iI (IX0 N k ((LF N x 0) - (LF N x 6))))]) (fun _ => rfl) 0 rfl rfl rfl (fun _ H locs hp26 hW => ?_)
  refine lv_istore (lv' := [(5, .int (iI (IX0 N k ((LF N x 0) - (LF N x 6))))), (3, .long (lI (IX0 N k (((LF N x 0) + r * (LF N x 3)) - (LF N x 6))))), (0, .ref hw), (1, .ref he), (2, .int (iI r))]) hx hb dX9_wantedByIndex_29 hl (by decide) rfl (fun ls hl => ?_)
  have x2 := IX0_R hV k (LF N x 0 - LF N x 6)
  refine lv_lload_n hx hb dX9_wantedByIndex_31 rfl (lv_at hl 1 rfl) ?_
  refine z_lconst (z := 1) hx hb dX9_wantedByIndex_32 (by decide +kernel) ?_
  refine z_lcmp_lt (tgt := 43) hx hb dX9_wantedByIndex_33 dX9_wantedByIndex_34 (by decide) ⟨by omega, by omega⟩ (by decide) (fun c33 => ?_) (fun c33 => ?_)
  · refine z_iconst (n := -1) hx hb dX9_wantedByIndex_43 ?_
    exact z_iret hx hb hr hlk hW () (by unfold BYI; first | exact if_pos (by omega) | (rw [if_neg (by omega), show IX0 N k (LF N x 0 + r * LF N x 3 - LF N x 6) = IDX N (LF N x 0 + r * LF N x 3 - LF N x 6) k by omega, show IX0 N k (LF N x 0 - LF N x 6) = IDX N (LF N x 0 - LF N x 6) k by omega]; done)) trivial rfl dX9_wantedByIndex_44
  · refine lv_iload hx hb dX9_wantedByIndex_37 (lv_at hl 0 rfl) ?_
    refine z_iconst (n := 1) hx hb dX9_wantedByIndex_39 ?_
    refine z_icmp_ge (tgt := 45) hx hb dX9_wantedByIndex_40 (by decide) ⟨by omega, by omega⟩ (by decide) (fun c40 => ?_) (fun c40 => ?_)
    · have x3 := mul_P (p := LF N x 2) (q := IX0 N k (LF N x 0 + r * LF N x 3 - LF N x 6)) (P := 99999) (Q := 9999) (by omega) (by omega)
      refine lv_aload_n hx hb dX9_wantedByIndex_45 rfl (lv_at hl 3 rfl) ?_
      refine z_get (v := .int (iI (LF N x 2))) hx hb hts hiX9_wantedByIndex_X2 hown hW 2 6 3 rfl rfl rfl (by decide) rfl dX9_wantedByIndex_46 ?_
      refine z_i2l hx hb dX9_wantedByIndex_49 ⟨by omega, by omega⟩ ?_
      refine lv_lload_n hx hb dX9_wantedByIndex_50 rfl (lv_at hl 1 rfl) ?_
      refine z_lmul hx hb dX9_wantedByIndex_51 ?_
      refine lv_iload hx hb dX9_wantedByIndex_52 (lv_at hl 0 rfl) ?_
      refine z_i2l hx hb dX9_wantedByIndex_54 ⟨by omega, by omega⟩ ?_
      refine z_ldiv hx hb dX9_wantedByIndex_55 ⟨by omega, by omega⟩ ⟨by omega, by omega⟩ (by omega) (by omega) ?_
      refine z_l2i hx hb dX9_wantedByIndex_56 ?_
      exact z_iret hx hb hr hlk hW () (by unfold BYI; first | exact if_pos (by omega) | (rw [if_neg (by omega), show IX0 N k (LF N x 0 + r * LF N x 3 - LF N x 6) = IDX N (LF N x 0 + r * LF N x 3 - LF N x 6) k by omega, show IX0 N k (LF N x 0 - LF N x 6) = IDX N (LF N x 0 - LF N x 6) k by omega]; done)) trivial rfl dX9_wantedByIndex_57
    · refine z_iconst (n := -1) hx hb dX9_wantedByIndex_43 ?_
      exact z_iret hx hb hr hlk hW () (by unfold BYI; first | exact if_pos (by omega) | (rw [if_neg (by omega), show IX0 N k (LF N x 0 + r * LF N x 3 - LF N x 6) = IDX N (LF N x 0 + r * LF N x 3 - LF N x 6) k by omega, show IX0 N k (LF N x 0 - LF N x 6) = IDX N (LF N x 0 - LF N x 6) k by omega]; done)) trivial rfl dX9_wantedByIndex_44
theorem hiX9_wantedByTurnover_X2 : ∀ w ∈ wsX20, w ∈ wsX9_wantedByTurnover := fun _ h => List.mem_cons_of_mem _ (List.mem_append_left _ (List.mem_append_right _ h))
theorem hiX9_wantedByTurnover_X9 : ∀ w ∈ wsX90, w ∈ wsX9_wantedByTurnover := fun _ h => List.mem_cons_of_mem _ (List.mem_append_right _ h)
theorem ziX9_wantedByTurnover : yX9_wantedByTurnover.cls = RX9 ∧ yX9_wantedByTurnover.cls ≠ "java/lang/invoke/MethodHandle" ∧ yX9_wantedByTurnover.cls ≠ "java/lang/invoke/VarHandle" ∧ (parseMethodDescriptor yX9_wantedByTurnover.desc).map (fun d => d.parameters.length) = some 2 := by decide +kernel
set_option maxHeartbeats 4000000 in
set_option maxRecDepth 100000 in
theorem c_X9_wantedByTurnover {l : Launch} {G : va_G} {cI cJ cO : ClassId} (N : Int → Int) (x : Int) (hw : Nat) (qw : Nat → Nat) (vw : Nat → Int) (aw : Nat → Int → Int) (he : Nat) (qe : Nat → Nat) (ae : Nat → Int → Int) (r : Int) (k : Int) (h1 : 1 ≤ r ∧ r ≤ 119 ∧ 0 ≤ r * LF N x 3 ∧ r * LF N x 3 ≤ 119) (h2 : vw 1 = k) (h3 : LF N x 5 = 3) (hk1 : 0 ≤ k ∧ k ≤ 239) (hL : WFl N x) (hT : WFt N x) (hTR : TR N x ae) : zC l yX9_wantedByTurnover wsX9_wantedByTurnover { frames := 1, cells := 0, slots := 0, locals := 24 } G (tyZ cI cJ cO) (S := Unit) [.ref hw, .ref he, .int (iI r)] ((kO cI cJ hw qw vw aw) ++ ((iW cI cJ hw qw vw aw) ++ (lW cI cJ he qe (LVf N x) ae))) (zI (fun _ => BYT N x r k)) (fun _ => True) (fun _ => (kO cI cJ hw qw vw aw) ++ ((iW cI cJ hw qw vw aw) ++ (lW cI cJ he qe (LVf N x) ae))) 0 0 := by
  refine z_start (cc := cX9_wantedByTurnover) (maxL := 7) (ret := (some .int)) (by decide) rfl (Nat.le_of_ble_eq_true rfl) ?_
  intro p e s m below meth c A ls F hr hlk hnm hAe hA hW hl
  have hx := F.1
  have hb := F.2.1
  have hown : s.vm.findClass RX9 = some m.cls := F.2.2.2.1
  have hts := F.2.2.2.2
  have hl : lv_has ls 7 [(0, .ref hw), (1, .ref he), (2, .int (iI r))] := hl
  obtain ⟨l0, l1, l2, l3, l4, l5, l6, l7, l8, l9, l10, l11, l12, l13, l14, l15⟩ := id hL
  refine z_lconst (z := 0) hx hb dX9_wantedByTurnover_0 (by decide +kernel) ?_
  refine lv_lstore_n (lv' := [(3, .long (lI 0)), (0, .ref hw), (1, .ref he), (2, .int (iI r))]) hx hb dX9_wantedByTurnover_1 rfl hl (by decide) rfl (fun ls hl => ?_)
  refine lv_iload_n hx hb dX9_wantedByTurnover_2 rfl (lv_at hl 3 rfl) ?_
  refine z_iconst (n := 1) hx hb dX9_wantedByTurnover_3 ?_
  refine z_isub hx hb dX9_wantedByTurnover_4 ?_
  refine lv_aload_n hx hb dX9_wantedByTurnover_5 rfl (lv_at hl 2 rfl) ?_
  refine z_get (v := .int (iI (LF N x 3))) hx hb hts hiX9_wantedByTurnover_X2 hown hW 2 7 1 rfl rfl rfl (by decide) rfl dX9_wantedByTurnover_6 ?_
  refine z_imul hx hb dX9_wantedByTurnover_9 ?_
  refine lv_istore (lv' := [(5, .int (iI ((r - 1) * (LF N x 3)))), (3, .long (lI 0)), (0, .ref hw), (1, .ref he), (2, .int (iI r))]) hx hb dX9_wantedByTurnover_10 hl (by decide) rfl (fun ls hl => ?_)
  have he1 : (r - 1) * LF N x 3 = r * LF N x 3 - LF N x 3 := by rw [Int.sub_mul, Int.one_mul]
  have hi0 : 0 ≤ (r - 1) * LF N x 3 := Int.mul_nonneg (by omega) (by omega)
  refine z_loop2 (fun (x3 : Int) (p5 : Int) (ls : Array Slot) (H : Heap) (locs : List Loc) => ((r - 1) * LF N x 3 ≤ p5 ∧ p5 ≤ r * LF N x 3) ∧ (x3 = tsm N x k ((r - 1) * LF N x 3) (p5 - (r - 1) * LF N x 3).toNat) ∧ (0 ≤ x3 ∧ x3 ≤ 1000000 * (p5 - (r - 1) * LF N x 3)) ∧ zW G (tyZ cI cJ cO) A s ((kO cI cJ hw qw vw aw) ++ ((iW cI cJ hw qw vw aw) ++ (lW cI cJ he qe (LVf N x) ae))) H locs ∧ lv_has ls 7 [(5, .int (iI p5)), (3, .long (lI x3)), (0, .ref hw), (1, .ref he), (2, .int (iI r))]) (fun x3 p5 => (r * LF N x 3 - p5).toNat) ?_ 0 ((r - 1) * (LF N x 3)) _ _ _ ⟨(by omega), (by rw [show ((r - 1) * LF N x 3 - (r - 1) * LF N x 3).toNat = 0 by omega]; rfl), (by omega), hW, (lv_sub hl [0, 1, 2, 3, 4] rfl)⟩
  intro x3 p5 ls H locs hI ih
  obtain ⟨i1, i2, i3, hW, hl⟩ := hI
  refine lv_iload hx hb dX9_wantedByTurnover_12 (lv_at hl 0 rfl) ?_
  refine lv_iload_n hx hb dX9_wantedByTurnover_14 rfl (lv_at hl 4 rfl) ?_
  refine lv_aload_n hx hb dX9_wantedByTurnover_15 rfl (lv_at hl 3 rfl) ?_
  refine z_get (v := .int (iI (LF N x 3))) hx hb hts hiX9_wantedByTurnover_X2 hown hW 2 7 1 rfl rfl rfl (by decide) rfl dX9_wantedByTurnover_16 ?_
  refine z_imul hx hb dX9_wantedByTurnover_19 ?_
  refine z_icmp_ge (tgt := 54) hx hb dX9_wantedByTurnover_20 (by decide) ⟨by omega, by omega⟩ ⟨by omega, by omega⟩ (fun c20 => ?_) (fun c20 => ?_)
  · refine lv_aload_n hx hb dX9_wantedByTurnover_54 rfl (lv_at hl 3 rfl) ?_
    refine z_get (v := .int (iI (LF N x 3))) hx hb hts hiX9_wantedByTurnover_X2 hown hW 2 7 1 rfl rfl rfl (by decide) rfl dX9_wantedByTurnover_55 ?_
    refine z_iconst (n := 1) hx hb dX9_wantedByTurnover_58 ?_
    refine z_icmp_ge (tgt := 64) hx hb dX9_wantedByTurnover_59 (by decide) ⟨by omega, by omega⟩ (by decide) (fun c59 => ?_) (fun c59 => ?_)
    · have i4 : x3 = tsm N x k ((r - 1) * LF N x 3) (LF N x 3).toNat := by rw [i2, show p5 - (r - 1) * LF N x 3 = LF N x 3 by omega]
      have m1 := mul_P (p := x3) (q := LF N x 6) (P := 60000000) (Q := 999) (by omega) (by omega)
      have m2 := tdiv_P (a := x3 * LF N x 6) (b := 1000) m1.1 (by decide)
      have m3 := tdiv_P (a := (x3 * LF N x 6).tdiv 1000) (b := LF N x 3) m2.1 (by omega)
      refine lv_lload_n hx hb dX9_wantedByTurnover_64 rfl (lv_at hl 1 rfl) ?_
      refine lv_aload_n hx hb dX9_wantedByTurnover_65 rfl (lv_at hl 3 rfl) ?_
      refine z_get (v := .int (iI (LF N x 6))) hx hb hts hiX9_wantedByTurnover_X2 hown hW 2 10 3 rfl rfl rfl (by decide) rfl dX9_wantedByTurnover_66 ?_
      refine z_i2l hx hb dX9_wantedByTurnover_69 ⟨by omega, by omega⟩ ?_
      refine z_lmul hx hb dX9_wantedByTurnover_70 ?_
      refine z_ldc2 hx hb (1000) hown (hts _ (List.mem_of_getElem? (i := 4) rfl)) (by decide +kernel) dX9_wantedByTurnover_71 ?_
      refine z_ldiv hx hb dX9_wantedByTurnover_74 ⟨by omega, by omega⟩ (by decide) (by decide) (by omega) ?_
      refine lv_aload_n hx hb dX9_wantedByTurnover_75 rfl (lv_at hl 3 rfl) ?_
      refine z_get (v := .int (iI (LF N x 3))) hx hb hts hiX9_wantedByTurnover_X2 hown hW 2 7 1 rfl rfl rfl (by decide) rfl dX9_wantedByTurnover_76 ?_
      refine z_i2l hx hb dX9_wantedByTurnover_79 ⟨by omega, by omega⟩ ?_
      refine z_ldiv hx hb dX9_wantedByTurnover_80 ⟨by omega, by omega⟩ ⟨by omega, by omega⟩ (by omega) (by omega) ?_
      refine lv_lstore (lv' := [(5, .long (lI (((x3 * (LF N x 6)).tdiv 1000).tdiv (LF N x 3)))), (3, .long (lI x3)), (0, .ref hw), (1, .ref he), (2, .int (iI r))]) hx hb dX9_wantedByTurnover_81 hl (by decide) rfl (fun ls hl => ?_)
      refine lv_lload hx hb dX9_wantedByTurnover_83 (lv_at hl 0 rfl) ?_
      refine z_l2i hx hb dX9_wantedByTurnover_85 ?_
      refine lv_aload_n hx hb dX9_wantedByTurnover_86 rfl (lv_at hl 3 rfl) ?_
      refine z_get (v := .int (iI (LF N x 2))) hx hb hts hiX9_wantedByTurnover_X2 hown hW 2 6 5 rfl rfl rfl (by decide) rfl dX9_wantedByTurnover_87 ?_
      refine z_mmax F hl.1 6 7 8 9 rfl rfl rfl rfl (by decide) (Nat.le_of_ble_eq_true rfl) ⟨Nat.zero_le _, Nat.zero_le _⟩ ⟨by omega, by omega⟩ ⟨by omega, by omega⟩ dX9_wantedByTurnover_90 ?_
      exact z_iret hx hb hr hlk hW () (by unfold BYT; rw [← i4, if_neg (by omega)]; rfl) trivial rfl dX9_wantedByTurnover_93
    · exfalso; omega
  · have hn : p5 = (r - 1) * LF N x 3 + ((p5 - (r - 1) * LF N x 3).toNat : Int) := by omega
    have tr := hTR p5 (by omega) (by omega)
    have tw := hT p5 (by omega) (by omega)
    have tr1 := (tr.2.1 h3).1
    refine lv_aload_n hx hb dX9_wantedByTurnover_23 rfl (lv_at hl 3 rfl) ?_
    refine lv_iload hx hb dX9_wantedByTurnover_24 (lv_at hl 0 rfl) ?_
    refine lv_aload_n hx hb dX9_wantedByTurnover_26 rfl (lv_at hl 2 rfl) ?_
    refine z_get (v := .int (iI (vw 1))) hx hb hts hiX9_wantedByTurnover_X9 hown hW 0 1 2 rfl rfl rfl (by decide) rfl dX9_wantedByTurnover_27 ?_
    refine z_callV (As := [.int (iI p5), .int (iI (vw 1))]) (rest := []) F (c_X2_isToldIn  he qe (LVf N x) ae p5 (vw 1)  (show -2147483648 ≤ p5 ∧ p5 < 2147483648 by omega) (show -2147483648 ≤ (vw 1) ∧ (vw 1) < 2147483648 by omega) (fun _ _ => tr.2.2.1)) gX9_wantedByTurnover_X2_isToldIn rfl ziX2_isToldIn ⟨rfl, rfl, by decide, by decide⟩ rfl hl.1 rfl (Nat.le_of_ble_eq_true rfl) dX9_wantedByTurnover_30 ⟨Nat.zero_le _, Nat.zero_le _⟩ hW hA [2, 3, 4, 5, 6] rfl (by decide) (fun _ => rfl) (fun _ => (kO cI cJ hw qw vw aw) ++ ((iW cI cJ hw qw vw aw) ++ (lW cI cJ he qe (LVf N x) ae))) (fun _ => rfl) (fun _ => [.int (iI (bI ((0 ≤ p5 ∧ p5 < 120) ∧ (ae 3) p5 ≤ (vw 1))))]) (fun _ => rfl) 2 rfl rfl rfl (fun _ H locs hp30 hW => ?_)
    refine z_b_ne (tgt := 38) hx hb dX9_wantedByTurnover_33 (by decide) (fun c33 => ?_) (fun c33 => ?_)
    · have tp : 0 < LF N x (260 + p5) := by by_cases q9 : 0 < LF N x (260 + p5); exact q9; (rw [if_neg q9] at tr1; omega)
      rw [if_pos tp] at tr1
      have ht2 := (tr.2.1 h3).2 tp
      refine lv_lload_n hx hb dX9_wantedByTurnover_38 rfl (lv_at hl 1 rfl) ?_
      refine lv_aload_n hx hb dX9_wantedByTurnover_39 rfl (lv_at hl 3 rfl) ?_
      refine lv_iload hx hb dX9_wantedByTurnover_40 (lv_at hl 0 rfl) ?_
      refine z_callV (As := [.int (iI p5)]) (rest := [.long (lI x3)]) F (c_X2_toldAt  he qe (LVf N x) ae p5  (show 0 ≤ p5 ∧ p5 < 120 by omega)) gX9_wantedByTurnover_X2_toldAt rfl ziX2_toldAt ⟨rfl, rfl, by decide, by decide⟩ rfl hl.1 rfl (Nat.le_of_ble_eq_true rfl) dX9_wantedByTurnover_42 ⟨Nat.zero_le _, Nat.zero_le _⟩ hW hA [2, 3, 4, 5, 6] rfl (by decide) (fun _ => rfl) (fun _ => (kO cI cJ hw qw vw aw) ++ ((iW cI cJ hw qw vw aw) ++ (lW cI cJ he qe (LVf N x) ae))) (fun _ => rfl) (fun _ => [.int (iI ((ae 2) p5)), .long (lI x3)]) (fun _ => rfl) 2 rfl rfl rfl (fun _ H locs hp42 hW => ?_)
      refine z_i2l hx hb dX9_wantedByTurnover_45 ⟨by omega, by omega⟩ ?_
      refine z_ladd hx hb dX9_wantedByTurnover_46 ?_
      refine lv_lstore_n (lv' := [(3, .long (lI (x3 + ((ae 2) p5)))), (5, .int (iI p5)), (0, .ref hw), (1, .ref he), (2, .int (iI r))]) hx hb dX9_wantedByTurnover_47 rfl hl (by decide) rfl (fun ls hl => ?_)
      refine z_iinc (k := 1) (lv' := [(5, .int (iI (p5 + 1))), (3, .long (lI (x3 + ((ae 2) p5)))), (0, .ref hw), (1, .ref he), (2, .int (iI r))]) hx hb dX9_wantedByTurnover_48 hl rfl (by decide) rfl (fun ls hl => ?_)
      refine lv_goto (tgt := 12) hx hb dX9_wantedByTurnover_51 (by decide) ?_
      exact ih (x3 + ((ae 2) p5)) (p5 + 1) _ _ _ ⟨(by omega), (by rw [show (p5 + 1 - (r - 1) * LF N x 3).toNat = (p5 - (r - 1) * LF N x 3).toNat + 1 by omega, tsm_last (by rw [← i2]; omega) (by rw [← hn]; omega), ← i2, ← hn, ht2]), (by omega), hW, (lv_sub hl [0, 1, 2, 3, 4] rfl)⟩ (by omega)
    · refine z_iconst (n := -1) hx hb dX9_wantedByTurnover_36 ?_
      exact z_iret hx hb hr hlk hW () (by unfold BYT; rw [if_pos]; have hh : tsm N x k ((r - 1) * LF N x 3) ((p5 - (r - 1) * LF N x 3).toNat + 1) < 0 := (by unfold tsm; rw [← i2, ← hn, if_neg (by omega), if_pos (by by_cases q9 : 0 < LF N x (260 + p5); (rw [if_pos q9] at tr1; right; rcases Int.lt_or_le k (LF N x (380 + p5)) with q7 | q7; exact q7; exact absurd ⟨⟨by omega, by omega⟩, by omega⟩ c33); (left; omega))]; decide); rw [show (LF N x 3).toNat = (p5 - (r - 1) * LF N x 3).toNat + 1 + (r * LF N x 3 - p5 - 1).toNat by omega]; exact tsm_neg hh _) trivial rfl dX9_wantedByTurnover_37
theorem hiX9_wantedBy_X2 : ∀ w ∈ wsX20, w ∈ wsX9_wantedBy := fun _ h => List.mem_cons_of_mem _ (List.mem_append_left _ (List.mem_append_right _ h))
theorem hiX9_wantedBy_X9 : ∀ w ∈ wsX90, w ∈ wsX9_wantedBy := fun _ h => List.mem_cons_of_mem _ (List.mem_append_right _ h)
theorem ziX9_wantedBy : yX9_wantedBy.cls = RX9 ∧ yX9_wantedBy.cls ≠ "java/lang/invoke/MethodHandle" ∧ yX9_wantedBy.cls ≠ "java/lang/invoke/VarHandle" ∧ (parseMethodDescriptor yX9_wantedBy.desc).map (fun d => d.parameters.length) = some 2 := by decide +kernel
set_option maxHeartbeats 4000000 in
set_option maxRecDepth 100000 in
theorem c_X9_wantedBy {l : Launch} {G : va_G} {cI cJ cO : ClassId} (N : Int → Int) (x : Int) (hw : Nat) (qw : Nat → Nat) (vw : Nat → Int) (aw : Nat → Int → Int) (he : Nat) (qe : Nat → Nat) (ae : Nat → Int → Int) (r : Int) (k : Int) (h1 : 1 ≤ r ∧ r ≤ 119 ∧ 0 ≤ r * LF N x 3 ∧ r * LF N x 3 ≤ 119) (h2 : vw 1 = k) (h3 : 1 ≤ vw 3 ∧ vw 3 ≤ 999999) (h5 : 1 ≤ LF N x 5) (hk1 : 0 ≤ k ∧ k ≤ 239) (hI : rowI N x k (aw 0)) (hV : WFv N) (hL : WFl N x) (hT : WFt N x) (hTR : TR N x ae) : zC l yX9_wantedBy wsX9_wantedBy { frames := 2, cells := 0, slots := 0, locals := 50 } G (tyZ cI cJ cO) (S := Unit) [.ref hw, .ref he, .int (iI r)] ((kO cI cJ hw qw vw aw) ++ ((iW cI cJ hw qw vw aw) ++ (lW cI cJ he qe (LVf N x) ae))) (zI (fun _ => WNT N x k (vw 3) r)) (fun _ => True) (fun _ => (kO cI cJ hw qw vw aw) ++ ((iW cI cJ hw qw vw aw) ++ (lW cI cJ he qe (LVf N x) ae))) 0 0 := by
  refine z_start (cc := cX9_wantedBy) (maxL := 3) (ret := (some .int)) (by decide) rfl (Nat.le_of_ble_eq_true rfl) ?_
  intro p e s m below meth c A ls F hr hlk hnm hAe hA hW hl
  have hx := F.1
  have hb := F.2.1
  have hown : s.vm.findClass RX9 = some m.cls := F.2.2.2.1
  have hts := F.2.2.2.2
  have hl : lv_has ls 3 [(0, .ref hw), (1, .ref he), (2, .int (iI r))] := hl
  obtain ⟨l0, l1, l2, l3, l4, l5, l6, l7, l8, l9, l10, l11, l12, l13, l14, l15⟩ := id hL
  refine lv_aload_n hx hb dX9_wantedBy_0 rfl (lv_at hl 1 rfl) ?_
  refine z_get (v := .int (iI (LF N x 5))) hx hb hts hiX9_wantedBy_X2 hown hW 2 9 1 rfl rfl rfl (by decide) rfl dX9_wantedBy_1 ?_
  by_cases c4_1 : LF N x 5 = 1
  · refine z_tabIn (z := 1) (tgt := 36) hx hb dX9_wantedBy_4 c4_1 (by decide) (by decide) (by decide) rfl (by decide) ?_
    refine lv_aload_n hx hb dX9_wantedBy_36 rfl (lv_at hl 0 rfl) ?_
    refine lv_aload_n hx hb dX9_wantedBy_37 rfl (lv_at hl 1 rfl) ?_
    refine lv_iload_n hx hb dX9_wantedBy_38 rfl (lv_at hl 2 rfl) ?_
    refine z_callV (As := [.ref he, .int (iI r)]) (rest := []) F (c_X9_wantedByIndex N x hw qw vw aw he qe ae r k (show 0 ≤ r * LF N x 3 ∧ r * LF N x 3 ≤ 119 by omega) (hI c4_1) hV hL) gX9_wantedBy_X9_wantedByIndex rfl ziX9_wantedByIndex ⟨rfl, rfl, by decide, by decide⟩ rfl hl.1 rfl (Nat.le_of_ble_eq_true rfl) dX9_wantedBy_39 ⟨Nat.zero_le _, Nat.zero_le _⟩ hW hA [0, 1, 2, 3, 4, 5, 6] rfl (by decide) (fun _ => rfl) (fun _ => (kO cI cJ hw qw vw aw) ++ ((iW cI cJ hw qw vw aw) ++ (lW cI cJ he qe (LVf N x) ae))) (fun _ => rfl) (fun _ => [.int (iI (BYI N x (LF N x 0 + r * LF N x 3) k))]) (fun _ => rfl) 0 rfl rfl rfl (fun _ H locs hp39 hW => ?_)
    exact z_iret hx hb hr hlk hW () (by unfold WNT; rw [if_pos c4_1]) trivial rfl dX9_wantedBy_42
  by_cases c4_2 : LF N x 5 = 2
  · refine z_tabIn (z := 2) (tgt := 43) hx hb dX9_wantedBy_4 c4_2 (by decide) (by decide) (by decide) rfl (by decide) ?_
    have tr := hTR r (by omega) (by omega)
    have tw := hT r (by omega) (by omega)
    have tr1 := (tr.1 c4_2).1
    refine lv_aload_n hx hb dX9_wantedBy_43 rfl (lv_at hl 1 rfl) ?_
    refine lv_iload_n hx hb dX9_wantedBy_44 rfl (lv_at hl 2 rfl) ?_
    refine lv_aload_n hx hb dX9_wantedBy_45 rfl (lv_at hl 0 rfl) ?_
    refine z_get (v := .int (iI (vw 1))) hx hb hts hiX9_wantedBy_X9 hown hW 0 1 2 rfl rfl rfl (by decide) rfl dX9_wantedBy_46 ?_
    refine z_callV (As := [.int (iI r), .int (iI (vw 1))]) (rest := []) F (c_X2_isToldIn  he qe (LVf N x) ae r (vw 1)  (show -2147483648 ≤ r ∧ r < 2147483648 by omega) (show -2147483648 ≤ (vw 1) ∧ (vw 1) < 2147483648 by omega) (fun _ _ => tr.2.2.1)) gX9_wantedBy_X2_isToldIn rfl ziX2_isToldIn ⟨rfl, rfl, by decide, by decide⟩ rfl hl.1 rfl (Nat.le_of_ble_eq_true rfl) dX9_wantedBy_49 ⟨Nat.zero_le _, Nat.zero_le _⟩ hW hA [2, 3, 4, 5, 6] rfl (by decide) (fun _ => rfl) (fun _ => (kO cI cJ hw qw vw aw) ++ ((iW cI cJ hw qw vw aw) ++ (lW cI cJ he qe (LVf N x) ae))) (fun _ => rfl) (fun _ => [.int (iI (bI ((0 ≤ r ∧ r < 120) ∧ (ae 3) r ≤ (vw 1))))]) (fun _ => rfl) 2 rfl rfl rfl (fun _ H locs hp49 hW => ?_)
    refine z_b_eq (tgt := 63) hx hb dX9_wantedBy_52 (by decide) (fun c52 => ?_) (fun c52 => ?_)
    · refine z_iconst (n := -1) hx hb dX9_wantedBy_63 ?_
      exact z_iret hx hb hr hlk hW () (by unfold WNT; rw [if_neg c4_1, if_pos c4_2]; by_cases q9 : 0 < LF N x (20 + r); (rw [if_pos q9] at tr1; first | (rw [if_pos (by omega)]; exact ((tr.1 c4_2).2 q9).symm) | exact if_neg (by omega)); (rw [if_neg q9] at tr1; first | exact if_neg (by omega) | (exfalso; omega))) trivial rfl dX9_wantedBy_64
    · refine lv_aload_n hx hb dX9_wantedBy_55 rfl (lv_at hl 1 rfl) ?_
      refine lv_iload_n hx hb dX9_wantedBy_56 rfl (lv_at hl 2 rfl) ?_
      refine z_callV (As := [.int (iI r)]) (rest := []) F (c_X2_toldAt  he qe (LVf N x) ae r  (show 0 ≤ r ∧ r < 120 by omega)) gX9_wantedBy_X2_toldAt rfl ziX2_toldAt ⟨rfl, rfl, by decide, by decide⟩ rfl hl.1 rfl (Nat.le_of_ble_eq_true rfl) dX9_wantedBy_57 ⟨Nat.zero_le _, Nat.zero_le _⟩ hW hA [2, 3, 4, 5, 6] rfl (by decide) (fun _ => rfl) (fun _ => (kO cI cJ hw qw vw aw) ++ ((iW cI cJ hw qw vw aw) ++ (lW cI cJ he qe (LVf N x) ae))) (fun _ => rfl) (fun _ => [.int (iI ((ae 2) r))]) (fun _ => rfl) 2 rfl rfl rfl (fun _ H locs hp57 hW => ?_)
      refine lv_goto (tgt := 64) hx hb dX9_wantedBy_60 (by decide) ?_
      exact z_iret hx hb hr hlk hW () (by unfold WNT; rw [if_neg c4_1, if_pos c4_2]; by_cases q9 : 0 < LF N x (20 + r); (rw [if_pos q9] at tr1; first | (rw [if_pos (by omega)]; exact ((tr.1 c4_2).2 q9).symm) | exact if_neg (by omega)); (rw [if_neg q9] at tr1; first | exact if_neg (by omega) | (exfalso; omega))) trivial rfl dX9_wantedBy_64
  by_cases c4_3 : LF N x 5 = 3
  · refine z_tabIn (z := 3) (tgt := 65) hx hb dX9_wantedBy_4 c4_3 (by decide) (by decide) (by decide) rfl (by decide) ?_
    refine lv_aload_n hx hb dX9_wantedBy_65 rfl (lv_at hl 0 rfl) ?_
    refine lv_aload_n hx hb dX9_wantedBy_66 rfl (lv_at hl 1 rfl) ?_
    refine lv_iload_n hx hb dX9_wantedBy_67 rfl (lv_at hl 2 rfl) ?_
    refine z_callV (As := [.ref he, .int (iI r)]) (rest := []) F (c_X9_wantedByTurnover N x hw qw vw aw he qe ae r k (show 1 ≤ r ∧ r ≤ 119 ∧ 0 ≤ r * LF N x 3 ∧ r * LF N x 3 ≤ 119 by omega) (show (vw 1) = k by omega) (show LF N x 5 = 3 by omega) (show 0 ≤ k ∧ k ≤ 239 by omega) hL hT hTR) gX9_wantedBy_X9_wantedByTurnover rfl ziX9_wantedByTurnover ⟨rfl, rfl, by decide, by decide⟩ rfl hl.1 rfl (Nat.le_of_ble_eq_true rfl) dX9_wantedBy_68 ⟨Nat.zero_le _, Nat.zero_le _⟩ hW hA [0, 1, 2, 3, 4, 5, 6] rfl (by decide) (fun _ => rfl) (fun _ => (kO cI cJ hw qw vw aw) ++ ((iW cI cJ hw qw vw aw) ++ (lW cI cJ he qe (LVf N x) ae))) (fun _ => rfl) (fun _ => [.int (iI (BYT N x r k))]) (fun _ => rfl) 0 rfl rfl rfl (fun _ H locs hp68 hW => ?_)
    exact z_iret hx hb hr hlk hW () (by unfold WNT; rw [if_neg c4_1, if_neg c4_2, if_pos c4_3]) trivial rfl dX9_wantedBy_71
  by_cases c4_4 : LF N x 5 = 4
  · refine z_tabIn (z := 4) (tgt := 72) hx hb dX9_wantedBy_4 c4_4 (by decide) (by decide) (by decide) rfl (by decide) ?_
    refine lv_aload_n hx hb dX9_wantedBy_72 rfl (lv_at hl 0 rfl) ?_
    refine z_get (v := .int (iI (vw 3))) hx hb hts hiX9_wantedBy_X9 hown hW 0 3 3 rfl rfl rfl (by decide) rfl dX9_wantedBy_73 ?_
    refine z_i2l hx hb dX9_wantedBy_76 ⟨by omega, by omega⟩ ?_
    refine z_sipush hx hb dX9_wantedBy_77 (by decide +kernel) ?_
    refine lv_aload_n hx hb dX9_wantedBy_80 rfl (lv_at hl 1 rfl) ?_
    refine z_get (v := .int (iI (LF N x 6))) hx hb hts hiX9_wantedBy_X2 hown hW 2 10 4 rfl rfl rfl (by decide) rfl dX9_wantedBy_81 ?_
    refine z_iadd hx hb dX9_wantedBy_84 ?_
    refine z_callS (As := [.long (lI (vw 3)), .int (iI (1000 + (LF N x 6)))]) (rest := []) F (c_X9_thousandths   (vw 3) (1000 + (LF N x 6))  (show 0 ≤ (vw 3) ∧ (vw 3) ≤ 999999 by omega) (show 0 ≤ (1000 + (LF N x 6)) ∧ (1000 + (LF N x 6)) ≤ 1999 by omega)) gX9_wantedBy_X9_thousandths rfl ziX9_thousandths ⟨rfl, rfl, by decide, by decide⟩ rfl hl.1 rfl (Nat.le_of_ble_eq_true rfl) dX9_wantedBy_85 ⟨Nat.zero_le _, Nat.zero_le _⟩ hW hA [] rfl (by decide) (fun _ => rfl) (fun _ => (kO cI cJ hw qw vw aw) ++ ((iW cI cJ hw qw vw aw) ++ (lW cI cJ he qe (LVf N x) ae))) (fun _ => rfl) (fun _ => [.int (iI (((vw 3) * (1000 + (LF N x 6))).tdiv 1000))]) (fun _ => rfl) (fun _ H locs hp85 hW => ?_)
    exact z_iret hx hb hr hlk hW () (by unfold WNT; rw [if_neg c4_1, if_neg c4_2, if_neg c4_3]) trivial rfl dX9_wantedBy_88
  exfalso; omega
theorem hiX9_held_X9 : ∀ w ∈ wsX90, w ∈ wsX9_held := fun _ h => List.mem_cons_of_mem _ (List.mem_append_left _ (List.mem_append_left _ (List.mem_append_right _ h)))
theorem hiX9_held_X2 : ∀ w ∈ wsX20, w ∈ wsX9_held := fun _ h => List.mem_cons_of_mem _ (List.mem_append_left _ (List.mem_append_right _ h))
theorem hiX9_held_X3 : ∀ w ∈ wsX30, w ∈ wsX9_held := fun _ h => List.mem_cons_of_mem _ (List.mem_append_right _ h)
theorem ziX9_held : yX9_held.cls = RX9 ∧ yX9_held.cls ≠ "java/lang/invoke/MethodHandle" ∧ yX9_held.cls ≠ "java/lang/invoke/VarHandle" ∧ (parseMethodDescriptor yX9_held.desc).map (fun d => d.parameters.length) = some 1 := by decide +kernel
set_option maxHeartbeats 4000000 in
set_option maxRecDepth 100000 in
theorem c_X9_held {l : Launch} {G : va_G} {cI cJ cO : ClassId} (N : Int → Int) (x : Int) (hw : Nat) (qw : Nat → Nat) (vw : Nat → Int) (aw : Nat → Int → Int) (he : Nat) (qe : Nat → Nat) (ae : Nat → Int → Int)   (h1 : 0 ≤ vw 4 ∧ vw 4 ≤ 999890001) (h2 : 1 ≤ vw 3 ∧ vw 3 ≤ 999999) (h3 : 0 ≤ vw 5 ∧ vw 5 ≤ vw 6 ∧ vw 6 ≤ 999999) (hL : WFl N x) : zC l yX9_held wsX9_held { frames := 1, cells := 0, slots := 0, locals := 24 } G (tyZ cI cJ cO) (S := Unit) [.ref hw, .ref he] ((kO cI cJ hw qw vw aw) ++ ((iW cI cJ hw qw vw aw) ++ (lW cI cJ he qe (LVf N x) ae))) (zI (fun _ => HLD N x (vw 4) (vw 3) (vw 5) (vw 6))) (fun _ => True) (fun _ => (kO cI cJ hw qw vw aw) ++ ((iW cI cJ hw qw vw aw) ++ (lW cI cJ he qe (LVf N x) ae))) 0 0 := by
  refine z_start (cc := cX9_held) (maxL := 3) (ret := (some .int)) (by decide) rfl (Nat.le_of_ble_eq_true rfl) ?_
  intro p e s m below meth c A ls F hr hlk hnm hAe hA hW hl
  have hx := F.1
  have hb := F.2.1
  have hown : s.vm.findClass RX9 = some m.cls := F.2.2.2.1
  have hts := F.2.2.2.2
  have hl : lv_has ls 3 [(0, .ref hw), (1, .ref he)] := hl
  obtain ⟨l0, l1, l2, l3, l4, l5, l6, l7, l8, l9, l10, l11, l12, l13, l14, l15⟩ := id hL
  refine lv_aload_n hx hb dX9_held_0 rfl (lv_at hl 0 rfl) ?_
  refine z_get (v := .int (iI (vw 4))) hx hb hts hiX9_held_X9 hown hW 0 4 1 rfl rfl rfl (by decide) rfl dX9_held_1 ?_
  refine lv_istore_n (lv' := [(2, .int (iI (vw 4))), (0, .ref hw), (1, .ref he)]) hx hb dX9_held_4 rfl hl (by decide) rfl (fun ls hl => ?_)
  refine z_join1 (fun (v1 : Int) (ls : Array Slot) (H : Heap) (locs : List Loc) => (v1 = HLD1 N x (vw 4) (vw 3)) ∧ (0 ≤ v1 ∧ v1 ≤ 999890001) ∧ zW G (tyZ cI cJ cO) A s ((kO cI cJ hw qw vw aw) ++ ((iW cI cJ hw qw vw aw) ++ (lW cI cJ he qe (LVf N x) ae))) H locs ∧ lv_has ls 3 [(2, .int (iI v1)), (0, .ref hw), (1, .ref he)]) 63 (fun v1 => []) ?_ ?_
  · intro v1 ls H locs hJ
    obtain ⟨j1, j2, hW, hl⟩ := hJ
    refine z_join1 (fun (v2 : Int) (ls : Array Slot) (H : Heap) (locs : List Loc) => (v2 = HLD2 N x v1 (vw 5) (vw 6)) ∧ (0 ≤ v2 ∧ v2 ≤ 999890001) ∧ zW G (tyZ cI cJ cO) A s ((kO cI cJ hw qw vw aw) ++ ((iW cI cJ hw qw vw aw) ++ (lW cI cJ he qe (LVf N x) ae))) H locs ∧ lv_has ls 3 [(2, .int (iI v2)), (0, .ref hw), (1, .ref he)]) 89 (fun v2 => []) ?_ ?_
    · intro v2 ls H locs hJ
      obtain ⟨j3, j4, hW, hl⟩ := hJ
      refine z_join1 (fun (v3 : Int) (ls : Array Slot) (H : Heap) (locs : List Loc) => (v3 = HLD3 N x v2 (vw 3)) ∧ (0 ≤ v3 ∧ v3 ≤ 999890001) ∧ zW G (tyZ cI cJ cO) A s ((kO cI cJ hw qw vw aw) ++ ((iW cI cJ hw qw vw aw) ++ (lW cI cJ he qe (LVf N x) ae))) H locs ∧ lv_has ls 3 [(2, .int (iI v3)), (0, .ref hw), (1, .ref he)]) 105 (fun v3 => []) ?_ ?_
      · intro v3 ls H locs hJ
        obtain ⟨j5, j6, hW, hl⟩ := hJ
        have z4 := zmax_is v3 1
        refine lv_iload_n hx hb dX9_held_105 rfl (lv_at hl 0 rfl) ?_
        refine z_iconst (n := 1) hx hb dX9_held_106 ?_
        refine z_mmax F hl.1 6 7 8 9 rfl rfl rfl rfl (by decide) (Nat.le_of_ble_eq_true rfl) ⟨Nat.zero_le _, Nat.zero_le _⟩ ⟨by omega, by omega⟩ (by decide) dX9_held_107 ?_
        refine z_ldc hx hb (999999) hown (hts _ (List.mem_of_getElem? (i := 18) rfl)) (by decide +kernel) dX9_held_110 ?_
        refine z_mmin F hl.1 11 12 8 13 rfl rfl rfl rfl (by decide) (Nat.le_of_ble_eq_true rfl) ⟨Nat.zero_le _, Nat.zero_le _⟩ ⟨by omega, by omega⟩ (by decide) dX9_held_112 ?_
        exact z_iret hx hb hr hlk hW () (by unfold HLD; rw [← j1, ← j3, ← j5, zmm (by decide)]) trivial rfl dX9_held_115
      · intro J3
        refine lv_aload_n hx hb dX9_held_89 rfl (lv_at hl 2 rfl) ?_
        refine z_get (v := .int (iI (bI (zand (LF N x 7) 8 ≠ 0)))) hx hb hts hiX9_held_X2 hown hW 2 11 17 rfl rfl rfl (by decide) rfl dX9_held_90 ?_
        refine z_b_eq (tgt := 105) hx hb dX9_held_93 (by decide) (fun c93 => ?_) (fun c93 => ?_)
        · exact J3 v2 _ _ _ ⟨(by first | (unfold HLD3 zmax; split <;> first | exact (if_pos ⟨c93, by omega⟩).symm | exact (if_neg (fun q9 => by have q8 := q9.2; omega)).symm) | (unfold HLD3; exact (if_neg (fun q9 => absurd q9.1 c93)).symm)), (by first | omega | (have z1 := zmax_is v2 (vw 3); omega)), hW, (lv_sub hl [0, 1, 2] rfl)⟩
        · refine lv_iload_n hx hb dX9_held_96 rfl (lv_at hl 0 rfl) ?_
          refine lv_aload_n hx hb dX9_held_97 rfl (lv_at hl 1 rfl) ?_
          refine z_get (v := .int (iI (vw 3))) hx hb hts hiX9_held_X9 hown hW 0 3 4 rfl rfl rfl (by decide) rfl dX9_held_98 ?_
          refine z_mmax F hl.1 6 7 8 9 rfl rfl rfl rfl (by decide) (Nat.le_of_ble_eq_true rfl) ⟨Nat.zero_le _, Nat.zero_le _⟩ ⟨by omega, by omega⟩ ⟨by omega, by omega⟩ dX9_held_101 ?_
          refine lv_istore_n (lv' := [(2, .int (iI (zmax v2 (vw 3)))), (0, .ref hw), (1, .ref he)]) hx hb dX9_held_104 rfl hl (by decide) rfl (fun ls hl => ?_)
          exact J3 (zmax v2 (vw 3)) _ _ _ ⟨(by first | (unfold HLD3 zmax; split <;> first | exact (if_pos ⟨c93, by omega⟩).symm | exact (if_neg (fun q9 => by have q8 := q9.2; omega)).symm) | (unfold HLD3; exact (if_neg (fun q9 => absurd q9.1 c93)).symm)), (by first | omega | (have z1 := zmax_is v2 (vw 3); omega)), hW, (lv_sub hl [0, 1, 2] rfl)⟩
    · intro J5
      refine lv_aload_n hx hb dX9_held_63 rfl (lv_at hl 2 rfl) ?_
      refine z_get (v := .ref (qe 1)) hx hb hts hiX9_held_X2 hown hW 2 1 14 rfl rfl rfl (by decide) rfl dX9_held_64 ?_
      refine z_get (v := .int (iI (bI (zand (LF N x 7) 4 ≠ 0)))) hx hb hts hiX9_held_X3 hown hW 4 0 3 rfl rfl rfl (by decide) rfl dX9_held_67 ?_
      refine z_b_eq (tgt := 89) hx hb dX9_held_70 (by decide) (fun c70 => ?_) (fun c70 => ?_)
      · exact J5 v1 _ _ _ ⟨(by unfold HLD2; first | (rw [if_pos c70, zmm (by omega)]; done) | exact (if_neg c70).symm), (by first | omega | (have z1 := zmax_is v1 (vw 5); have z2 := zmin_is (zmax v1 (vw 5)) (vw 6); omega)), hW, (lv_sub hl [0, 1, 2] rfl)⟩
      · have z3 := zmax_is v1 (vw 5)
        refine lv_iload_n hx hb dX9_held_73 rfl (lv_at hl 0 rfl) ?_
        refine lv_aload_n hx hb dX9_held_74 rfl (lv_at hl 1 rfl) ?_
        refine z_get (v := .int (iI (vw 5))) hx hb hts hiX9_held_X9 hown hW 0 5 15 rfl rfl rfl (by decide) rfl dX9_held_75 ?_
        refine z_mmax F hl.1 6 7 8 9 rfl rfl rfl rfl (by decide) (Nat.le_of_ble_eq_true rfl) ⟨Nat.zero_le _, Nat.zero_le _⟩ ⟨by omega, by omega⟩ ⟨by omega, by omega⟩ dX9_held_78 ?_
        refine lv_aload_n hx hb dX9_held_81 rfl (lv_at hl 1 rfl) ?_
        refine z_get (v := .int (iI (vw 6))) hx hb hts hiX9_held_X9 hown hW 0 6 16 rfl rfl rfl (by decide) rfl dX9_held_82 ?_
        refine z_mmin F hl.1 11 12 8 13 rfl rfl rfl rfl (by decide) (Nat.le_of_ble_eq_true rfl) ⟨Nat.zero_le _, Nat.zero_le _⟩ ⟨by omega, by omega⟩ ⟨by omega, by omega⟩ dX9_held_85 ?_
        refine lv_istore_n (lv' := [(2, .int (iI (zmin (zmax v1 (vw 5)) (vw 6)))), (0, .ref hw), (1, .ref he)]) hx hb dX9_held_88 rfl hl (by decide) rfl (fun ls hl => ?_)
        exact J5 (zmin (zmax v1 (vw 5)) (vw 6)) _ _ _ ⟨(by unfold HLD2; first | (rw [if_pos c70, zmm (by omega)]; done) | exact (if_neg c70).symm), (by first | omega | (have z1 := zmax_is v1 (vw 5); have z2 := zmin_is (zmax v1 (vw 5)) (vw 6); omega)), hW, (lv_sub hl [0, 1, 2] rfl)⟩
  · intro J8
    refine lv_aload_n hx hb dX9_held_5 rfl (lv_at hl 2 rfl) ?_
    refine z_get (v := .ref (qe 0)) hx hb hts hiX9_held_X2 hown hW 2 0 2 rfl rfl rfl (by decide) rfl dX9_held_6 ?_
    refine z_get (v := .int (iI (bI (zand (LF N x 7) 2 ≠ 0)))) hx hb hts hiX9_held_X3 hown hW 3 0 3 rfl rfl rfl (by decide) rfl dX9_held_9 ?_
    refine z_b_eq (tgt := 63) hx hb dX9_held_12 (by decide) (fun c12 => ?_) (fun c12 => ?_)
    · exact J8 (vw 4) _ _ _ ⟨(by first | exact HLD1_z hL h2 c12 | (unfold HLD1; exact (if_neg c12).symm)), (by first | omega | (have z1 := zmax_is (vw 4) ((vw 3 * (1000 - LF N x 8)).tdiv 1000); have z2 := zmin_is (zmax (vw 4) ((vw 3 * (1000 - LF N x 8)).tdiv 1000)) ((vw 3 * (1000 + LF N x 9)).tdiv 1000); omega)), hW, (lv_sub hl [0, 1, 2] rfl)⟩
    · have t1 := thou_P (a := vw 3) (f := 1000 - LF N x 8) (by omega) (by omega)
      have t2 := thou_P (a := vw 3) (f := 1000 + LF N x 9) (by omega) (by omega)
      have z1 := zmax_is (vw 4) ((vw 3 * (1000 - LF N x 8)).tdiv 1000)
      refine lv_iload_n hx hb dX9_held_15 rfl (lv_at hl 0 rfl) ?_
      refine lv_aload_n hx hb dX9_held_16 rfl (lv_at hl 1 rfl) ?_
      refine z_get (v := .int (iI (vw 3))) hx hb hts hiX9_held_X9 hown hW 0 3 4 rfl rfl rfl (by decide) rfl dX9_held_17 ?_
      refine z_i2l hx hb dX9_held_20 ⟨by omega, by omega⟩ ?_
      refine z_sipush hx hb dX9_held_21 (by decide +kernel) ?_
      refine lv_aload_n hx hb dX9_held_24 rfl (lv_at hl 2 rfl) ?_
      refine z_get (v := .ref (qe 0)) hx hb hts hiX9_held_X2 hown hW 2 0 2 rfl rfl rfl (by decide) rfl dX9_held_25 ?_
      refine z_get (v := .int (iI (LF N x 8))) hx hb hts hiX9_held_X3 hown hW 3 1 5 rfl rfl rfl (by decide) rfl dX9_held_28 ?_
      refine z_isub hx hb dX9_held_31 ?_
      refine z_callS (As := [.long (lI (vw 3)), .int (iI (1000 - (LF N x 8)))]) (rest := [.int (iI (vw 4))]) F (c_X9_thousandths   (vw 3) (1000 - (LF N x 8))  (show 0 ≤ (vw 3) ∧ (vw 3) ≤ 999999 by omega) (show 0 ≤ (1000 - (LF N x 8)) ∧ (1000 - (LF N x 8)) ≤ 1999 by omega)) gX9_held_X9_thousandths rfl ziX9_thousandths ⟨rfl, rfl, by decide, by decide⟩ rfl hl.1 rfl (Nat.le_of_ble_eq_true rfl) dX9_held_32 ⟨Nat.zero_le _, Nat.zero_le _⟩ hW hA [] rfl (by decide) (fun _ => rfl) (fun _ => (kO cI cJ hw qw vw aw) ++ ((iW cI cJ hw qw vw aw) ++ (lW cI cJ he qe (LVf N x) ae))) (fun _ => rfl) (fun _ => [.int (iI (((vw 3) * (1000 - (LF N x 8))).tdiv 1000)), .int (iI (vw 4))]) (fun _ => rfl) (fun _ H locs hp32 hW => ?_)
      refine z_mmax F hl.1 6 7 8 9 rfl rfl rfl rfl (by decide) (Nat.le_of_ble_eq_true rfl) ⟨Nat.zero_le _, Nat.zero_le _⟩ ⟨by omega, by omega⟩ ⟨by omega, by omega⟩ dX9_held_35 ?_
      refine lv_istore_n (lv' := [(2, .int (iI (zmax (vw 4) (((vw 3) * (1000 - (LF N x 8))).tdiv 1000)))), (0, .ref hw), (1, .ref he)]) hx hb dX9_held_38 rfl hl (by decide) rfl (fun ls hl => ?_)
      refine lv_iload_n hx hb dX9_held_39 rfl (lv_at hl 0 rfl) ?_
      refine lv_aload_n hx hb dX9_held_40 rfl (lv_at hl 1 rfl) ?_
      refine z_get (v := .int (iI (vw 3))) hx hb hts hiX9_held_X9 hown hW 0 3 4 rfl rfl rfl (by decide) rfl dX9_held_41 ?_
      refine z_i2l hx hb dX9_held_44 ⟨by omega, by omega⟩ ?_
      refine z_sipush hx hb dX9_held_45 (by decide +kernel) ?_
      refine lv_aload_n hx hb dX9_held_48 rfl (lv_at hl 2 rfl) ?_
      refine z_get (v := .ref (qe 0)) hx hb hts hiX9_held_X2 hown hW 2 0 2 rfl rfl rfl (by decide) rfl dX9_held_49 ?_
      refine z_get (v := .int (iI (LF N x 9))) hx hb hts hiX9_held_X3 hown hW 3 2 10 rfl rfl rfl (by decide) rfl dX9_held_52 ?_
      refine z_iadd hx hb dX9_held_55 ?_
      refine z_callS (As := [.long (lI (vw 3)), .int (iI (1000 + (LF N x 9)))]) (rest := [.int (iI (zmax (vw 4) (((vw 3) * (1000 - (LF N x 8))).tdiv 1000)))]) F (c_X9_thousandths   (vw 3) (1000 + (LF N x 9))  (show 0 ≤ (vw 3) ∧ (vw 3) ≤ 999999 by omega) (show 0 ≤ (1000 + (LF N x 9)) ∧ (1000 + (LF N x 9)) ≤ 1999 by omega)) gX9_held_X9_thousandths rfl ziX9_thousandths ⟨rfl, rfl, by decide, by decide⟩ rfl hl.1 rfl (Nat.le_of_ble_eq_true rfl) dX9_held_56 ⟨Nat.zero_le _, Nat.zero_le _⟩ hW hA [] rfl (by decide) (fun _ => rfl) (fun _ => (kO cI cJ hw qw vw aw) ++ ((iW cI cJ hw qw vw aw) ++ (lW cI cJ he qe (LVf N x) ae))) (fun _ => rfl) (fun _ => [.int (iI (((vw 3) * (1000 + (LF N x 9))).tdiv 1000)), .int (iI (zmax (vw 4) (((vw 3) * (1000 - (LF N x 8))).tdiv 1000)))]) (fun _ => rfl) (fun _ H locs hp56 hW => ?_)
      refine z_mmin F hl.1 11 12 8 13 rfl rfl rfl rfl (by decide) (Nat.le_of_ble_eq_true rfl) ⟨Nat.zero_le _, Nat.zero_le _⟩ ⟨by omega, by omega⟩ ⟨by omega, by omega⟩ dX9_held_59 ?_
      refine lv_istore_n (lv' := [(2, .int (iI (zmin (zmax (vw 4) (((vw 3) * (1000 - (LF N x 8))).tdiv 1000)) (((vw 3) * (1000 + (LF N x 9))).tdiv 1000)))), (0, .ref hw), (1, .ref he)]) hx hb dX9_held_62 rfl hl (by decide) rfl (fun ls hl => ?_)
      exact J8 (zmin (zmax (vw 4) (((vw 3) * (1000 - (LF N x 8))).tdiv 1000)) (((vw 3) * (1000 + (LF N x 9))).tdiv 1000)) _ _ _ ⟨(by first | exact HLD1_z hL h2 c12 | (unfold HLD1; exact (if_neg c12).symm)), (by first | omega | (have z1 := zmax_is (vw 4) ((vw 3 * (1000 - LF N x 8)).tdiv 1000); have z2 := zmin_is (zmax (vw 4) ((vw 3 * (1000 - LF N x 8)).tdiv 1000)) ((vw 3 * (1000 + LF N x 9)).tdiv 1000); omega)), hW, (lv_sub hl [0, 1, 2] rfl)⟩
