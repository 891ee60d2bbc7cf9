/-! the class: the walk -/
/-- the walk's row holds the index where the lease goes by it -/
abbrev rowI (N : Int → Int) (x k : Int) (f : Int → Int) : Prop := LF N x 5 = 1 → f = IX0 N k
theorem HLD1_z {N : Int → Int} {x w was : Int} (hL : WFl N x) (hw : 1 ≤ was ∧ was ≤ 999999) (hp : zand (LF N x 7) 2 ≠ 0) : zmin (zmax w ((was * (1000 - LF N x 8)).tdiv 1000)) ((was * (1000 + LF N x 9)).tdiv 1000) = HLD1 N x w was := by
  obtain ⟨l0, l1, l2, l3, l4, l5, l6, l7, l8, l9, l10, l11, l12, l13, l14, l15⟩ := hL
  have m1 : was * (1000 - LF N x 8) ≤ was * (1000 + LF N x 9) := Int.mul_le_mul_of_nonneg_left (by omega) (by omega)
  have m0 : 0 ≤ was * (1000 - LF N x 8) := Int.mul_nonneg (by omega) (by omega)
  have d1 := tdiv_P (a := was * (1000 - LF N x 8)) (b := 1000) m0 (by decide)
  have d2 := tdiv_P (a := was * (1000 + LF N x 9)) (b := 1000) (by omega) (by decide)
  unfold HLD1
  rw [if_pos hp, zmm (by omega)]
theorem tsm_last {N : Int → Int} {x k i : Int} {n : Nat} (h : ¬ tsm N x k i n < 0) (hk : ¬ (LF N x (260 + (i + (n : Int))) = 0 ∨ k < LF N x (380 + (i + (n : Int))))) : tsm N x k i (n + 1) = tsm N x k i n + (LF N x (260 + (i + (n : Int))) - 1) := by
  show (if tsm N x k i n < 0 then -1 else if LF N x (260 + (i + (n : Int))) = 0 ∨ k < LF N x (380 + (i + (n : Int))) then -1 else tsm N x k i n + (LF N x (260 + (i + (n : Int))) - 1)) = _
  rw [if_neg h, if_neg hk]
theorem hiX9_knowIndex_X9 : ∀ w ∈ wsX90, w ∈ wsX9_knowIndex := fun _ h => List.mem_cons_of_mem _ (List.mem_append_left _ (List.mem_append_right _ h))
theorem hiX9_knowIndex_X8 : ∀ w ∈ wsX80, w ∈ wsX9_knowIndex := fun _ h => List.mem_cons_of_mem _ (List.mem_append_right _ h)
theorem ziX9_knowIndex : yX9_knowIndex.cls = RX9 ∧ yX9_knowIndex.cls ≠ "java/lang/invoke/MethodHandle" ∧ yX9_knowIndex.cls ≠ "java/lang/invoke/VarHandle" ∧ (parseMethodDescriptor yX9_knowIndex.desc).map (fun d => d.parameters.length) = some 2 := by decide +kernel
set_option maxHeartbeats 4000000 in
set_option maxRecDepth 100000 in
theorem c_X9_knowIndex {l : Launch} {G : va_G} {cI cJ cO : ClassId} (N : Int → Int) (hw : Nat) (qw : Nat → Nat) (vw : Nat → Int) (aw : Nat → Int → Int) (hv : Nat) (qv : Nat → Nat) (vv : Nat → Int) (av : Nat → Int → Int) (k : Int)  (h1 : -2147483648 ≤ k ∧ k < 2147483648) (hV : WFv N) (hRV : RV N av) : zC l yX9_knowIndex wsX9_knowIndex { frames := 2, cells := 0, slots := 0, locals := 49 } G (tyZ cI cJ cO) (S := Unit) [.ref hw, .ref hv, .int (iI k)] ((kO cI cJ hw qw vw aw) ++ ((iW cI cJ hw qw vw aw) ++ (vW cI cJ hv qv vv av))) (zN) (fun _ => True) (fun _ => (kO cI cJ hw qw vw (uA aw 0 (IX0 N k))) ++ ((iW cI cJ hw qw vw (uA aw 0 (IX0 N k))) ++ (vW cI cJ hv qv vv av))) 0 0 := by
  refine z_start (cc := cX9_knowIndex) (maxL := 3) (ret := none) (by decide) rfl (Nat.le_of_ble_eq_true rfl) ?_
  intro p e s m below meth c A ls F hr hlk hnm hAe hA hW hl
  have hx := F.1
  have hb := F.2.1
  have hown : s.vm.findClass RX9 = some m.cls := F.2.2.2.1
  have hts := F.2.2.2.2
  have hl : lv_has ls 3 [(0, .ref hw), (1, .ref hv), (2, .int (iI k))] := hl
  refine lv_aload_n hx hb dX9_knowIndex_0 rfl (lv_at hl 1 rfl) ?_
  refine lv_aload_n hx hb dX9_knowIndex_1 rfl (lv_at hl 0 rfl) ?_
  refine z_get (v := .ref (qw 0)) hx hb hts hiX9_knowIndex_X9 hown hW 0 0 1 rfl rfl rfl (by decide) rfl dX9_knowIndex_2 ?_
  refine lv_iload_n hx hb dX9_knowIndex_5 rfl (lv_at hl 2 rfl) ?_
  refine z_callV (As := [.ref (qw 0), .int (iI k)]) (rest := []) F (c_X8_fillIndex N hv qv vv av hw qw vw aw k  (show -2147483648 ≤ k ∧ k < 2147483648 by omega) hV hRV) gX9_knowIndex_X8_fillIndex rfl ziX8_fillIndex ⟨rfl, rfl, by decide, by decide⟩ rfl hl.1 rfl (Nat.le_of_ble_eq_true rfl) dX9_knowIndex_6 ⟨Nat.zero_le _, Nat.zero_le _⟩ hW hA [2, 3, 4, 1] rfl (by decide) (fun _ => rfl) (fun _ => (kO cI cJ hw qw vw aw) ++ ((iW cI cJ hw qw vw (uA aw 0 (IX0 N k))) ++ (vW cI cJ hv qv vv av))) (fun _ => rfl) (fun _ => []) (fun _ => rfl) 2 rfl rfl rfl (fun _ H locs hp6 hW => ?_)
  have hW : zW G (tyZ cI cJ cO) A s ((kO cI cJ hw qw vw aw) ++ ((iW cI cJ hw qw vw (uA aw 0 (IX0 N k))) ++ (vW cI cJ hv qv vv av))) H locs := hW
  exact z_vret hx hb hr hlk hW () trivial rfl dX9_knowIndex_9
theorem hiX9_begin_X9 : ∀ w ∈ wsX90, w ∈ wsX9_begin := fun _ h => List.mem_cons_of_mem _ (List.mem_append_left _ (List.mem_append_left _ (List.mem_append_right _ h)))
theorem hiX9_begin_X2 : ∀ w ∈ wsX20, w ∈ wsX9_begin := fun _ h => List.mem_cons_of_mem _ (List.mem_append_left _ (List.mem_append_right _ h))
theorem hiX9_begin_X8 : ∀ w ∈ wsX80, w ∈ wsX9_begin := fun _ h => List.mem_cons_of_mem _ (List.mem_append_right _ h)
theorem ziX9_begin : yX9_begin.cls = RX9 ∧ yX9_begin.cls ≠ "java/lang/invoke/MethodHandle" ∧ yX9_begin.cls ≠ "java/lang/invoke/VarHandle" ∧ (parseMethodDescriptor yX9_begin.desc).map (fun d => d.parameters.length) = some 3 := by decide +kernel
set_option maxHeartbeats 4000000 in
set_option maxRecDepth 100000 in
theorem c_X9_begin {l : Launch} {G : va_G} {cI cJ cO : ClassId} (N : Int → Int) (x : Int) (hw : Nat) (qw : Nat → Nat) (vw : Nat → Int) (aw : Nat → Int → Int) (he : Nat) (qe : Nat → Nat) (ae : Nat → Int → Int) (hv : Nat) (qv : Nat → Nat) (vv : Nat → Int) (av : Nat → Int → Int) (k : Int)  (h1 : -2147483648 ≤ k ∧ k < 2147483648) (hV : WFv N) (hL : WFl N x) (hRV : RV N av) : zC l yX9_begin wsX9_begin { frames := 3, cells := 0, slots := 0, locals := 71 } G (tyZ cI cJ cO) (S := (Int → Int)) [.ref hw, .ref he, .ref hv, .int (iI k)] ((kO cI cJ hw qw vw aw) ++ ((iW cI cJ hw qw vw aw) ++ ((lW cI cJ he qe (LVf N x) ae) ++ (vW cI cJ hv qv vv av)))) (zN) (fun u => rowI N x k u) (fun u => (kO cI cJ hw qw (uV (uV (uV (uV (uV (uV vw 1 k) 2 0) 3 (LF N x 2)) 4 (-1)) 5 (LF N x 2)) 6 (LF N x 2)) (uA aw 0 u)) ++ ((iW cI cJ hw qw (uV (uV (uV (uV (uV (uV vw 1 k) 2 0) 3 (LF N x 2)) 4 (-1)) 5 (LF N x 2)) 6 (LF N x 2)) (uA aw 0 u)) ++ ((lW cI cJ he qe (LVf N x) ae) ++ (vW cI cJ hv qv vv av)))) 0 0 := by
  refine z_start (cc := cX9_begin) (maxL := 4) (ret := none) (by decide) rfl (Nat.le_of_ble_eq_true rfl) ?_
  intro p e s m below meth c A ls F hr hlk hnm hAe hA hW hl
  have hx := F.1
  have hb := F.2.1
  have hown : s.vm.findClass RX9 = some m.cls := F.2.2.2.1
  have hts := F.2.2.2.2
  have hl : lv_has ls 4 [(0, .ref hw), (1, .ref he), (2, .ref hv), (3, .int (iI k))] := hl
  obtain ⟨l0, l1, l2, l3, l4, l5, l6, l7, l8, l9, l10, l11, l12, l13, l14, l15⟩ := id hL
  refine lv_aload_n hx hb dX9_begin_0 rfl (lv_at hl 0 rfl) ?_
  refine lv_iload_n hx hb dX9_begin_1 rfl (lv_at hl 3 rfl) ?_
  refine z_put hx hb hts hiX9_begin_X9 tyX9 tyX9_ok nmX9 hown hW 0 1 1 rfl rfl (by decide) (Nat.le_of_ble_eq_true rfl) rfl rfl rfl rfl dX9_begin_2 (fun H locs hW => ?_)
  have hW : zW G (tyZ cI cJ cO) A s ((kO cI cJ hw qw (uV vw 1 k) aw) ++ ((iW cI cJ hw qw vw aw) ++ ((lW cI cJ he qe (LVf N x) ae) ++ (vW cI cJ hv qv vv av)))) H locs := hW
  refine lv_aload_n hx hb dX9_begin_5 rfl (lv_at hl 0 rfl) ?_
  refine z_iconst (n := 0) hx hb dX9_begin_6 ?_
  refine z_put hx hb hts hiX9_begin_X9 tyX9 tyX9_ok nmX9 hown hW 0 2 2 rfl rfl (by decide) (Nat.le_of_ble_eq_true rfl) rfl rfl rfl rfl dX9_begin_7 (fun H locs hW => ?_)
  have hW : zW G (tyZ cI cJ cO) A s ((kO cI cJ hw qw (uV (uV vw 1 k) 2 0) aw) ++ ((iW cI cJ hw qw vw aw) ++ ((lW cI cJ he qe (LVf N x) ae) ++ (vW cI cJ hv qv vv av)))) H locs := hW
  refine lv_aload_n hx hb dX9_begin_10 rfl (lv_at hl 0 rfl) ?_
  refine lv_aload_n hx hb dX9_begin_11 rfl (lv_at hl 1 rfl) ?_
  refine z_get (v := .int (iI (LF N x 2))) hx hb hts hiX9_begin_X2 hown hW 2 6 3 rfl rfl rfl (by decide) rfl dX9_begin_12 ?_
  refine z_put hx hb hts hiX9_begin_X9 tyX9 tyX9_ok nmX9 hown hW 0 3 4 rfl rfl (by decide) (Nat.le_of_ble_eq_true rfl) rfl rfl rfl rfl dX9_begin_15 (fun H locs hW => ?_)
  have hW : zW G (tyZ cI cJ cO) A s ((kO cI cJ hw qw (uV (uV (uV vw 1 k) 2 0) 3 (LF N x 2)) aw) ++ ((iW cI cJ hw qw vw aw) ++ ((lW cI cJ he qe (LVf N x) ae) ++ (vW cI cJ hv qv vv av)))) H locs := hW
  refine lv_aload_n hx hb dX9_begin_18 rfl (lv_at hl 0 rfl) ?_
  refine z_iconst (n := -1) hx hb dX9_begin_19 ?_
  refine z_put hx hb hts hiX9_begin_X9 tyX9 tyX9_ok nmX9 hown hW 0 4 5 rfl rfl (by decide) (Nat.le_of_ble_eq_true rfl) rfl rfl rfl rfl dX9_begin_20 (fun H locs hW => ?_)
  have hW : zW G (tyZ cI cJ cO) A s ((kO cI cJ hw qw (uV (uV (uV (uV vw 1 k) 2 0) 3 (LF N x 2)) 4 (-1)) aw) ++ ((iW cI cJ hw qw vw aw) ++ ((lW cI cJ he qe (LVf N x) ae) ++ (vW cI cJ hv qv vv av)))) H locs := hW
  refine lv_aload_n hx hb dX9_begin_23 rfl (lv_at hl 0 rfl) ?_
  refine lv_aload_n hx hb dX9_begin_24 rfl (lv_at hl 1 rfl) ?_
  refine z_get (v := .int (iI (LF N x 2))) hx hb hts hiX9_begin_X2 hown hW 2 6 3 rfl rfl rfl (by decide) rfl dX9_begin_25 ?_
  refine z_put hx hb hts hiX9_begin_X9 tyX9 tyX9_ok nmX9 hown hW 0 5 6 rfl rfl (by decide) (Nat.le_of_ble_eq_true rfl) rfl rfl rfl rfl dX9_begin_28 (fun H locs hW => ?_)
  have hW : zW G (tyZ cI cJ cO) A s ((kO cI cJ hw qw (uV (uV (uV (uV (uV vw 1 k) 2 0) 3 (LF N x 2)) 4 (-1)) 5 (LF N x 2)) aw) ++ ((iW cI cJ hw qw vw aw) ++ ((lW cI cJ he qe (LVf N x) ae) ++ (vW cI cJ hv qv vv av)))) H locs := hW
  refine lv_aload_n hx hb dX9_begin_31 rfl (lv_at hl 0 rfl) ?_
  refine lv_aload_n hx hb dX9_begin_32 rfl (lv_at hl 1 rfl) ?_
  refine z_get (v := .int (iI (LF N x 2))) hx hb hts hiX9_begin_X2 hown hW 2 6 3 rfl rfl rfl (by decide) rfl dX9_begin_33 ?_
  refine z_put hx hb hts hiX9_begin_X9 tyX9 tyX9_ok nmX9 hown hW 0 6 7 rfl rfl (by decide) (Nat.le_of_ble_eq_true rfl) rfl rfl rfl rfl dX9_begin_36 (fun H locs hW => ?_)
  have hW : zW G (tyZ cI cJ cO) A s ((kO cI cJ hw qw (uV (uV (uV (uV (uV (uV vw 1 k) 2 0) 3 (LF N x 2)) 4 (-1)) 5 (LF N x 2)) 6 (LF N x 2)) aw) ++ ((iW cI cJ hw qw vw aw) ++ ((lW cI cJ he qe (LVf N x) ae) ++ (vW cI cJ hv qv vv av)))) H locs := hW
  refine lv_aload_n hx hb dX9_begin_39 rfl (lv_at hl 1 rfl) ?_
  refine z_get (v := .int (iI (LF N x 5))) hx hb hts hiX9_begin_X2 hown hW 2 9 8 rfl rfl rfl (by decide) rfl dX9_begin_40 ?_
  refine z_iconst (n := 1) hx hb dX9_begin_43 ?_
  refine z_icmp_ne (tgt := 53) hx hb dX9_begin_44 (by decide) ⟨by omega, by omega⟩ (by decide) (fun c44 => ?_) (fun c44 => ?_)
  · exact z_vret hx hb hr hlk hW (aw 0) (fun q9 => by first | rfl | exact absurd q9 (by omega)) rfl dX9_begin_53
  · refine lv_aload_n hx hb dX9_begin_47 rfl (lv_at hl 0 rfl) ?_
    refine lv_aload_n hx hb dX9_begin_48 rfl (lv_at hl 2 rfl) ?_
    refine lv_iload_n hx hb dX9_begin_49 rfl (lv_at hl 3 rfl) ?_
    refine z_callV (As := [.ref hv, .int (iI k)]) (rest := []) F (c_X9_knowIndex N hw qw (uV (uV (uV (uV (uV (uV vw 1 k) 2 0) 3 (LF N x 2)) 4 (-1)) 5 (LF N x 2)) 6 (LF N x 2)) aw hv qv vv av k  (show -2147483648 ≤ k ∧ k < 2147483648 by omega) hV hRV) gX9_begin_X9_knowIndex rfl ziX9_knowIndex ⟨rfl, rfl, by decide, by decide⟩ rfl hl.1 rfl (Nat.le_of_ble_eq_true rfl) dX9_begin_50 ⟨Nat.zero_le _, Nat.zero_le _⟩ hW hA [0, 1, 7, 8, 9] rfl (by decide) (fun _ => rfl) (fun _ => (kO cI cJ hw qw (uV (uV (uV (uV (uV (uV vw 1 k) 2 0) 3 (LF N x 2)) 4 (-1)) 5 (LF N x 2)) 6 (LF N x 2)) (uA aw 0 (IX0 N k))) ++ ((iW cI cJ hw qw vw (uA aw 0 (IX0 N k))) ++ ((lW cI cJ he qe (LVf N x) ae) ++ (vW cI cJ hv qv vv av)))) (fun _ => rfl) (fun _ => []) (fun _ => rfl) 0 rfl rfl rfl (fun _ H locs hp50 hW => ?_)
    have hW : zW G (tyZ cI cJ cO) A s ((kO cI cJ hw qw (uV (uV (uV (uV (uV (uV vw 1 k) 2 0) 3 (LF N x 2)) 4 (-1)) 5 (LF N x 2)) 6 (LF N x 2)) (uA aw 0 (IX0 N k))) ++ ((iW cI cJ hw qw vw (uA aw 0 (IX0 N k))) ++ ((lW cI cJ he qe (LVf N x) ae) ++ (vW cI cJ hv qv vv av)))) H locs := hW
    exact z_vret hx hb hr hlk hW (IX0 N k) (fun q9 => by first | rfl | exact absurd q9 (by omega)) rfl dX9_begin_53
theorem hiX9_indexOf_X9 : ∀ w ∈ wsX90, w ∈ wsX9_indexOf := fun _ h => List.mem_cons_of_mem _ (List.mem_append_right _ h)
theorem ziX9_indexOf : yX9_indexOf.cls = RX9 ∧ yX9_indexOf.cls ≠ "java/lang/invoke/MethodHandle" ∧ yX9_indexOf.cls ≠ "java/lang/invoke/VarHandle" ∧ (parseMethodDescriptor yX9_indexOf.desc).map (fun d => d.parameters.length) = some 1 := by decide +kernel
set_option maxHeartbeats 4000000 in
set_option maxRecDepth 100000 in
theorem c_X9_indexOf {l : Launch} {G : va_G} {cI cJ cO : ClassId} (N : Int → Int) (hw : Nat) (qw : Nat → Nat) (vw : Nat → Int) (aw : Nat → Int → Int) (y : Int) (k : Int) (h1 : -2147483648 ≤ y ∧ y < 2147483648) (hI : aw 0 = IX0 N k) : zC l yX9_indexOf wsX9_indexOf { frames := 0, cells := 0, slots := 0, locals := 0 } G (tyZ cI cJ cO) (S := Unit) [.ref hw, .int (iI y)] ((kO cI cJ hw qw vw aw) ++ (iW cI cJ hw qw vw aw)) (zI (fun _ => IX0 N k y)) (fun _ => True) (fun _ => (kO cI cJ hw qw vw aw) ++ (iW cI cJ hw qw vw aw)) 0 0 := by
  refine z_start (cc := cX9_indexOf) (maxL := 2) (ret := (some .int)) (by decide) rfl (Nat.le_of_ble_eq_true rfl) ?_
  intro p e s m below meth c A ls F hr hlk hnm hAe hA hW hl
  have hx := F.1
  have hb := F.2.1
  have hown : s.vm.findClass RX9 = some m.cls := F.2.2.2.1
  have hts := F.2.2.2.2
  have hl : lv_has ls 2 [(0, .ref hw), (1, .int (iI y))] := hl
  refine lv_iload_n hx hb dX9_indexOf_0 rfl (lv_at hl 1 rfl) ?_
  refine z_if_lt (tgt := 22) hx hb dX9_indexOf_1 (by decide) ⟨by omega, by omega⟩ (fun c1 => ?_) (fun c1 => ?_)
  · refine z_iconst (n := 0) hx hb dX9_indexOf_22 ?_
    exact z_iret hx hb hr hlk hW () (by first | (rw [hI]; done) | (unfold IX0; exact if_pos (IDX_out (by omega)))) trivial rfl dX9_indexOf_23
  · refine lv_iload_n hx hb dX9_indexOf_4 rfl (lv_at hl 1 rfl) ?_
    refine lv_aload_n hx hb dX9_indexOf_5 rfl (lv_at hl 0 rfl) ?_
    refine z_get (v := .ref (qw 0)) hx hb hts hiX9_indexOf_X9 hown hW 0 0 1 rfl rfl rfl (by decide) rfl dX9_indexOf_6 ?_
    refine z_alen hx hb hW 1 0 rfl rfl dX9_indexOf_9 ?_
    refine W.eq (g2 := F0 m 10 ls [.int (iI 240), .int (iI y)]) rfl ?_
    refine z_icmp_ge (tgt := 22) hx hb dX9_indexOf_10 (by decide) ⟨by omega, by omega⟩ (by decide) (fun c10 => ?_) (fun c10 => ?_)
    · refine z_iconst (n := 0) hx hb dX9_indexOf_22 ?_
      exact z_iret hx hb hr hlk hW () (by first | (rw [hI]; done) | (unfold IX0; exact if_pos (IDX_out (by omega)))) trivial rfl dX9_indexOf_23
    · refine lv_aload_n hx hb dX9_indexOf_13 rfl (lv_at hl 0 rfl) ?_
      refine z_get (v := .ref (qw 0)) hx hb hts hiX9_indexOf_X9 hown hW 0 0 1 rfl rfl rfl (by decide) rfl dX9_indexOf_14 ?_
      refine lv_iload_n hx hb dX9_indexOf_17 rfl (lv_at hl 1 rfl) ?_
      refine z_iald (f := aw 0) (i := y) hx hb hW 1 0 rfl rfl (by decide) ⟨by omega, by omega⟩ dX9_indexOf_18 ?_
      refine lv_goto (tgt := 23) hx hb dX9_indexOf_19 (by decide) ?_
      exact z_iret hx hb hr hlk hW () (by first | (rw [hI]; done) | (unfold IX0; exact if_pos (IDX_out (by omega)))) trivial rfl dX9_indexOf_23
theorem ziX9_thousandths : yX9_thousandths.cls = RX9 ∧ yX9_thousandths.cls ≠ "java/lang/invoke/MethodHandle" ∧ yX9_thousandths.cls ≠ "java/lang/invoke/VarHandle" ∧ (parseMethodDescriptor yX9_thousandths.desc).map (fun d => d.parameters.length) = some 2 := by decide +kernel
set_option maxHeartbeats 4000000 in
set_option maxRecDepth 100000 in
theorem c_X9_thousandths {l : Launch} {G : va_G} {cI cJ cO : ClassId}   (z n : Int)  (h1 : 0 ≤ z ∧ z ≤ 999999) (h2 : 0 ≤ n ∧ n ≤ 1999) : zC l yX9_thousandths wsX9_thousandths { frames := 0, cells := 0, slots := 0, locals := 0 } G (tyZ cI cJ cO) (S := Unit) [.long (lI z), .int (iI n)] ([]) (zI (fun _ => (z * n).tdiv 1000)) (fun _ => True) (fun _ => []) 0 0 := by
  refine z_start (cc := cX9_thousandths) (maxL := 3) (ret := (some .int)) (by decide) rfl (Nat.le_of_ble_eq_true rfl) ?_
  intro p e s m below meth c A ls F hr hlk hnm hAe hA hW hl
  have hx := F.1
  have hb := F.2.1
  have hown : s.vm.findClass RX9 = some m.cls := F.2.2.2.1
  have hts := F.2.2.2.2
  have hl : lv_has ls 3 [(0, .long (lI z)), (2, .int (iI n))] := hl
  have mm := mul_P (P := 999999) (Q := 1999) h1 h2
  refine lv_lload_n hx hb dX9_thousandths_0 rfl (lv_at hl 0 rfl) ?_
  refine lv_iload_n hx hb dX9_thousandths_1 rfl (lv_at hl 1 rfl) ?_
  refine z_i2l hx hb dX9_thousandths_2 ⟨by omega, by omega⟩ ?_
  refine z_lmul hx hb dX9_thousandths_3 ?_
  refine z_ldc2 hx hb (1000) hown (hts _ (List.mem_of_getElem? (i := 1) rfl)) (by decide +kernel) dX9_thousandths_4 ?_
  refine z_ldiv hx hb dX9_thousandths_7 ⟨by omega, by omega⟩ (by decide) (by decide) (by omega) ?_
  refine z_l2i hx hb dX9_thousandths_8 ?_
  exact z_iret hx hb hr hlk hW () (by first | rfl | omega) trivial rfl dX9_thousandths_9
theorem hiX9_wantedByIndex_X2 : ∀ w ∈ wsX20, w ∈ wsX9_wantedByIndex := fun _ h => List.mem_cons_of_mem _ (List.mem_append_left _ (List.mem_append_right _ h))
theorem hiX9_wantedByIndex_X9 : ∀ w ∈ wsX90, w ∈ wsX9_wantedByIndex := fun _ h => List.mem_cons_of_mem _ (List.mem_append_right _ h)
theorem ziX9_wantedByIndex : yX9_wantedByIndex.cls = RX9 ∧ yX9_wantedByIndex.cls ≠ "java/lang/invoke/MethodHandle" ∧ yX9_wantedByIndex.cls ≠ "java/lang/invoke/VarHandle" ∧ (parseMethodDescriptor yX9_wantedByIndex.desc).map (fun d => d.parameters.length) = some 2 := by decide +kernel
set_option maxHeartbeats 4000000 in
set_option maxRecDepth 100000 in
theorem c_X9_wantedByIndex {l : Launch} {G : va_G} {cI cJ cO : ClassId} (N : Int → Int) (x : Int) (hw : Nat) (qw : Nat → Nat) (vw : Nat → Int) (aw : Nat → Int → Int) (he : Nat) (qe : Nat → Nat) (ae : Nat → Int → Int) (r : Int) (k : Int) (h1 : 0 ≤ r * LF N x 3 ∧ r * LF N x 3 ≤ 119) (hI : aw 0 = IX0 N k) (hV : WFv N) (hL : WFl N x) : zC l yX9_wantedByIndex wsX9_wantedByIndex { frames := 1, cells := 0, slots := 0, locals := 21 } G (tyZ cI cJ cO) (S := Unit) [.ref hw, .ref he, .int (iI r)] ((kO cI cJ hw qw vw aw) ++ ((iW cI cJ hw qw vw aw) ++ (lW cI cJ he qe (LVf N x) ae))) (zI (fun _ => BYI N x (LF N x 0 + r * LF N x 3) k)) (fun _ => True) (fun _ => (kO cI cJ hw qw vw aw) ++ ((iW cI cJ hw qw vw aw) ++ (lW cI cJ he qe (LVf N x) ae))) 0 0 := by
  refine z_start (cc := cX9_wantedByIndex) (maxL := 6) (ret := (some .int)) (by decide) rfl (Nat.le_of_ble_eq_true rfl) ?_
  intro p e s m below meth c A ls F hr hlk hnm hAe hA hW hl
  have hx := F.1
  have hb := F.2.1
  have hown : s.vm.findClass RX9 = some m.cls := F.2.2.2.1
  have hts := F.2.2.2.2
  have hl : lv_has ls 6 [(0, .ref hw), (1, .ref he), (2, .int (iI r))] := hl
  obtain ⟨l0, l1, l2, l3, l4, l5, l6, l7, l8, l9, l10, l11, l12, l13, l14, l15⟩ := id hL
  refine lv_aload_n hx hb dX9_wantedByIndex_0 rfl (lv_at hl 0 rfl) ?_
  refine lv_aload_n hx hb dX9_wantedByIndex_1 rfl (lv_at hl 1 rfl) ?_
  refine lv_iload_n hx hb dX9_wantedByIndex_2 rfl (lv_at hl 2 rfl) ?_
  refine z_callV (As := [.int (iI r)]) (rest := [.ref hw]) F (c_X2_reviewMonth  he qe (LVf N x) ae r  ) gX9_wantedByIndex_X2_reviewMonth rfl ziX2_reviewMonth ⟨rfl, rfl, by decide, by decide⟩ rfl hl.1 rfl (Nat.le_of_ble_eq_true rfl) dX9_wantedByIndex_3 ⟨Nat.zero_le _, Nat.zero_le _⟩ hW hA [2, 3, 4, 5, 6] rfl (by decide) (fun _ => rfl) (fun _ => (kO cI cJ hw qw vw aw) ++ ((iW cI cJ hw qw vw aw) ++ (lW cI cJ he qe (LVf N x) ae))) (fun _ => rfl) (fun _ => [.int (iI ((LF N x 0) + r * (LF N x 3))), .ref hw]) (fun _ => rfl) 2 rfl rfl rfl (fun _ H locs hp3 hW => ?_)
  refine lv_aload_n hx hb dX9_wantedByIndex_6 rfl (lv_at hl 1 rfl) ?_
  refine z_get (v := .int (iI (LF N x 6))) hx hb hts hiX9_wantedByIndex_X2 hown hW 2 10 1 rfl rfl rfl (by decide) rfl dX9_wantedByIndex_7 ?_
  refine z_isub hx hb dX9_wantedByIndex_10 ?_
  refine z_callV (As := [.int (iI (((LF N x 0) + r * (LF N x 3)) - (LF N x 6)))]) (rest := []) F (c_X9_indexOf N hw qw vw aw (((LF N x 0) + r * (LF N x 3)) - (LF N x 6)) k (show -2147483648 ≤ (((LF N x 0) + r * (LF N x 3)) - (LF N x 6)) ∧ (((LF N x 0) + r * (LF N x 3)) - (LF N x 6)) < 2147483648 by omega) hI) gX9_wantedByIndex_X9_indexOf rfl ziX9_indexOf ⟨rfl, rfl, by decide, by decide⟩ rfl hl.1 rfl (Nat.le_of_ble_eq_true rfl) dX9_wantedByIndex_11 ⟨Nat.zero_le _, Nat.zero_le _⟩ hW hA [0, 1] rfl (by decide) (fun _ => rfl) (fun _ => (kO cI cJ hw qw vw aw) ++ ((iW cI cJ hw qw vw aw) ++ (lW cI cJ he qe (LVf N x) ae))) (fun _ => rfl) (fun _ => [.int (iI (IX0 N k (((LF N x 0) + r * (LF N x 3)) - (LF N x 6))))]) (fun _ => rfl) 0 rfl rfl rfl (fun _ H locs hp11 hW => ?_)
  have x1 := IX0_R hV k (LF N x 0 + r * LF N x 3 - LF N x 6)
  refine z_i2l hx hb dX9_wantedByIndex_14 ⟨by omega, by omega⟩ ?_
  refine lv_lstore_n (lv' := [(3, .long (lI (IX0 N k (((LF N x 0) + r * (LF N x 3)) - (LF N x 6))))), (0, .ref hw), (1, .ref he), (2, .int (iI r))]) hx hb dX9_wantedByIndex_15 rfl hl (by decide) rfl (fun ls hl => ?_)
  refine lv_aload_n hx hb dX9_wantedByIndex_16 rfl (lv_at hl 1 rfl) ?_
  refine lv_aload_n hx hb dX9_wantedByIndex_17 rfl (lv_at hl 2 rfl) ?_
  refine z_get (v := .int (iI (LF N x 0))) hx hb hts hiX9_wantedByIndex_X2 hown hW 2 4 2 rfl rfl rfl (by decide) rfl dX9_wantedByIndex_18 ?_
  refine lv_aload_n hx hb dX9_wantedByIndex_21 rfl (lv_at hl 2 rfl) ?_
  refine z_get (v := .int (iI (LF N x 6))) hx hb hts hiX9_wantedByIndex_X2 hown hW 2 10 1 rfl rfl rfl (by decide) rfl dX9_wantedByIndex_22 ?_
  refine z_isub hx hb dX9_wantedByIndex_25 ?_
  refine z_callV (As := [.int (iI ((LF N x 0) - (LF N x 6)))]) (rest := []) F (c_X9_indexOf N hw qw vw aw ((LF N x 0) - (LF N x 6)) k (show -2147483648 ≤ ((LF N x 0) - (LF N x 6)) ∧ ((LF N x 0) - (LF N x 6)) < 2147483648 by omega) hI) gX9_wantedByIndex_X9_indexOf rfl ziX9_indexOf ⟨rfl, rfl, by decide, by decide⟩ rfl hl.1 rfl (Nat.le_of_ble_eq_true rfl) dX9_wantedByIndex_26 ⟨Nat.zero_le _, Nat.zero_le _⟩ hW hA [0, 1] rfl (by decide) (fun _ => rfl) (fun _ => (kO cI cJ hw qw vw aw) ++ ((iW cI cJ hw qw vw aw) ++ (lW cI cJ he qe (LVf N x) ae))) (fun _ => rfl) (fun _ => [.int (iI (IX0 N k ((LF N x 0) - (LF N x 6))))]) (fun _ => rfl) 0 rfl rfl rfl (fun _ H locs hp26 hW => ?_)
  refine lv_istore (lv' := [(5, .int (iI (IX0 N k ((LF N x 0) - (LF N x 6))))), (3, .long (lI (IX0 N k (((LF N x 0) + r * (LF N x 3)) - (LF N x 6))))), (0, .ref hw), (1, .ref he), (2, .int (iI r))]) hx hb dX9_wantedByIndex_29 hl (by decide) rfl (fun ls hl => ?_)
  have x2 := IX0_R hV k (LF N x 0 - LF N x 6)
  refine lv_lload_n hx hb dX9_wantedByIndex_31 rfl (lv_at hl 1 rfl) ?_
  refine z_lconst (z := 1) hx hb dX9_wantedByIndex_32 (by decide +kernel) ?_
  refine z_lcmp_lt (tgt := 43) hx hb dX9_wantedByIndex_33 dX9_wantedByIndex_34 (by decide) ⟨by omega, by omega⟩ (by decide) (fun c33 => ?_) (fun c33 => ?_)
  · refine z_iconst (n := -1) hx hb dX9_wantedByIndex_43 ?_
    exact z_iret hx hb hr hlk hW () (by unfold BYI; first | exact if_pos (by omega) | (rw [if_neg (by omega), show IX0 N k (LF N x 0 + r * LF N x 3 - LF N x 6) = IDX N (LF N x 0 + r * LF N x 3 - LF N x 6) k by omega, show IX0 N k (LF N x 0 - LF N x 6) = IDX N (LF N x 0 - LF N x 6) k by omega]; done)) trivial rfl dX9_wantedByIndex_44
  · refine lv_iload hx hb dX9_wantedByIndex_37 (lv_at hl 0 rfl) ?_
    refine z_iconst (n := 1) hx hb dX9_wantedByIndex_39 ?_
    refine z_icmp_ge (tgt := 45) hx hb dX9_wantedByIndex_40 (by decide) ⟨by omega, by omega⟩ (by decide) (fun c40 => ?_) (fun c40 => ?_)
    · have x3 := mul_P (p := LF N x 2) (q := IX0 N k (LF N x 0 + r * LF N x 3 - LF N x 6)) (P := 99999) (Q := 9999) (by omega) (by omega)
      refine lv_aload_n hx hb dX9_wantedByIndex_45 rfl (lv_at hl 3 rfl) ?_
      refine z_get (v := .int (iI (LF N x 2))) hx hb hts hiX9_wantedByIndex_X2 hown hW 2 6 3 rfl rfl rfl (by decide) rfl dX9_wantedByIndex_46 ?_
      refine z_i2l hx hb dX9_wantedByIndex_49 ⟨by omega, by omega⟩ ?_
      refine lv_lload_n hx hb dX9_wantedByIndex_50 rfl (lv_at hl 1 rfl) ?_
      refine z_lmul hx hb dX9_wantedByIndex_51 ?_
      refine lv_iload hx hb dX9_wantedByIndex_52 (lv_at hl 0 rfl) ?_
      refine z_i2l hx hb dX9_wantedByIndex_54 ⟨by omega, by omega⟩ ?_
      refine z_ldiv hx hb dX9_wantedByIndex_55 ⟨by omega, by omega⟩ ⟨by omega, by omega⟩ (by omega) (by omega) ?_
      refine z_l2i hx hb dX9_wantedByIndex_56 ?_
      exact z_iret hx hb hr hlk hW () (by unfold BYI; first | exact if_pos (by omega) | (rw [if_neg (by omega), show IX0 N k (LF N x 0 + r * LF N x 3 - LF N x 6) = IDX N (LF N x 0 + r * LF N x 3 - LF N x 6) k by omega, show IX0 N k (LF N x 0 - LF N x 6) = IDX N (LF N x 0 - LF N x 6) k by omega]; done)) trivial rfl dX9_wantedByIndex_57
    · refine z_iconst (n := -1) hx hb dX9_wantedByIndex_43 ?_
      exact z_iret hx hb hr hlk hW () (by unfold BYI; first | exact if_pos (by omega) | (rw [if_neg (by omega), show IX0 N k (LF N x 0 + r * LF N x 3 - LF N x 6) = IDX N (LF N x 0 + r * LF N x 3 - LF N x 6) k by omega, show IX0 N k (LF N x 0 - LF N x 6) = IDX N (LF N x 0 - LF N x 6) k by omega]; done)) trivial rfl dX9_wantedByIndex_44
