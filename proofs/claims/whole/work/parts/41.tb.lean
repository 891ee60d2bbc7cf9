/-! the model: words of a text -/
theorem hiX11_tapeAt_X11 : ∀ w ∈ wsX110, w ∈ wsX11_tapeAt := fun _ h => List.mem_cons_of_mem _ (List.mem_append_right _ h)
theorem ziX11_tapeAt : yX11_tapeAt.cls = RX11 ∧ yX11_tapeAt.cls ≠ "java/lang/invoke/MethodHandle" ∧ yX11_tapeAt.cls ≠ "java/lang/invoke/VarHandle" ∧ (parseMethodDescriptor yX11_tapeAt.desc).map (fun d => d.parameters.length) = some 1 := by decide +kernel
set_option maxHeartbeats 4000000 in
set_option maxRecDepth 100000 in
theorem c_tapeAt {l : Launch} {G : va_G} {cI cJ cO : ClassId} (h : Nat) (q : Nat → Nat) (v : Nat → Int) (a : Nat → Int → Int) (y : Int)  (h1 : 0 ≤ y ∧ y ≤ 640) (h3 : 0 ≤ v 3 ∧ v 3 ≤ 640) : zC l yX11_tapeAt wsX11_tapeAt { frames := 0, cells := 0, slots := 0, locals := 0 } G (tyZ cI cJ cO) (S := Unit) [.ref h, .int (iI y)] (mW cI cJ h q v a) (zI (fun _ => if y < v 3 then a 1 y else 0)) (fun _ => True) (fun _ => mW cI cJ h q v a) 0 0 := by
  refine z_start (cc := cX11_tapeAt) (maxL := 2) (ret := (some .int)) (by decide) rfl (Nat.le_of_ble_eq_true rfl) ?_
  intro p e s m below meth c A ls F hr hlk hnm hAe hA hW hl
  have hx := F.1
  have hb := F.2.1
  have hown : s.vm.findClass RX11 = some m.cls := F.2.2.2.1
  have hts := F.2.2.2.2
  have hl : lv_has ls 2 [(0, .ref h), (1, .int (iI y))] := hl
  refine lv_iload_n hx hb dX11_tapeAt_0 rfl (lv_at hl 1 rfl) ?_
  refine lv_aload_n hx hb dX11_tapeAt_1 rfl (lv_at hl 0 rfl) ?_
  refine z_get (v := .int (iI (v 3))) hx hb hts hiX11_tapeAt_X11 hown hW 0 3 1 rfl rfl rfl (by decide) rfl dX11_tapeAt_2 ?_
  refine z_icmp_ge (tgt := 17) hx hb dX11_tapeAt_5 (by decide) ⟨by omega, by omega⟩ ⟨by omega, by omega⟩ (fun c5 => ?_) (fun c5 => ?_)
  · refine z_iconst (n := 0) hx hb dX11_tapeAt_17 ?_
    exact z_iret hx hb hr hlk hW () (by first | exact (if_pos (by omega)).symm | exact (if_neg (by omega)).symm | exact if_pos (by omega) | exact if_neg (by omega)) trivial rfl dX11_tapeAt_18
  · refine lv_aload_n hx hb dX11_tapeAt_8 rfl (lv_at hl 0 rfl) ?_
    refine z_get (v := .ref (q 1)) hx hb hts hiX11_tapeAt_X11 hown hW 0 1 2 rfl rfl rfl (by decide) rfl dX11_tapeAt_9 ?_
    refine lv_iload_n hx hb dX11_tapeAt_12 rfl (lv_at hl 1 rfl) ?_
    refine z_iald (f := a 1) (i := y) hx hb hW 1 0 rfl rfl (by decide) ⟨by omega, by omega⟩ dX11_tapeAt_13 ?_
    refine lv_goto (tgt := 18) hx hb dX11_tapeAt_14 (by decide) ?_
    exact z_iret hx hb hr hlk hW () (by first | exact (if_pos (by omega)).symm | exact (if_neg (by omega)).symm | exact if_pos (by omega) | exact if_neg (by omega)) trivial rfl dX11_tapeAt_18
theorem ziX11_two : yX11_two.cls = RX11 ∧ yX11_two.cls ≠ "java/lang/invoke/MethodHandle" ∧ yX11_two.cls ≠ "java/lang/invoke/VarHandle" ∧ (parseMethodDescriptor yX11_two.desc).map (fun d => d.parameters.length) = some 2 := by decide +kernel
set_option maxHeartbeats 4000000 in
set_option maxRecDepth 100000 in
theorem c_two {l : Launch} {G : va_G} {cI cJ cO : ClassId}  (i1 i2 : Int)  (hi1 : 0 ≤ i1 ∧ i1 ≤ 255) (hi2 : 0 ≤ i2 ∧ i2 ≤ 255) : zC l yX11_two wsX11_two { frames := 0, cells := 0, slots := 0, locals := 0 } G (tyZ cI cJ cO) (S := Unit) [.int (iI i1), .int (iI i2)] ([]) (zL (fun _ => 27 * (i1 - 96) + i2 - 96)) (fun _ => True) (fun _ => []) 0 0 := by
  refine z_start (cc := cX11_two) (maxL := 2) (ret := (some .long)) (by decide) rfl (Nat.le_of_ble_eq_true rfl) ?_
  intro p e s m below meth c A ls F hr hlk hnm hAe hA hW hl
  have hx := F.1
  have hb := F.2.1
  have hown : s.vm.findClass RX11 = some m.cls := F.2.2.2.1
  have hts := F.2.2.2.2
  have hl : lv_has ls 2 [(0, .int (iI i1)), (1, .int (iI i2))] := hl
  refine z_ldc2 hx hb (27) hown (hts _ (List.mem_of_getElem? (i := 1) rfl)) (by decide +kernel) dX11_two_0 ?_
  refine lv_iload_n hx hb dX11_two_3 rfl (lv_at hl 0 rfl) ?_
  refine z_i2l hx hb dX11_two_4 ⟨by omega, by omega⟩ ?_
  refine z_ldc2 hx hb (96) hown (hts _ (List.mem_of_getElem? (i := 2) rfl)) (by decide +kernel) dX11_two_5 ?_
  refine z_lsub hx hb dX11_two_8 ?_
  refine z_lmul hx hb dX11_two_9 ?_
  refine lv_iload_n hx hb dX11_two_10 rfl (lv_at hl 1 rfl) ?_
  refine z_i2l hx hb dX11_two_11 ⟨by omega, by omega⟩ ?_
  refine z_ladd hx hb dX11_two_12 ?_
  refine z_ldc2 hx hb (96) hown (hts _ (List.mem_of_getElem? (i := 2) rfl)) (by decide +kernel) dX11_two_13 ?_
  refine z_lsub hx hb dX11_two_16 ?_
  exact z_lret hx hb hr hlk hW () (by first | rfl | omega) trivial rfl dX11_two_17
theorem ziX11_four : yX11_four.cls = RX11 ∧ yX11_four.cls ≠ "java/lang/invoke/MethodHandle" ∧ yX11_four.cls ≠ "java/lang/invoke/VarHandle" ∧ (parseMethodDescriptor yX11_four.desc).map (fun d => d.parameters.length) = some 4 := by decide +kernel
set_option maxHeartbeats 4000000 in
set_option maxRecDepth 100000 in
theorem c_four {l : Launch} {G : va_G} {cI cJ cO : ClassId}  (i1 i2 i3 i4 : Int)  (hi1 : 0 ≤ i1 ∧ i1 ≤ 255) (hi2 : 0 ≤ i2 ∧ i2 ≤ 255) (hi3 : 0 ≤ i3 ∧ i3 ≤ 255) (hi4 : 0 ≤ i4 ∧ i4 ≤ 255) : zC l yX11_four wsX11_four { frames := 1, cells := 0, slots := 0, locals := 21 } G (tyZ cI cJ cO) (S := Unit) [.int (iI i1), .int (iI i2), .int (iI i3), .int (iI i4)] ([]) (zL (fun _ => 729 * (27 * (i1 - 96) + i2 - 96) + (27 * (i3 - 96) + i4 - 96))) (fun _ => True) (fun _ => []) 0 0 := by
  refine z_start (cc := cX11_four) (maxL := 4) (ret := (some .long)) (by decide) rfl (Nat.le_of_ble_eq_true rfl) ?_
  intro p e s m below meth c A ls F hr hlk hnm hAe hA hW hl
  have hx := F.1
  have hb := F.2.1
  have hown : s.vm.findClass RX11 = some m.cls := F.2.2.2.1
  have hts := F.2.2.2.2
  have hl : lv_has ls 4 [(0, .int (iI i1)), (1, .int (iI i2)), (2, .int (iI i3)), (3, .int (iI i4))] := hl
  refine z_ldc2 hx hb (729) hown (hts _ (List.mem_of_getElem? (i := 1) rfl)) (by decide +kernel) dX11_four_0 ?_
  refine lv_iload_n hx hb dX11_four_3 rfl (lv_at hl 0 rfl) ?_
  refine lv_iload_n hx hb dX11_four_4 rfl (lv_at hl 1 rfl) ?_
  refine z_callS (As := [.int (iI i1), .int (iI i2)]) (rest := [.long (lI 729)]) F (c_two i1 i2  (show 0 ≤ i1 ∧ i1 ≤ 255 by omega) (show 0 ≤ i2 ∧ i2 ≤ 255 by omega)) gX11_four_X11_two rfl ziX11_two ⟨rfl, rfl, by decide, by decide⟩ rfl hl.1 rfl (Nat.le_of_ble_eq_true rfl) dX11_four_5 ⟨Nat.zero_le _, Nat.zero_le _⟩ hW hA [] rfl (by decide) (fun _ => rfl) (fun _ => []) (fun _ => rfl) (fun _ => [.long (lI (27 * (i1 - 96) + i2 - 96)), .long (lI 729)]) (fun _ => rfl) (fun _ H locs hp5 hW => ?_)
  refine z_lmul hx hb dX11_four_8 ?_
  refine lv_iload_n hx hb dX11_four_9 rfl (lv_at hl 2 rfl) ?_
  refine lv_iload_n hx hb dX11_four_10 rfl (lv_at hl 3 rfl) ?_
  refine z_callS (As := [.int (iI i3), .int (iI i4)]) (rest := [.long (lI (729 * (27 * (i1 - 96) + i2 - 96)))]) F (c_two i3 i4  (show 0 ≤ i3 ∧ i3 ≤ 255 by omega) (show 0 ≤ i4 ∧ i4 ≤ 255 by omega)) gX11_four_X11_two rfl ziX11_two ⟨rfl, rfl, by decide, by decide⟩ rfl hl.1 rfl (Nat.le_of_ble_eq_true rfl) dX11_four_11 ⟨Nat.zero_le _, Nat.zero_le _⟩ hW hA [] rfl (by decide) (fun _ => rfl) (fun _ => []) (fun _ => rfl) (fun _ => [.long (lI (27 * (i3 - 96) + i4 - 96)), .long (lI (729 * (27 * (i1 - 96) + i2 - 96)))]) (fun _ => rfl) (fun _ H locs hp11 hW => ?_)
  refine z_ladd hx hb dX11_four_14 ?_
  exact z_lret hx hb hr hlk hW () (by first | rfl | omega) trivial rfl dX11_four_15
theorem ziX11_five : yX11_five.cls = RX11 ∧ yX11_five.cls ≠ "java/lang/invoke/MethodHandle" ∧ yX11_five.cls ≠ "java/lang/invoke/VarHandle" ∧ (parseMethodDescriptor yX11_five.desc).map (fun d => d.parameters.length) = some 5 := by decide +kernel
set_option maxHeartbeats 4000000 in
set_option maxRecDepth 100000 in
theorem c_five {l : Launch} {G : va_G} {cI cJ cO : ClassId}  (i1 i2 i3 i4 i5 : Int)  (hi1 : 0 ≤ i1 ∧ i1 ≤ 255) (hi2 : 0 ≤ i2 ∧ i2 ≤ 255) (hi3 : 0 ≤ i3 ∧ i3 ≤ 255) (hi4 : 0 ≤ i4 ∧ i4 ≤ 255) (hi5 : 0 ≤ i5 ∧ i5 ≤ 255) : zC l yX11_five wsX11_five { frames := 2, cells := 0, slots := 0, locals := 44 } G (tyZ cI cJ cO) (S := Unit) [.int (iI i1), .int (iI i2), .int (iI i3), .int (iI i4), .int (iI i5)] ([]) (zL (fun _ => 27 * (729 * (27 * (i1 - 96) + i2 - 96) + (27 * (i3 - 96) + i4 - 96)) + i5 - 96)) (fun _ => True) (fun _ => []) 0 0 := by
  refine z_start (cc := cX11_five) (maxL := 5) (ret := (some .long)) (by decide) rfl (Nat.le_of_ble_eq_true rfl) ?_
  intro p e s m below meth c A ls F hr hlk hnm hAe hA hW hl
  have hx := F.1
  have hb := F.2.1
  have hown : s.vm.findClass RX11 = some m.cls := F.2.2.2.1
  have hts := F.2.2.2.2
  have hl : lv_has ls 5 [(0, .int (iI i1)), (1, .int (iI i2)), (2, .int (iI i3)), (3, .int (iI i4)), (4, .int (iI i5))] := hl
  refine z_ldc2 hx hb (27) hown (hts _ (List.mem_of_getElem? (i := 1) rfl)) (by decide +kernel) dX11_five_0 ?_
  refine lv_iload_n hx hb dX11_five_3 rfl (lv_at hl 0 rfl) ?_
  refine lv_iload_n hx hb dX11_five_4 rfl (lv_at hl 1 rfl) ?_
  refine lv_iload_n hx hb dX11_five_5 rfl (lv_at hl 2 rfl) ?_
  refine lv_iload_n hx hb dX11_five_6 rfl (lv_at hl 3 rfl) ?_
  refine z_callS (As := [.int (iI i1), .int (iI i2), .int (iI i3), .int (iI i4)]) (rest := [.long (lI 27)]) F (c_four i1 i2 i3 i4  (show 0 ≤ i1 ∧ i1 ≤ 255 by omega) (show 0 ≤ i2 ∧ i2 ≤ 255 by omega) (show 0 ≤ i3 ∧ i3 ≤ 255 by omega) (show 0 ≤ i4 ∧ i4 ≤ 255 by omega)) gX11_five_X11_four rfl ziX11_four ⟨rfl, rfl, by decide, by decide⟩ rfl hl.1 rfl (Nat.le_of_ble_eq_true rfl) dX11_five_7 ⟨Nat.zero_le _, Nat.zero_le _⟩ hW hA [] rfl (by decide) (fun _ => rfl) (fun _ => []) (fun _ => rfl) (fun _ => [.long (lI (729 * (27 * (i1 - 96) + i2 - 96) + (27 * (i3 - 96) + i4 - 96))), .long (lI 27)]) (fun _ => rfl) (fun _ H locs hp7 hW => ?_)
  refine z_lmul hx hb dX11_five_10 ?_
  refine lv_iload hx hb dX11_five_11 (lv_at hl 4 rfl) ?_
  refine z_i2l hx hb dX11_five_13 ⟨by omega, by omega⟩ ?_
  refine z_ladd hx hb dX11_five_14 ?_
  refine z_ldc2 hx hb (96) hown (hts _ (List.mem_of_getElem? (i := 2) rfl)) (by decide +kernel) dX11_five_15 ?_
  refine z_lsub hx hb dX11_five_18 ?_
  exact z_lret hx hb hr hlk hW () (by first | rfl | omega) trivial rfl dX11_five_19
theorem ziX11_six : yX11_six.cls = RX11 ∧ yX11_six.cls ≠ "java/lang/invoke/MethodHandle" ∧ yX11_six.cls ≠ "java/lang/invoke/VarHandle" ∧ (parseMethodDescriptor yX11_six.desc).map (fun d => d.parameters.length) = some 6 := by decide +kernel
set_option maxHeartbeats 4000000 in
set_option maxRecDepth 100000 in
theorem c_six {l : Launch} {G : va_G} {cI cJ cO : ClassId}  (i1 i2 i3 i4 i5 i6 : Int)  (hi1 : 0 ≤ i1 ∧ i1 ≤ 255) (hi2 : 0 ≤ i2 ∧ i2 ≤ 255) (hi3 : 0 ≤ i3 ∧ i3 ≤ 255) (hi4 : 0 ≤ i4 ∧ i4 ≤ 255) (hi5 : 0 ≤ i5 ∧ i5 ≤ 255) (hi6 : 0 ≤ i6 ∧ i6 ≤ 255) : zC l yX11_six wsX11_six { frames := 2, cells := 0, slots := 0, locals := 44 } G (tyZ cI cJ cO) (S := Unit) [.int (iI i1), .int (iI i2), .int (iI i3), .int (iI i4), .int (iI i5), .int (iI i6)] ([]) (zL (fun _ => 729 * (729 * (27 * (i1 - 96) + i2 - 96) + (27 * (i3 - 96) + i4 - 96)) + (27 * (i5 - 96) + i6 - 96))) (fun _ => True) (fun _ => []) 0 0 := by
  refine z_start (cc := cX11_six) (maxL := 6) (ret := (some .long)) (by decide) rfl (Nat.le_of_ble_eq_true rfl) ?_
  intro p e s m below meth c A ls F hr hlk hnm hAe hA hW hl
  have hx := F.1
  have hb := F.2.1
  have hown : s.vm.findClass RX11 = some m.cls := F.2.2.2.1
  have hts := F.2.2.2.2
  have hl : lv_has ls 6 [(0, .int (iI i1)), (1, .int (iI i2)), (2, .int (iI i3)), (3, .int (iI i4)), (4, .int (iI i5)), (5, .int (iI i6))] := hl
  refine z_ldc2 hx hb (729) hown (hts _ (List.mem_of_getElem? (i := 1) rfl)) (by decide +kernel) dX11_six_0 ?_
  refine lv_iload_n hx hb dX11_six_3 rfl (lv_at hl 0 rfl) ?_
  refine lv_iload_n hx hb dX11_six_4 rfl (lv_at hl 1 rfl) ?_
  refine lv_iload_n hx hb dX11_six_5 rfl (lv_at hl 2 rfl) ?_
  refine lv_iload_n hx hb dX11_six_6 rfl (lv_at hl 3 rfl) ?_
  refine z_callS (As := [.int (iI i1), .int (iI i2), .int (iI i3), .int (iI i4)]) (rest := [.long (lI 729)]) F (c_four i1 i2 i3 i4  (show 0 ≤ i1 ∧ i1 ≤ 255 by omega) (show 0 ≤ i2 ∧ i2 ≤ 255 by omega) (show 0 ≤ i3 ∧ i3 ≤ 255 by omega) (show 0 ≤ i4 ∧ i4 ≤ 255 by omega)) gX11_six_X11_four rfl ziX11_four ⟨rfl, rfl, by decide, by decide⟩ rfl hl.1 rfl (Nat.le_of_ble_eq_true rfl) dX11_six_7 ⟨Nat.zero_le _, Nat.zero_le _⟩ hW hA [] rfl (by decide) (fun _ => rfl) (fun _ => []) (fun _ => rfl) (fun _ => [.long (lI (729 * (27 * (i1 - 96) + i2 - 96) + (27 * (i3 - 96) + i4 - 96))), .long (lI 729)]) (fun _ => rfl) (fun _ H locs hp7 hW => ?_)
  refine z_lmul hx hb dX11_six_10 ?_
  refine lv_iload hx hb dX11_six_11 (lv_at hl 4 rfl) ?_
  refine lv_iload hx hb dX11_six_13 (lv_at hl 5 rfl) ?_
  refine z_callS (As := [.int (iI i5), .int (iI i6)]) (rest := [.long (lI (729 * (729 * (27 * (i1 - 96) + i2 - 96) + (27 * (i3 - 96) + i4 - 96))))]) F (c_two i5 i6  (show 0 ≤ i5 ∧ i5 ≤ 255 by omega) (show 0 ≤ i6 ∧ i6 ≤ 255 by omega)) gX11_six_X11_two rfl ziX11_two ⟨rfl, rfl, by decide, by decide⟩ rfl hl.1 rfl (Nat.le_of_ble_eq_true rfl) dX11_six_15 ⟨Nat.zero_le _, Nat.zero_le _⟩ hW hA [] rfl (by decide) (fun _ => rfl) (fun _ => []) (fun _ => rfl) (fun _ => [.long (lI (27 * (i5 - 96) + i6 - 96)), .long (lI (729 * (729 * (27 * (i1 - 96) + i2 - 96) + (27 * (i3 - 96) + i4 - 96))))]) (fun _ => rfl) (fun _ H locs hp15 hW => ?_)
  refine z_ladd hx hb dX11_six_18 ?_
  exact z_lret hx hb hr hlk hW () (by first | rfl | omega) trivial rfl dX11_six_19
