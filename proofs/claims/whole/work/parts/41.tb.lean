/-! the model: words of a text -/
theorem hiX11_tapeAt_X11 : ∀ w ∈ wsX110, w ∈ wsX11_tapeAt := fun _ h => List.mem_cons_of_mem _ (List.mem_append_right _ h)
theorem ziX11_tapeAt : yX11_tapeAt.cls = RX11 ∧ yX11_tapeAt.cls ≠ "java/lang/invoke/MethodHandle" ∧ yX11_tapeAt.cls ≠ "java/lang/invoke/VarHandle" ∧ (parseMethodDescriptor yX11_tapeAt.desc).map (fun d => d.parameters.length) = some 1 := by decide +kernel
set_option maxHeartbeats 4000000 in
set_option maxRecDepth 100000 in
theorem c_tapeAt {l : Launch} {G : va_G} {cI cJ cO : ClassId} (h : Nat) (q : Nat → Nat) (v : Nat → Int) (a : Nat → Int → Int) (y : Int)  (h1 : 0 ≤ y ∧ y ≤ 640) (h3 : 0 ≤ v 3 ∧ v 3 ≤ 640) : zC l yX11_tapeAt wsX11_tapeAt { frames := 0, cells := 0, slots := 0, locals := 0 } G (tyZ cI cJ cO) (S := Unit) [.ref h, .int (iI y)] (mW cI cJ h q v a) (zI (fun _ => if y < v 3 then a 1 y else 0)) (fun _ => True) (fun _ => mW cI cJ h q v a) 0 0 := by
  refine z_start (cc := cX11_tapeAt) (maxL := 2) (ret := (some .int)) (by decide) rfl (Nat.le_of_ble_eq_true rfl) ?_
  intro p e s m below meth c A ls F hr hlk hnm hAe hA hW hl
  have hx := F.1
  have hb := F.2.1
  have hown : s.vm.findClass RX11 = some m.cls := F.2.2.2.1
  have hts := F.2.2.2.2
  have hl : lv_has ls 2 [(0, .ref h), (1, .int (iI y))] := hl
  refine lv_iload_n hx hb dX11_tapeAt_0 rfl (lv_at hl 1 rfl) ?_
  refine lv_aload_n hx hb dX11_tapeAt_1 rfl (lv_at hl 0 rfl) ?_
  refine z_get (v := .int (iI (v 3))) hx hb hts hiX11_tapeAt_X11 hown hW 0 3 1 rfl rfl rfl (by decide) rfl dX11_tapeAt_2 ?_
  refine z_icmp_ge (tgt := 17) hx hb dX11_tapeAt_5 (by decide) ⟨by omega, by omega⟩ ⟨by omega, by omega⟩ (fun c5 => ?_) (fun c5 => ?_)
  · refine z_iconst (n := 0) hx hb dX11_tapeAt_17 ?_
    exact z_iret hx hb hr hlk hW () (by first | exact (if_pos (by omega)).symm | exact (if_neg (by omega)).symm | exact if_pos (by omega) | exact if_neg (by omega)) trivial rfl dX11_tapeAt_18
  · refine lv_aload_n hx hb dX11_tapeAt_8 rfl (lv_at hl 0 rfl) ?_
    refine z_get (v := .ref (q 1)) hx hb hts hiX11_tapeAt_X11 hown hW 0 1 2 rfl rfl rfl (by decide) rfl dX11_tapeAt_9 ?_
    refine lv_iload_n hx hb dX11_tapeAt_12 rfl (lv_at hl 1 rfl) ?_
    refine z_iald (f := a 1) (i := y) hx hb hW 1 0 rfl rfl (by decide) ⟨by omega, by omega⟩ dX11_tapeAt_13 ?_
    refine lv_goto (tgt := 18) hx hb dX11_tapeAt_14 (by decide) ?_
    exact z_iret hx hb hr hlk hW () (by first | exact (if_pos (by omega)).symm | exact (if_neg (by omega)).symm | exact if_pos (by omega) | exact if_neg (by omega)) trivial rfl dX11_tapeAt_18
theorem ziX11_two : yX11_two.cls = RX11 ∧ yX11_two.cls ≠ "java/lang/invoke/MethodHandle" ∧ yX11_two.cls ≠ "java/lang/invoke/VarHandle" ∧ (parseMethodDescriptor yX11_two.desc).map (fun d => d.parameters.length) = some 2 := by decide +kernel
set_option maxHeartbeats 4000000 in
set_option maxRecDepth 100000 in
theorem c_two {l : Launch} {G : va_G} {cI cJ cO : ClassId}  (i1 i2 : Int)  (hi1 : 0 ≤ i1 ∧ i1 ≤ 255) (hi2 : 0 ≤ i2 ∧ i2 ≤ 255) : zC l yX11_two wsX11_two { frames := 0, cells := 0, slots := 0, locals := 0 } G (tyZ cI cJ cO) (S := Unit) [.int (iI i1), .int (iI i2)] ([]) (zL (fun _ => 27 * (i1 - 96) + i2 - 96)) (fun _ => True) (fun _ => []) 0 0 := by
  refine z_start (cc := cX11_two) (maxL := 2) (ret := (some .long)) (by decide) rfl (Nat.le_of_ble_eq_true rfl) ?_
  intro p e s m below meth c A ls F hr hlk hnm hAe hA hW hl
  have hx := F.1
  have hb := F.2.1
  have hown : s.vm.findClass RX11 = some m.cls := F.2.2.2.1
  have hts := F.2.2.2.2
  have hl : lv_has ls 2 [(0, .int (iI i1)), (1, .int (iI i2))] := hl
  refine z_ldc2 hx hb (27) hown (hts _ (List.mem_of_getElem? (i := 1) rfl)) (by decide +kernel) dX11_two_0 ?_
  refine lv_iload_n hx hb dX11_two_3 rfl (lv_at hl 0 rfl) ?_
  refine z_i2l hx hb dX11_two_4 ⟨by omega, by omega⟩ ?_
  refine z_ldc2 hx hb (96) hown (hts _ (List.mem_of_getElem? (i := 2) rfl)) (by decide +kernel) dX11_two_5 ?_
  refine z_lsub hx hb dX11_two_8 ?_
  refine z_lmul hx hb dX11_two_9 ?_
  refine lv_iload_n hx hb dX11_two_10 rfl (lv_at hl 1 rfl) ?_
  refine z_i2l hx hb dX11_two_11 ⟨by omega, by omega⟩ ?_
  refine z_ladd hx hb dX11_two_12 ?_
  refine z_ldc2 hx hb (96) hown (hts _ (List.mem_of_getElem? (i := 2) rfl)) (by decide +kernel) dX11_two_13 ?_
  refine z_lsub hx hb dX11_two_16 ?_
  exact z_lret hx hb hr hlk hW () (by first | rfl | omega) trivial rfl dX11_two_17
theorem ziX11_four : yX11_four.cls = RX11 ∧ yX11_four.cls ≠ "java/lang/invoke/MethodHandle" ∧ yX11_four.cls ≠ "java/lang/invoke/VarHandle" ∧ (parseMethodDescriptor yX11_four.desc).map (fun d => d.parameters.length) = some 4 := by decide +kernel
set_option maxHeartbeats 4000000 in
set_option maxRecDepth 100000 in
theorem c_four {l : Launch} {G : va_G} {cI cJ cO : ClassId}  (i1 i2 i3 i4 : Int)  (hi1 : 0 ≤ i1 ∧ i1 ≤ 255) (hi2 : 0 ≤ i2 ∧ i2 ≤ 255) (hi3 : 0 ≤ i3 ∧ i3 ≤ 255) (hi4 : 0 ≤ i4 ∧ i4 ≤ 255) : zC l yX11_four wsX11_four { frames := 1, cells := 0, slots := 0, locals := 21 } G (tyZ cI cJ cO) (S := Unit) [.int (iI i1), .int (iI i2), .int (iI i3), .int (iI i4)] ([]) (zL (fun _ => 729 * (27 * (i1 - 96) + i2 - 96) + (27 * (i3 - 96) + i4 - 96))) (fun _ => True) (fun _ => []) 0 0 := by
  refine z_start (cc := cX11_four) (maxL := 4) (ret := (some .long)) (by decide) rfl (Nat.le_of_ble_eq_true rfl) ?_
  intro p e s m below meth c A ls F hr hlk hnm hAe hA hW hl
  have hx := F.1
  have hb := F.2.1
  have hown : s.vm.findClass RX11 = some m.cls := F.2.2.2.1
  have hts := F.2.2.2.2
  have hl : lv_has ls 4 [(0, .int (iI i1)), (1, .int (iI i2)), (2, .int (iI i3)), (3, .int (iI i4))] := hl
  refine z_ldc2 hx hb (729) hown (hts _ (List.mem_of_getElem? (i := 1) rfl)) (by decide +kernel) dX11_four_0 ?_
  refine lv_iload_n hx hb dX11_four_3 rfl (lv_at hl 0 rfl) ?_
  refine lv_iload_n hx hb dX11_four_4 rfl (lv_at hl 1 rfl) ?_
  refine z_callS (As := [.int (iI i1), .int (iI i2)]) (rest := [.long (lI 729)]) F (c_two i1 i2  (show 0 ≤ i1 ∧ i1 ≤ 255 by omega) (show 0 ≤ i2 ∧ i2 ≤ 255 by omega)) gX11_four_X11_two rfl ziX11_two ⟨rfl, rfl, by decide, by decide⟩ rfl hl.1 rfl (Nat.le_of_ble_eq_true rfl) dX11_four_5 ⟨Nat.zero_le _, Nat.zero_le _⟩ hW hA [] rfl (by decide) (fun _ => rfl) (fun _ => []) (fun _ => rfl) (fun _ => [.long (lI (27 * (i1 - 96) + i2 - 96)), .long (lI 729)]) (fun _ => rfl) (fun _ H locs hp5 hW => ?_)
  refine z_lmul hx hb dX11_four_8 ?_
  refine lv_iload_n hx hb dX11_four_9 rfl (lv_at hl 2 rfl) ?_
  refine lv_iload_n hx hb dX11_four_10 rfl (lv_at hl 3 rfl) ?_
  refine z_callS (As := [.int (iI i3), .int (iI i4)]) (rest := [.long (lI (729 * (27 * (i1 - 96) + i2 - 96)))]) F (c_two i3 i4  (show 0 ≤ i3 ∧ i3 ≤ 255 by omega) (show 0 ≤ i4 ∧ i4 ≤ 255 by omega)) gX11_four_X11_two rfl ziX11_two ⟨rfl, rfl, by decide, by decide⟩ rfl hl.1 rfl (Nat.le_of_ble_eq_true rfl) dX11_four_11 ⟨Nat.zero_le _, Nat.zero_le _⟩ hW hA [] rfl (by decide) (fun _ => rfl) (fun _ => []) (fun _ => rfl) (fun _ => [.long (lI (27 * (i3 - 96) + i4 - 96)), .long (lI (729 * (27 * (i1 - 96) + i2 - 96)))]) (fun _ => rfl) (fun _ H locs hp11 hW => ?_)
  refine z_ladd hx hb dX11_four_14 ?_
  exact z_lret hx hb hr hlk hW () (by first | rfl | omega) trivial rfl dX11_four_15
theorem ziX11_five : yX11_five.cls = RX11 ∧ yX11_five.cls ≠ "java/lang/invoke/MethodHandle" ∧ yX11_five.cls ≠ "java/lang/invoke/VarHandle" ∧ (parseMethodDescriptor yX11_five.desc).map (fun d => d.parameters.length) = some 5 := by decide +kernel
set_option maxHeartbeats 4000000 in
set_option maxRecDepth 100000 in
theorem c_five {l : Launch} {G : va_G} {cI cJ cO : ClassId}  (i1 i2 i3 i4 i5 : Int)  (hi1 : 0 ≤ i1 ∧ i1 ≤ 255) (hi2 : 0 ≤ i2 ∧ i2 ≤ 255) (hi3 : 0 ≤ i3 ∧ i3 ≤ 255) (hi4 : 0 ≤ i4 ∧ i4 ≤ 255) (hi5 : 0 ≤ i5 ∧ i5 ≤ 255) : zC l yX11_five wsX11_five { frames := 2, cells := 0, slots := 0, locals := 44 } G (tyZ cI cJ cO) (S := Unit) [.int (iI i1), .int (iI i2), .int (iI i3), .int (iI i4), .int (iI i5)] ([]) (zL (fun _ => 27 * (729 * (27 * (i1 - 96) + i2 - 96) + (27 * (i3 - 96) + i4 - 96)) + i5 - 96)) (fun _ => True) (fun _ => []) 0 0 := by
  refine z_start (cc := cX11_five) (maxL := 5) (ret := (some .long)) (by decide) rfl (Nat.le_of_ble_eq_true rfl) ?_
  intro p e s m below meth c A ls F hr hlk hnm hAe hA hW hl
  have hx := F.1
  have hb := F.2.1
  have hown : s.vm.findClass RX11 = some m.cls := F.2.2.2.1
  have hts := F.2.2.2.2
  have hl : lv_has ls 5 [(0, .int (iI i1)), (1, .int (iI i2)), (2, .int (iI i3)), (3, .int (iI i4)), (4, .int (iI i5))] := hl
  refine z_ldc2 hx hb (27) hown (hts _ (List.mem_of_getElem? (i := 1) rfl)) (by decide +kernel) dX11_five_0 ?_
  refine lv_iload_n hx hb dX11_five_3 rfl (lv_at hl 0 rfl) ?_
  refine lv_iload_n hx hb dX11_five_4 rfl (lv_at hl 1 rfl) ?_
  refine lv_iload_n hx hb dX11_five_5 rfl (lv_at hl 2 rfl) ?_
  refine lv_iload_n hx hb dX11_five_6 rfl (lv_at hl 3 rfl) ?_
  refine z_callS (As := [.int (iI i1), .int (iI i2), .int (iI i3), .int (iI i4)]) (rest := [.long (lI 27)]) F (c_four i1 i2 i3 i4  (show 0 ≤ i1 ∧ i1 ≤ 255 by omega) (show 0 ≤ i2 ∧ i2 ≤ 255 by omega) (show 0 ≤ i3 ∧ i3 ≤ 255 by omega) (show 0 ≤ i4 ∧ i4 ≤ 255 by omega)) gX11_five_X11_four rfl ziX11_four ⟨rfl, rfl, by decide, by decide⟩ rfl hl.1 rfl (Nat.le_of_ble_eq_true rfl) dX11_five_7 ⟨Nat.zero_le _, Nat.zero_le _⟩ hW hA [] rfl (by decide) (fun _ => rfl) (fun _ => []) (fun _ => rfl) (fun _ => [.long (lI (729 * (27 * (i1 - 96) + i2 - 96) + (27 * (i3 - 96) + i4 - 96))), .long (lI 27)]) (fun _ => rfl) (fun _ H locs hp7 hW => ?_)
  refine z_lmul hx hb dX11_five_10 ?_
  refine lv_iload hx hb dX11_five_11 (lv_at hl 4 rfl) ?_
  refine z_i2l hx hb dX11_five_13 ⟨by omega, by omega⟩ ?_
  refine z_ladd hx hb dX11_five_14 ?_
  refine z_ldc2 hx hb (96) hown (hts _ (List.mem_of_getElem? (i := 2) rfl)) (by decide +kernel) dX11_five_15 ?_
  refine z_lsub hx hb dX11_five_18 ?_
  exact z_lret hx hb hr hlk hW () (by first | rfl | omega) trivial rfl dX11_five_19
theorem ziX11_six : yX11_six.cls = RX11 ∧ yX11_six.cls ≠ "java/lang/invoke/MethodHandle" ∧ yX11_six.cls ≠ "java/lang/invoke/VarHandle" ∧ (parseMethodDescriptor yX11_six.desc).map (fun d => d.parameters.length) = some 6 := by decide +kernel
set_option maxHeartbeats 4000000 in
set_option maxRecDepth 100000 in
theorem c_six {l : Launch} {G : va_G} {cI cJ cO : ClassId}  (i1 i2 i3 i4 i5 i6 : Int)  (hi1 : 0 ≤ i1 ∧ i1 ≤ 255) (hi2 : 0 ≤ i2 ∧ i2 ≤ 255) (hi3 : 0 ≤ i3 ∧ i3 ≤ 255) (hi4 : 0 ≤ i4 ∧ i4 ≤ 255) (hi5 : 0 ≤ i5 ∧ i5 ≤ 255) (hi6 : 0 ≤ i6 ∧ i6 ≤ 255) : zC l yX11_six wsX11_six { frames := 2, cells := 0, slots := 0, locals := 44 } G (tyZ cI cJ cO) (S := Unit) [.int (iI i1), .int (iI i2), .int (iI i3), .int (iI i4), .int (iI i5), .int (iI i6)] ([]) (zL (fun _ => 729 * (729 * (27 * (i1 - 96) + i2 - 96) + (27 * (i3 - 96) + i4 - 96)) + (27 * (i5 - 96) + i6 - 96))) (fun _ => True) (fun _ => []) 0 0 := by
  refine z_start (cc := cX11_six) (maxL := 6) (ret := (some .long)) (by decide) rfl (Nat.le_of_ble_eq_true rfl) ?_
  intro p e s m below meth c A ls F hr hlk hnm hAe hA hW hl
  have hx := F.1
  have hb := F.2.1
  have hown : s.vm.findClass RX11 = some m.cls := F.2.2.2.1
  have hts := F.2.2.2.2
  have hl : lv_has ls 6 [(0, .int (iI i1)), (1, .int (iI i2)), (2, .int (iI i3)), (3, .int (iI i4)), (4, .int (iI i5)), (5, .int (iI i6))] := hl
  refine z_ldc2 hx hb (729) hown (hts _ (List.mem_of_getElem? (i := 1) rfl)) (by decide +kernel) dX11_six_0 ?_
  refine lv_iload_n hx hb dX11_six_3 rfl (lv_at hl 0 rfl) ?_
  refine lv_iload_n hx hb dX11_six_4 rfl (lv_at hl 1 rfl) ?_
  refine lv_iload_n hx hb dX11_six_5 rfl (lv_at hl 2 rfl) ?_
  refine lv_iload_n hx hb dX11_six_6 rfl (lv_at hl 3 rfl) ?_
  refine z_callS (As := [.int (iI i1), .int (iI i2), .int (iI i3), .int (iI i4)]) (rest := [.long (lI 729)]) F (c_four i1 i2 i3 i4  (show 0 ≤ i1 ∧ i1 ≤ 255 by omega) (show 0 ≤ i2 ∧ i2 ≤ 255 by omega) (show 0 ≤ i3 ∧ i3 ≤ 255 by omega) (show 0 ≤ i4 ∧ i4 ≤ 255 by omega)) gX11_six_X11_four rfl ziX11_four ⟨rfl, rfl, by decide, by decide⟩ rfl hl.1 rfl (Nat.le_of_ble_eq_true rfl) dX11_six_7 ⟨Nat.zero_le _, Nat.zero_le _⟩ hW hA [] rfl (by decide) (fun _ => rfl) (fun _ => []) (fun _ => rfl) (fun _ => [.long (lI (729 * (27 * (i1 - 96) + i2 - 96) + (27 * (i3 - 96) + i4 - 96))), .long (lI 729)]) (fun _ => rfl) (fun _ H locs hp7 hW => ?_)
  refine z_lmul hx hb dX11_six_10 ?_
  refine lv_iload hx hb dX11_six_11 (lv_at hl 4 rfl) ?_
  refine lv_iload hx hb dX11_six_13 (lv_at hl 5 rfl) ?_
  refine z_callS (As := [.int (iI i5), .int (iI i6)]) (rest := [.long (lI (729 * (729 * (27 * (i1 - 96) + i2 - 96) + (27 * (i3 - 96) + i4 - 96))))]) F (c_two i5 i6  (show 0 ≤ i5 ∧ i5 ≤ 255 by omega) (show 0 ≤ i6 ∧ i6 ≤ 255 by omega)) gX11_six_X11_two rfl ziX11_two ⟨rfl, rfl, by decide, by decide⟩ rfl hl.1 rfl (Nat.le_of_ble_eq_true rfl) dX11_six_15 ⟨Nat.zero_le _, Nat.zero_le _⟩ hW hA [] rfl (by decide) (fun _ => rfl) (fun _ => []) (fun _ => rfl) (fun _ => [.long (lI (27 * (i5 - 96) + i6 - 96)), .long (lI (729 * (729 * (27 * (i1 - 96) + i2 - 96) + (27 * (i3 - 96) + i4 - 96))))]) (fun _ => rfl) (fun _ H locs hp15 hW => ?_)
  refine z_ladd hx hb dX11_six_18 ?_
  exact z_lret hx hb hr hlk hW () (by first | rfl | omega) trivial rfl dX11_six_19
theorem hiX11_isWord_X11 : ∀ w ∈ wsX110, w ∈ wsX11_isWord := fun _ h => List.mem_cons_of_mem _ (List.mem_append_right _ h)
theorem ziX11_isWord : yX11_isWord.cls = RX11 ∧ yX11_isWord.cls ≠ "java/lang/invoke/MethodHandle" ∧ yX11_isWord.cls ≠ "java/lang/invoke/VarHandle" ∧ (parseMethodDescriptor yX11_isWord.desc).map (fun d => d.parameters.length) = some 1 := by decide +kernel
set_option maxHeartbeats 4000000 in
set_option maxRecDepth 100000 in
theorem c_isWord {l : Launch} {G : va_G} {cI cJ cO : ClassId} (h : Nat) (q : Nat → Nat) (v : Nat → Int) (a : Nat → Int → Int) (z : Int)  (h1 : -9223372036854775808 ≤ z ∧ z < 9223372036854775808) (h6 : 0 ≤ v 6 ∧ v 6 ≤ 4) (h10 : -9223372036854775808 ≤ v 10 ∧ v 10 < 9223372036854775808) : zC l yX11_isWord wsX11_isWord { frames := 0, cells := 0, slots := 0, locals := 0 } G (tyZ cI cJ cO) (S := Unit) [.ref h, .long (lI z)] (mW cI cJ h q v a) (zI (fun _ => bI (v 6 = 2 ∧ v 10 = z))) (fun _ => True) (fun _ => mW cI cJ h q v a) 0 0 := by
  refine z_start (cc := cX11_isWord) (maxL := 3) (ret := (some .boolean)) (by decide) rfl (Nat.le_of_ble_eq_true rfl) ?_
  intro p e s m below meth c A ls F hr hlk hnm hAe hA hW hl
  have hx := F.1
  have hb := F.2.1
  have hown : s.vm.findClass RX11 = some m.cls := F.2.2.2.1
  have hts := F.2.2.2.2
  have hl : lv_has ls 3 [(0, .ref h), (1, .long (lI z))] := hl
  refine lv_aload_n hx hb dX11_isWord_0 rfl (lv_at hl 0 rfl) ?_
  refine z_get (v := .int (iI (v 6))) hx hb hts hiX11_isWord_X11 hown hW 0 6 1 rfl rfl rfl (by decide) rfl dX11_isWord_1 ?_
  refine z_iconst (n := 2) hx hb dX11_isWord_4 ?_
  refine z_icmp_ne (tgt := 21) hx hb dX11_isWord_5 (by decide) ⟨by omega, by omega⟩ (by decide) (fun c5 => ?_) (fun c5 => ?_)
  · refine z_iconst (n := 0) hx hb dX11_isWord_21 ?_
    exact z_zret hx hb hr hlk (by first | exact Or.inl rfl | exact Or.inr rfl | omega) hW () (by first | exact bI_t (by omega) | exact bI_f (by omega)) trivial rfl dX11_isWord_22
  · refine lv_aload_n hx hb dX11_isWord_8 rfl (lv_at hl 0 rfl) ?_
    refine z_get (v := .long (lI (v 10))) hx hb hts hiX11_isWord_X11 hown hW 0 10 2 rfl rfl rfl (by decide) rfl dX11_isWord_9 ?_
    refine lv_lload_n hx hb dX11_isWord_12 rfl (lv_at hl 1 rfl) ?_
    refine z_lcmp_ne (tgt := 21) hx hb dX11_isWord_13 dX11_isWord_14 (by decide) ⟨by omega, by omega⟩ ⟨by omega, by omega⟩ (fun c13 => ?_) (fun c13 => ?_)
    · refine z_iconst (n := 0) hx hb dX11_isWord_21 ?_
      exact z_zret hx hb hr hlk (by first | exact Or.inl rfl | exact Or.inr rfl | omega) hW () (by first | exact bI_t (by omega) | exact bI_f (by omega)) trivial rfl dX11_isWord_22
    · refine z_iconst (n := 1) hx hb dX11_isWord_17 ?_
      refine lv_goto (tgt := 22) hx hb dX11_isWord_18 (by decide) ?_
      exact z_zret hx hb hr hlk (by first | exact Or.inl rfl | exact Or.inr rfl | omega) hW () (by first | exact bI_t (by omega) | exact bI_f (by omega)) trivial rfl dX11_isWord_22
theorem hiX11_isIndexWord_X11 : ∀ w ∈ wsX110, w ∈ wsX11_isIndexWord := fun _ h => List.mem_cons_of_mem _ (List.mem_append_right _ h)
theorem ziX11_isIndexWord : yX11_isIndexWord.cls = RX11 ∧ yX11_isIndexWord.cls ≠ "java/lang/invoke/MethodHandle" ∧ yX11_isIndexWord.cls ≠ "java/lang/invoke/VarHandle" ∧ (parseMethodDescriptor yX11_isIndexWord.desc).map (fun d => d.parameters.length) = some 0 := by decide +kernel
set_option maxHeartbeats 4000000 in
set_option maxRecDepth 100000 in
theorem c_isIndexWord {l : Launch} {G : va_G} {cI cJ cO : ClassId} (h : Nat) (q : Nat → Nat) (v : Nat → Int) (a : Nat → Int → Int)   (h6 : 0 ≤ v 6 ∧ v 6 ≤ 4) (h10 : -9223372036854775808 ≤ v 10 ∧ v 10 < 9223372036854775808) : zC l yX11_isIndexWord wsX11_isIndexWord { frames := 3, cells := 0, slots := 0, locals := 68 } G (tyZ cI cJ cO) (S := Unit) [.ref h] (mW cI cJ h q v a) (zI (fun _ => bI (v 6 = 2 ∧ v 10 = 5061606))) (fun _ => True) (fun _ => mW cI cJ h q v a) 0 0 := by
  refine z_start (cc := cX11_isIndexWord) (maxL := 1) (ret := (some .boolean)) (by decide) rfl (Nat.le_of_ble_eq_true rfl) ?_
  intro p e s m below meth c A ls F hr hlk hnm hAe hA hW hl
  have hx := F.1
  have hb := F.2.1
  have hown : s.vm.findClass RX11 = some m.cls := F.2.2.2.1
  have hts := F.2.2.2.2
  have hl : lv_has ls 1 [(0, .ref h)] := hl
  refine lv_aload_n hx hb dX11_isIndexWord_0 rfl (lv_at hl 0 rfl) ?_
  refine z_bipush hx hb dX11_isIndexWord_1 (by decide +kernel) ?_
  refine z_bipush hx hb dX11_isIndexWord_3 (by decide +kernel) ?_
  refine z_bipush hx hb dX11_isIndexWord_5 (by decide +kernel) ?_
  refine z_bipush hx hb dX11_isIndexWord_7 (by decide +kernel) ?_
  refine z_bipush hx hb dX11_isIndexWord_9 (by decide +kernel) ?_
  refine z_callS (As := [.int (iI 105), .int (iI 110), .int (iI 100), .int (iI 101), .int (iI 120)]) (rest := [.ref h]) F (c_five 105 110 100 101 120  (show 0 ≤ 105 ∧ 105 ≤ 255 by omega) (show 0 ≤ 110 ∧ 110 ≤ 255 by omega) (show 0 ≤ 100 ∧ 100 ≤ 255 by omega) (show 0 ≤ 101 ∧ 101 ≤ 255 by omega) (show 0 ≤ 120 ∧ 120 ≤ 255 by omega)) gX11_isIndexWord_X11_five rfl ziX11_five ⟨rfl, rfl, by decide, by decide⟩ rfl hl.1 rfl (Nat.le_of_ble_eq_true rfl) dX11_isIndexWord_11 ⟨Nat.zero_le _, Nat.zero_le _⟩ hW hA [] rfl (by decide) (fun _ => rfl) (fun _ => mW cI cJ h q v a) (fun _ => rfl) (fun _ => [.long (lI (27 * (729 * (27 * (105 - 96) + 110 - 96) + (27 * (100 - 96) + 101 - 96)) + 120 - 96)), .ref h]) (fun _ => rfl) (fun _ H locs hp11 hW => ?_)
  refine z_callV (As := [.long (lI (27 * (729 * (27 * (105 - 96) + 110 - 96) + (27 * (100 - 96) + 101 - 96)) + 120 - 96))]) (rest := []) F (c_isWord h q v a (27 * (729 * (27 * (105 - 96) + 110 - 96) + (27 * (100 - 96) + 101 - 96)) + 120 - 96)  (show -9223372036854775808 ≤ (27 * (729 * (27 * (105 - 96) + 110 - 96) + (27 * (100 - 96) + 101 - 96)) + 120 - 96) ∧ (27 * (729 * (27 * (105 - 96) + 110 - 96) + (27 * (100 - 96) + 101 - 96)) + 120 - 96) < 9223372036854775808 by omega) (show 0 ≤ (v 6) ∧ (v 6) ≤ 4 by omega) (show -9223372036854775808 ≤ (v 10) ∧ (v 10) < 9223372036854775808 by omega)) gX11_isIndexWord_X11_isWord rfl ziX11_isWord ⟨rfl, rfl, by decide, by decide⟩ rfl hl.1 rfl (Nat.le_of_ble_eq_true rfl) dX11_isIndexWord_14 ⟨Nat.zero_le _, Nat.zero_le _⟩ hW hA [0, 1, 2, 3, 4, 5, 6, 7, 8, 9, 10] rfl (by decide) (fun _ => rfl) (fun _ => mW cI cJ h q v a) (fun _ => rfl) (fun _ => [.int (iI (bI ((v 6) = 2 ∧ (v 10) = (27 * (729 * (27 * (105 - 96) + 110 - 96) + (27 * (100 - 96) + 101 - 96)) + 120 - 96))))]) (fun _ => rfl) 0 rfl rfl rfl (fun _ H locs hp14 hW => ?_)
  exact z_zret hx hb hr hlk (by unfold bI; split <;> omega) hW () rfl trivial rfl dX11_isIndexWord_17
theorem hiX11_bad_X11 : ∀ w ∈ wsX110, w ∈ wsX11_bad := fun _ h => List.mem_cons_of_mem _ (List.mem_append_right _ h)
theorem ziX11_bad : yX11_bad.cls = RX11 ∧ yX11_bad.cls ≠ "java/lang/invoke/MethodHandle" ∧ yX11_bad.cls ≠ "java/lang/invoke/VarHandle" ∧ (parseMethodDescriptor yX11_bad.desc).map (fun d => d.parameters.length) = some 1 := by decide +kernel
set_option maxHeartbeats 4000000 in
set_option maxRecDepth 100000 in
theorem c_bad {l : Launch} {G : va_G} {cI cJ cO : ClassId} (h : Nat) (q : Nat → Nat) (v : Nat → Int) (a : Nat → Int → Int) (w : Int)  (h1 : 1 ≤ w ∧ w ≤ 4) (h6 : 0 ≤ v 6 ∧ v 6 ≤ 4) : zC l yX11_bad wsX11_bad { frames := 0, cells := 0, slots := 0, locals := 0 } G (tyZ cI cJ cO) (S := Unit) [.ref h, .int (iI w)] (mW cI cJ h q v a) (zI (fun _ => 0)) (fun _ => True) (fun _ => mW cI cJ h q (uV (uV v 8 (if v 6 = 1 then 1 else w)) 9 (v 5)) a) 0 0 := by
  refine z_start (cc := cX11_bad) (maxL := 2) (ret := (some .boolean)) (by decide) rfl (Nat.le_of_ble_eq_true rfl) ?_
  intro p e s m below meth c A ls F hr hlk hnm hAe hA hW hl
  have hx := F.1
  have hb := F.2.1
  have hown : s.vm.findClass RX11 = some m.cls := F.2.2.2.1
  have hts := F.2.2.2.2
  have hl : lv_has ls 2 [(0, .ref h), (1, .int (iI w))] := hl
  refine lv_aload_n hx hb dX11_bad_0 rfl (lv_at hl 0 rfl) ?_
  refine lv_aload_n hx hb dX11_bad_1 rfl (lv_at hl 0 rfl) ?_
  refine z_get (v := .int (iI (v 6))) hx hb hts hiX11_bad_X11 hown hW 0 6 1 rfl rfl rfl (by decide) rfl dX11_bad_2 ?_
  refine z_iconst (n := 1) hx hb dX11_bad_5 ?_
  refine z_icmp_ne (tgt := 13) hx hb dX11_bad_6 (by decide) ⟨by omega, by omega⟩ (by decide) (fun c6 => ?_) (fun c6 => ?_)
  · refine lv_iload_n hx hb dX11_bad_13 rfl (lv_at hl 1 rfl) ?_
    refine z_put hx hb hts hiX11_bad_X11 tyX11 tyX11_ok nmX11 hown hW 0 8 2 rfl rfl (by decide) (Nat.le_of_ble_eq_true rfl) rfl rfl rfl rfl dX11_bad_14 (fun H locs hW => ?_)
    have hW : zW G (tyZ cI cJ cO) A s (mW cI cJ h q (uV v 8 w) a) H locs := hW
    refine lv_aload_n hx hb dX11_bad_17 rfl (lv_at hl 0 rfl) ?_
    refine lv_aload_n hx hb dX11_bad_18 rfl (lv_at hl 0 rfl) ?_
    refine z_get (v := .int (iI (v 5))) hx hb hts hiX11_bad_X11 hown hW 0 5 3 rfl rfl rfl (by decide) rfl dX11_bad_19 ?_
    refine z_put hx hb hts hiX11_bad_X11 tyX11 tyX11_ok nmX11 hown hW 0 9 4 rfl rfl (by decide) (Nat.le_of_ble_eq_true rfl) rfl rfl rfl rfl dX11_bad_22 (fun H locs hW => ?_)
    have hW : zW G (tyZ cI cJ cO) A s (mW cI cJ h q (uV (uV v 8 w) 9 (v 5)) a) H locs := hW
    refine z_iconst (n := 0) hx hb dX11_bad_25 ?_
    exact z_zret hx hb hr hlk (by first | exact Or.inl rfl | exact Or.inr rfl | omega) hW () rfl trivial (by first | rw [if_pos (by omega)] | rw [if_neg (by omega)]) dX11_bad_26
  · refine z_iconst (n := 1) hx hb dX11_bad_9 ?_
    refine lv_goto (tgt := 14) hx hb dX11_bad_10 (by decide) ?_
    refine z_put hx hb hts hiX11_bad_X11 tyX11 tyX11_ok nmX11 hown hW 0 8 2 rfl rfl (by decide) (Nat.le_of_ble_eq_true rfl) rfl rfl rfl rfl dX11_bad_14 (fun H locs hW => ?_)
    have hW : zW G (tyZ cI cJ cO) A s (mW cI cJ h q (uV v 8 1) a) H locs := hW
    refine lv_aload_n hx hb dX11_bad_17 rfl (lv_at hl 0 rfl) ?_
    refine lv_aload_n hx hb dX11_bad_18 rfl (lv_at hl 0 rfl) ?_
    refine z_get (v := .int (iI (v 5))) hx hb hts hiX11_bad_X11 hown hW 0 5 3 rfl rfl rfl (by decide) rfl dX11_bad_19 ?_
    refine z_put hx hb hts hiX11_bad_X11 tyX11 tyX11_ok nmX11 hown hW 0 9 4 rfl rfl (by decide) (Nat.le_of_ble_eq_true rfl) rfl rfl rfl rfl dX11_bad_22 (fun H locs hW => ?_)
    have hW : zW G (tyZ cI cJ cO) A s (mW cI cJ h q (uV (uV v 8 1) 9 (v 5)) a) H locs := hW
    refine z_iconst (n := 0) hx hb dX11_bad_25 ?_
    exact z_zret hx hb hr hlk (by first | exact Or.inl rfl | exact Or.inr rfl | omega) hW () rfl trivial (by first | rw [if_pos (by omega)] | rw [if_neg (by omega)]) dX11_bad_26
