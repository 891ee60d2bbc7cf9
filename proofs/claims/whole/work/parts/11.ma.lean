/-! the model: what it reads -/
theorem ziX11_isIn : yX11_isIn.cls = RX11 ∧ yX11_isIn.cls ≠ "java/lang/invoke/MethodHandle" ∧ yX11_isIn.cls ≠ "java/lang/invoke/VarHandle" ∧ (parseMethodDescriptor yX11_isIn.desc).map (fun d => d.parameters.length) = some 3 := by decide +kernel
set_option maxHeartbeats 4000000 in
set_option maxRecDepth 100000 in
theorem c_isIn {l : Launch} {G : va_G} {cI cJ cO : ClassId}  (w lo hi : Int)  (h1 : -2147483648 ≤ w ∧ w < 2147483648) (h2 : -2147483648 ≤ lo ∧ lo < 2147483648) (h3 : -2147483648 ≤ hi ∧ hi < 2147483648) : zC l yX11_isIn wsX11_isIn { frames := 0, cells := 0, slots := 0, locals := 0 } G (tyZ cI cJ cO) (S := Unit) [.int (iI w), .int (iI lo), .int (iI hi)] ([]) (zI (fun _ => bI (lo ≤ w ∧ w ≤ hi))) (fun _ => True) (fun _ => []) 0 0 := by
  refine z_start (cc := cX11_isIn) (maxL := 3) (ret := (some .boolean)) (by decide) rfl (Nat.le_of_ble_eq_true rfl) ?_
  intro p e s m below meth c A ls F hr hlk hnm hAe hA hW hl
  have hx := F.1
  have hb := F.2.1
  have hown : s.vm.findClass RX11 = some m.cls := F.2.2.2.1
  have hts := F.2.2.2.2
  have hl : lv_has ls 3 [(0, .int (iI w)), (1, .int (iI lo)), (2, .int (iI hi))] := hl
  refine lv_iload_n hx hb dX11_isIn_0 rfl (lv_at hl 0 rfl) ?_
  refine lv_iload_n hx hb dX11_isIn_1 rfl (lv_at hl 1 rfl) ?_
  refine z_icmp_lt (tgt := 14) hx hb dX11_isIn_2 (by decide) ⟨by omega, by omega⟩ ⟨by omega, by omega⟩ (fun c2 => ?_) (fun c2 => ?_)
  · refine z_iconst (n := 0) hx hb dX11_isIn_14 ?_
    exact z_zret hx hb hr hlk (by first | exact Or.inl rfl | exact Or.inr rfl | omega) hW () (by first | exact bI_t (by omega) | exact bI_f (by omega)) trivial rfl dX11_isIn_15
  · refine lv_iload_n hx hb dX11_isIn_5 rfl (lv_at hl 0 rfl) ?_
    refine lv_iload_n hx hb dX11_isIn_6 rfl (lv_at hl 2 rfl) ?_
    refine z_icmp_gt (tgt := 14) hx hb dX11_isIn_7 (by decide) ⟨by omega, by omega⟩ ⟨by omega, by omega⟩ (fun c7 => ?_) (fun c7 => ?_)
    · refine z_iconst (n := 0) hx hb dX11_isIn_14 ?_
      exact z_zret hx hb hr hlk (by first | exact Or.inl rfl | exact Or.inr rfl | omega) hW () (by first | exact bI_t (by omega) | exact bI_f (by omega)) trivial rfl dX11_isIn_15
    · refine z_iconst (n := 1) hx hb dX11_isIn_10 ?_
      refine lv_goto (tgt := 15) hx hb dX11_isIn_11 (by decide) ?_
      exact z_zret hx hb hr hlk (by first | exact Or.inl rfl | exact Or.inr rfl | omega) hW () (by first | exact bI_t (by omega) | exact bI_f (by omega)) trivial rfl dX11_isIn_15
theorem ziX11_isDigit : yX11_isDigit.cls = RX11 ∧ yX11_isDigit.cls ≠ "java/lang/invoke/MethodHandle" ∧ yX11_isDigit.cls ≠ "java/lang/invoke/VarHandle" ∧ (parseMethodDescriptor yX11_isDigit.desc).map (fun d => d.parameters.length) = some 1 := by decide +kernel
set_option maxHeartbeats 4000000 in
set_option maxRecDepth 100000 in
theorem c_isDigit {l : Launch} {G : va_G} {cI cJ cO : ClassId}  (w : Int)  (h1 : -2147483648 ≤ w ∧ w < 2147483648) : zC l yX11_isDigit wsX11_isDigit { frames := 0, cells := 0, slots := 0, locals := 0 } G (tyZ cI cJ cO) (S := Unit) [.int (iI w)] ([]) (zI (fun _ => bI (48 ≤ w ∧ w ≤ 57))) (fun _ => True) (fun _ => []) 0 0 := by
  refine z_start (cc := cX11_isDigit) (maxL := 1) (ret := (some .boolean)) (by decide) rfl (Nat.le_of_ble_eq_true rfl) ?_
  intro p e s m below meth c A ls F hr hlk hnm hAe hA hW hl
  have hx := F.1
  have hb := F.2.1
  have hown : s.vm.findClass RX11 = some m.cls := F.2.2.2.1
  have hts := F.2.2.2.2
  have hl : lv_has ls 1 [(0, .int (iI w))] := hl
  refine lv_iload_n hx hb dX11_isDigit_0 rfl (lv_at hl 0 rfl) ?_
  refine z_bipush hx hb dX11_isDigit_1 (by decide +kernel) ?_
  refine z_icmp_lt (tgt := 16) hx hb dX11_isDigit_3 (by decide) ⟨by omega, by omega⟩ (by decide) (fun c3 => ?_) (fun c3 => ?_)
  · refine z_iconst (n := 0) hx hb dX11_isDigit_16 ?_
    exact z_zret hx hb hr hlk (by first | exact Or.inl rfl | exact Or.inr rfl | omega) hW () (by first | exact bI_t (by omega) | exact bI_f (by omega)) trivial rfl dX11_isDigit_17
  · refine lv_iload_n hx hb dX11_isDigit_6 rfl (lv_at hl 0 rfl) ?_
    refine z_bipush hx hb dX11_isDigit_7 (by decide +kernel) ?_
    refine z_icmp_gt (tgt := 16) hx hb dX11_isDigit_9 (by decide) ⟨by omega, by omega⟩ (by decide) (fun c9 => ?_) (fun c9 => ?_)
    · refine z_iconst (n := 0) hx hb dX11_isDigit_16 ?_
      exact z_zret hx hb hr hlk (by first | exact Or.inl rfl | exact Or.inr rfl | omega) hW () (by first | exact bI_t (by omega) | exact bI_f (by omega)) trivial rfl dX11_isDigit_17
    · refine z_iconst (n := 1) hx hb dX11_isDigit_12 ?_
      refine lv_goto (tgt := 17) hx hb dX11_isDigit_13 (by decide) ?_
      exact z_zret hx hb hr hlk (by first | exact Or.inl rfl | exact Or.inr rfl | omega) hW () (by first | exact bI_t (by omega) | exact bI_f (by omega)) trivial rfl dX11_isDigit_17
theorem ziX11_isLetter : yX11_isLetter.cls = RX11 ∧ yX11_isLetter.cls ≠ "java/lang/invoke/MethodHandle" ∧ yX11_isLetter.cls ≠ "java/lang/invoke/VarHandle" ∧ (parseMethodDescriptor yX11_isLetter.desc).map (fun d => d.parameters.length) = some 1 := by decide +kernel
set_option maxHeartbeats 4000000 in
set_option maxRecDepth 100000 in
theorem c_isLetter {l : Launch} {G : va_G} {cI cJ cO : ClassId}  (w : Int)  (h1 : -2147483648 ≤ w ∧ w < 2147483648) : zC l yX11_isLetter wsX11_isLetter { frames := 0, cells := 0, slots := 0, locals := 0 } G (tyZ cI cJ cO) (S := Unit) [.int (iI w)] ([]) (zI (fun _ => bI (97 ≤ w ∧ w ≤ 122))) (fun _ => True) (fun _ => []) 0 0 := by
  refine z_start (cc := cX11_isLetter) (maxL := 1) (ret := (some .boolean)) (by decide) rfl (Nat.le_of_ble_eq_true rfl) ?_
  intro p e s m below meth c A ls F hr hlk hnm hAe hA hW hl
  have hx := F.1
  have hb := F.2.1
  have hown : s.vm.findClass RX11 = some m.cls := F.2.2.2.1
  have hts := F.2.2.2.2
  have hl : lv_has ls 1 [(0, .int (iI w))] := hl
  refine lv_iload_n hx hb dX11_isLetter_0 rfl (lv_at hl 0 rfl) ?_
  refine z_bipush hx hb dX11_isLetter_1 (by decide +kernel) ?_
  refine z_icmp_lt (tgt := 16) hx hb dX11_isLetter_3 (by decide) ⟨by omega, by omega⟩ (by decide) (fun c3 => ?_) (fun c3 => ?_)
  · refine z_iconst (n := 0) hx hb dX11_isLetter_16 ?_
    exact z_zret hx hb hr hlk (by first | exact Or.inl rfl | exact Or.inr rfl | omega) hW () (by first | exact bI_t (by omega) | exact bI_f (by omega)) trivial rfl dX11_isLetter_17
  · refine lv_iload_n hx hb dX11_isLetter_6 rfl (lv_at hl 0 rfl) ?_
    refine z_bipush hx hb dX11_isLetter_7 (by decide +kernel) ?_
    refine z_icmp_gt (tgt := 16) hx hb dX11_isLetter_9 (by decide) ⟨by omega, by omega⟩ (by decide) (fun c9 => ?_) (fun c9 => ?_)
    · refine z_iconst (n := 0) hx hb dX11_isLetter_16 ?_
      exact z_zret hx hb hr hlk (by first | exact Or.inl rfl | exact Or.inr rfl | omega) hW () (by first | exact bI_t (by omega) | exact bI_f (by omega)) trivial rfl dX11_isLetter_17
    · refine z_iconst (n := 1) hx hb dX11_isLetter_12 ?_
      refine lv_goto (tgt := 17) hx hb dX11_isLetter_13 (by decide) ?_
      exact z_zret hx hb hr hlk (by first | exact Or.inl rfl | exact Or.inr rfl | omega) hW () (by first | exact bI_t (by omega) | exact bI_f (by omega)) trivial rfl dX11_isLetter_17
theorem ziX11_isMonth : yX11_isMonth.cls = RX11 ∧ yX11_isMonth.cls ≠ "java/lang/invoke/MethodHandle" ∧ yX11_isMonth.cls ≠ "java/lang/invoke/VarHandle" ∧ (parseMethodDescriptor yX11_isMonth.desc).map (fun d => d.parameters.length) = some 1 := by decide +kernel
set_option maxHeartbeats 4000000 in
set_option maxRecDepth 100000 in
theorem c_isMonth {l : Launch} {G : va_G} {cI cJ cO : ClassId}  (w : Int)  (h1 : -2147483648 ≤ w ∧ w < 2147483648) : zC l yX11_isMonth wsX11_isMonth { frames := 1, cells := 0, slots := 0, locals := 22 } G (tyZ cI cJ cO) (S := Unit) [.int (iI w)] ([]) (zI (fun _ => bI (0 ≤ w ∧ w ≤ 239))) (fun _ => True) (fun _ => []) 0 0 := by
  refine z_start (cc := cX11_isMonth) (maxL := 1) (ret := (some .boolean)) (by decide) rfl (Nat.le_of_ble_eq_true rfl) ?_
  intro p e s m below meth c A ls F hr hlk hnm hAe hA hW hl
  have hx := F.1
  have hb := F.2.1
  have hown : s.vm.findClass RX11 = some m.cls := F.2.2.2.1
  have hts := F.2.2.2.2
  have hl : lv_has ls 1 [(0, .int (iI w))] := hl
  refine lv_iload_n hx hb dX11_isMonth_0 rfl (lv_at hl 0 rfl) ?_
  refine z_iconst (n := 0) hx hb dX11_isMonth_1 ?_
  refine z_sipush hx hb dX11_isMonth_2 (by decide +kernel) ?_
  refine z_callS (As := [.int (iI w), .int (iI 0), .int (iI 239)]) (rest := []) F (c_isIn w 0 239  (show -2147483648 ≤ w ∧ w < 2147483648 by omega) (show -2147483648 ≤ 0 ∧ 0 < 2147483648 by omega) (show -2147483648 ≤ 239 ∧ 239 < 2147483648 by omega)) gX11_isMonth_X11_isIn rfl ziX11_isIn ⟨rfl, rfl, by decide, by decide⟩ rfl hl.1 rfl (Nat.le_of_ble_eq_true rfl) dX11_isMonth_5 ⟨Nat.zero_le _, Nat.zero_le _⟩ hW hA [] rfl (by decide) (fun _ => rfl) (fun _ => []) (fun _ => rfl) (fun _ => [.int (iI (bI (0 ≤ w ∧ w ≤ 239)))]) (fun _ => rfl) (fun _ H locs hp5 hW => ?_)
  exact z_zret hx hb hr hlk (by unfold bI; split <;> omega) hW () rfl trivial rfl dX11_isMonth_8
theorem hiX11_its_X11 : ∀ w ∈ wsX110, w ∈ wsX11_its := fun _ h => List.mem_cons_of_mem _ (List.mem_append_right _ h)
theorem ziX11_its : yX11_its.cls = RX11 ∧ yX11_its.cls ≠ "java/lang/invoke/MethodHandle" ∧ yX11_its.cls ≠ "java/lang/invoke/VarHandle" ∧ (parseMethodDescriptor yX11_its.desc).map (fun d => d.parameters.length) = some 2 := by decide +kernel
set_option maxHeartbeats 4000000 in
set_option maxRecDepth 100000 in
theorem c_its {l : Launch} {G : va_G} {cI cJ cO : ClassId} (h : Nat) (q : Nat → Nat) (v : Nat → Int) (a : Nat → Int → Int) (x w : Int)  (h1 : 0 ≤ 483 + 500 * x + w ∧ 483 + 500 * x + w < 3483) : zC l yX11_its wsX11_its { frames := 0, cells := 0, slots := 0, locals := 0 } G (tyZ cI cJ cO) (S := Unit) [.ref h, .int (iI x), .int (iI w)] (mW cI cJ h q v a) (zI (fun _ => LF (a 11) x w)) (fun _ => True) (fun _ => mW cI cJ h q v a) 0 0 := by
  refine z_start (cc := cX11_its) (maxL := 3) (ret := (some .int)) (by decide) rfl (Nat.le_of_ble_eq_true rfl) ?_
  intro p e s m below meth c A ls F hr hlk hnm hAe hA hW hl
  have hx := F.1
  have hb := F.2.1
  have hown : s.vm.findClass RX11 = some m.cls := F.2.2.2.1
  have hts := F.2.2.2.2
  have hl : lv_has ls 3 [(0, .ref h), (1, .int (iI x)), (2, .int (iI w))] := hl
  refine lv_aload_n hx hb dX11_its_0 rfl (lv_at hl 0 rfl) ?_
  refine z_get (v := .ref (q 11)) hx hb hts hiX11_its_X11 hown hW 0 11 1 rfl rfl rfl (by decide) rfl dX11_its_1 ?_
  refine z_sipush hx hb dX11_its_4 (by decide +kernel) ?_
  refine z_sipush hx hb dX11_its_7 (by decide +kernel) ?_
  refine lv_iload_n hx hb dX11_its_10 rfl (lv_at hl 1 rfl) ?_
  refine z_imul hx hb dX11_its_11 ?_
  refine z_iadd hx hb dX11_its_12 ?_
  refine lv_iload_n hx hb dX11_its_13 rfl (lv_at hl 2 rfl) ?_
  refine z_iadd hx hb dX11_its_14 ?_
  refine z_iald (f := a 11) (i := (483 + (500 * x)) + w) hx hb hW 2 0 rfl rfl (by decide) ⟨by omega, by omega⟩ dX11_its_15 ?_
  exact z_iret hx hb hr hlk hW () rfl trivial rfl dX11_its_16
theorem hiX11_isLease_X11 : ∀ w ∈ wsX110, w ∈ wsX11_isLease := fun _ h => List.mem_cons_of_mem _ (List.mem_append_right _ h)
theorem ziX11_isLease : yX11_isLease.cls = RX11 ∧ yX11_isLease.cls ≠ "java/lang/invoke/MethodHandle" ∧ yX11_isLease.cls ≠ "java/lang/invoke/VarHandle" ∧ (parseMethodDescriptor yX11_isLease.desc).map (fun d => d.parameters.length) = some 1 := by decide +kernel
set_option maxHeartbeats 4000000 in
set_option maxRecDepth 100000 in
theorem c_isLease {l : Launch} {G : va_G} {cI cJ cO : ClassId} (h : Nat) (q : Nat → Nat) (v : Nat → Int) (a : Nat → Int → Int) (x : Int)  (h1 : -2147483648 ≤ x ∧ x < 2147483648) (h2 : 0 ≤ a 11 2 ∧ a 11 2 ≤ 6) : zC l yX11_isLease wsX11_isLease { frames := 1, cells := 0, slots := 0, locals := 22 } G (tyZ cI cJ cO) (S := Unit) [.ref h, .int (iI x)] (mW cI cJ h q v a) (zI (fun _ => bI (0 ≤ x ∧ x ≤ a 11 2 - 1))) (fun _ => True) (fun _ => mW cI cJ h q v a) 0 0 := by
  refine z_start (cc := cX11_isLease) (maxL := 2) (ret := (some .boolean)) (by decide) rfl (Nat.le_of_ble_eq_true rfl) ?_
  intro p e s m below meth c A ls F hr hlk hnm hAe hA hW hl
  have hx := F.1
  have hb := F.2.1
  have hown : s.vm.findClass RX11 = some m.cls := F.2.2.2.1
  have hts := F.2.2.2.2
  have hl : lv_has ls 2 [(0, .ref h), (1, .int (iI x))] := hl
  refine lv_iload_n hx hb dX11_isLease_0 rfl (lv_at hl 1 rfl) ?_
  refine z_iconst (n := 0) hx hb dX11_isLease_1 ?_
  refine lv_aload_n hx hb dX11_isLease_2 rfl (lv_at hl 0 rfl) ?_
  refine z_get (v := .ref (q 11)) hx hb hts hiX11_isLease_X11 hown hW 0 11 1 rfl rfl rfl (by decide) rfl dX11_isLease_3 ?_
  refine z_iconst (n := 2) hx hb dX11_isLease_6 ?_
  refine z_iald (f := a 11) (i := 2) hx hb hW 2 0 rfl rfl (by decide) ⟨by omega, by omega⟩ dX11_isLease_7 ?_
  refine z_iconst (n := 1) hx hb dX11_isLease_8 ?_
  refine z_isub hx hb dX11_isLease_9 ?_
  refine z_callS (As := [.int (iI x), .int (iI 0), .int (iI (((a 11) 2) - 1))]) (rest := []) F (c_isIn x 0 (((a 11) 2) - 1)  (show -2147483648 ≤ x ∧ x < 2147483648 by omega) (show -2147483648 ≤ 0 ∧ 0 < 2147483648 by omega) (show -2147483648 ≤ (((a 11) 2) - 1) ∧ (((a 11) 2) - 1) < 2147483648 by omega)) gX11_isLease_X11_isIn rfl ziX11_isIn ⟨rfl, rfl, by decide, by decide⟩ rfl hl.1 rfl (Nat.le_of_ble_eq_true rfl) dX11_isLease_10 ⟨Nat.zero_le _, Nat.zero_le _⟩ hW hA [] rfl (by decide) (fun _ => rfl) (fun _ => mW cI cJ h q v a) (fun _ => rfl) (fun _ => [.int (iI (bI (0 ≤ x ∧ x ≤ (((a 11) 2) - 1))))]) (fun _ => rfl) (fun _ H locs hp10 hW => ?_)
  exact z_zret hx hb hr hlk (by unfold bI; split <;> omega) hW () rfl trivial rfl dX11_isLease_13
theorem hiX11_hasPart_X11 : ∀ w ∈ wsX110, w ∈ wsX11_hasPart := fun _ h => List.mem_cons_of_mem _ (List.mem_append_right _ h)
theorem ziX11_hasPart : yX11_hasPart.cls = RX11 ∧ yX11_hasPart.cls ≠ "java/lang/invoke/MethodHandle" ∧ yX11_hasPart.cls ≠ "java/lang/invoke/VarHandle" ∧ (parseMethodDescriptor yX11_hasPart.desc).map (fun d => d.parameters.length) = some 2 := by decide +kernel
set_option maxHeartbeats 4000000 in
set_option maxRecDepth 100000 in
theorem c_hasPart {l : Launch} {G : va_G} {cI cJ cO : ClassId} (h : Nat) (q : Nat → Nat) (v : Nat → Int) (a : Nat → Int → Int) (x w : Int)  (h1 : 0 ≤ x ∧ x < 6) : zC l yX11_hasPart wsX11_hasPart { frames := 1, cells := 0, slots := 0, locals := 22 } G (tyZ cI cJ cO) (S := Unit) [.ref h, .int (iI x), .int (iI w)] (mW cI cJ h q v a) (zI (fun _ => bI (zand (LF (a 11) x 7) w ≠ 0))) (fun _ => True) (fun _ => mW cI cJ h q v a) 0 0 := by
  refine z_start (cc := cX11_hasPart) (maxL := 3) (ret := (some .boolean)) (by decide) rfl (Nat.le_of_ble_eq_true rfl) ?_
  intro p e s m below meth c A ls F hr hlk hnm hAe hA hW hl
  have hx := F.1
  have hb := F.2.1
  have hown : s.vm.findClass RX11 = some m.cls := F.2.2.2.1
  have hts := F.2.2.2.2
  have hl : lv_has ls 3 [(0, .ref h), (1, .int (iI x)), (2, .int (iI w))] := hl
  refine lv_aload_n hx hb dX11_hasPart_0 rfl (lv_at hl 0 rfl) ?_
  refine lv_iload_n hx hb dX11_hasPart_1 rfl (lv_at hl 1 rfl) ?_
  refine z_bipush hx hb dX11_hasPart_2 (by decide +kernel) ?_
  refine z_callV (As := [.int (iI x), .int (iI 7)]) (rest := []) F (c_its h q v a x 7  (show 0 ≤ 483 + 500 * x + 7 ∧ 483 + 500 * x + 7 < 3483 by omega)) gX11_hasPart_X11_its rfl ziX11_its ⟨rfl, rfl, by decide, by decide⟩ rfl hl.1 rfl (Nat.le_of_ble_eq_true rfl) dX11_hasPart_4 ⟨Nat.zero_le _, Nat.zero_le _⟩ hW hA [0, 1, 2, 3, 4, 5, 6, 7, 8, 9, 10] rfl (by decide) (fun _ => rfl) (fun _ => mW cI cJ h q v a) (fun _ => rfl) (fun _ => [.int (iI (LF ((a 11)) x 7))]) (fun _ => rfl) 0 rfl rfl rfl (fun _ H locs hp4 hW => ?_)
  refine lv_iload_n hx hb dX11_hasPart_7 rfl (lv_at hl 2 rfl) ?_
  refine z_iand hx hb dX11_hasPart_8 ?_
  refine z_if_eq (tgt := 16) hx hb dX11_hasPart_9 (by decide) (zand_R _ _) (fun c9 => ?_) (fun c9 => ?_)
  · refine z_iconst (n := 0) hx hb dX11_hasPart_16 ?_
    exact z_zret hx hb hr hlk (by first | exact Or.inl rfl | exact Or.inr rfl | omega) hW () (by first | exact bI_t (by assumption) | exact bI_f (by omega)) trivial rfl dX11_hasPart_17
  · refine z_iconst (n := 1) hx hb dX11_hasPart_12 ?_
    refine lv_goto (tgt := 17) hx hb dX11_hasPart_13 (by decide) ?_
    exact z_zret hx hb hr hlk (by first | exact Or.inl rfl | exact Or.inr rfl | omega) hW () (by first | exact bI_t (by assumption) | exact bI_f (by omega)) trivial rfl dX11_hasPart_17
theorem hiX11_endAsTold_X11 : ∀ w ∈ wsX110, w ∈ wsX11_endAsTold := fun _ h => List.mem_cons_of_mem _ (List.mem_append_right _ h)
theorem ziX11_endAsTold : yX11_endAsTold.cls = RX11 ∧ yX11_endAsTold.cls ≠ "java/lang/invoke/MethodHandle" ∧ yX11_endAsTold.cls ≠ "java/lang/invoke/VarHandle" ∧ (parseMethodDescriptor yX11_endAsTold.desc).map (fun d => d.parameters.length) = some 1 := by decide +kernel
set_option maxHeartbeats 4000000 in
set_option maxRecDepth 100000 in
theorem c_endAsTold {l : Launch} {G : va_G} {cI cJ cO : ClassId} (h : Nat) (q : Nat → Nat) (v : Nat → Int) (a : Nat → Int → Int) (x : Int)  (h1 : 0 ≤ x ∧ x < 6) : zC l yX11_endAsTold wsX11_endAsTold { frames := 1, cells := 0, slots := 0, locals := 22 } G (tyZ cI cJ cO) (S := Unit) [.ref h, .int (iI x)] (mW cI cJ h q v a) (zI (fun _ => LF (a 11) x 0 + LF (a 11) x 1)) (fun _ => True) (fun _ => mW cI cJ h q v a) 0 0 := by
  refine z_start (cc := cX11_endAsTold) (maxL := 2) (ret := (some .int)) (by decide) rfl (Nat.le_of_ble_eq_true rfl) ?_
  intro p e s m below meth c A ls F hr hlk hnm hAe hA hW hl
  have hx := F.1
  have hb := F.2.1
  have hown : s.vm.findClass RX11 = some m.cls := F.2.2.2.1
  have hts := F.2.2.2.2
  have hl : lv_has ls 2 [(0, .ref h), (1, .int (iI x))] := hl
  refine lv_aload_n hx hb dX11_endAsTold_0 rfl (lv_at hl 0 rfl) ?_
  refine lv_iload_n hx hb dX11_endAsTold_1 rfl (lv_at hl 1 rfl) ?_
  refine z_iconst (n := 0) hx hb dX11_endAsTold_2 ?_
  refine z_callV (As := [.int (iI x), .int (iI 0)]) (rest := []) F (c_its h q v a x 0  (show 0 ≤ 483 + 500 * x + 0 ∧ 483 + 500 * x + 0 < 3483 by omega)) gX11_endAsTold_X11_its rfl ziX11_its ⟨rfl, rfl, by decide, by decide⟩ rfl hl.1 rfl (Nat.le_of_ble_eq_true rfl) dX11_endAsTold_3 ⟨Nat.zero_le _, Nat.zero_le _⟩ hW hA [0, 1, 2, 3, 4, 5, 6, 7, 8, 9, 10] rfl (by decide) (fun _ => rfl) (fun _ => mW cI cJ h q v a) (fun _ => rfl) (fun _ => [.int (iI (LF ((a 11)) x 0))]) (fun _ => rfl) 0 rfl rfl rfl (fun _ H locs hp3 hW => ?_)
  refine lv_aload_n hx hb dX11_endAsTold_6 rfl (lv_at hl 0 rfl) ?_
  refine lv_iload_n hx hb dX11_endAsTold_7 rfl (lv_at hl 1 rfl) ?_
  refine z_iconst (n := 1) hx hb dX11_endAsTold_8 ?_
  refine z_callV (As := [.int (iI x), .int (iI 1)]) (rest := [.int (iI (LF ((a 11)) x 0))]) F (c_its h q v a x 1  (show 0 ≤ 483 + 500 * x + 1 ∧ 483 + 500 * x + 1 < 3483 by omega)) gX11_endAsTold_X11_its rfl ziX11_its ⟨rfl, rfl, by decide, by decide⟩ rfl hl.1 rfl (Nat.le_of_ble_eq_true rfl) dX11_endAsTold_9 ⟨Nat.zero_le _, Nat.zero_le _⟩ hW hA [0, 1, 2, 3, 4, 5, 6, 7, 8, 9, 10] rfl (by decide) (fun _ => rfl) (fun _ => mW cI cJ h q v a) (fun _ => rfl) (fun _ => [.int (iI (LF ((a 11)) x 1)), .int (iI (LF ((a 11)) x 0))]) (fun _ => rfl) 0 rfl rfl rfl (fun _ H locs hp9 hW => ?_)
  refine z_iadd hx hb dX11_endAsTold_12 ?_
  exact z_iret hx hb hr hlk hW () (by first | rfl | omega) trivial rfl dX11_endAsTold_13
theorem hiX11_endOf_X11 : ∀ w ∈ wsX110, w ∈ wsX11_endOf := fun _ h => List.mem_cons_of_mem _ (List.mem_append_right _ h)
theorem ziX11_endOf : yX11_endOf.cls = RX11 ∧ yX11_endOf.cls ≠ "java/lang/invoke/MethodHandle" ∧ yX11_endOf.cls ≠ "java/lang/invoke/VarHandle" ∧ (parseMethodDescriptor yX11_endOf.desc).map (fun d => d.parameters.length) = some 2 := by decide +kernel
set_option maxHeartbeats 4000000 in
set_option maxRecDepth 100000 in
theorem c_endOf {l : Launch} {G : va_G} {cI cJ cO : ClassId} (h : Nat) (q : Nat → Nat) (v : Nat → Int) (a : Nat → Int → Int) (x k : Int)  (h1 : 0 ≤ x ∧ x < 6) (h2 : -2147483648 ≤ k ∧ k < 2147483648) (h3 : 0 ≤ LF (a 11) x 13 ∧ LF (a 11) x 13 ≤ 240) : zC l yX11_endOf wsX11_endOf { frames := 2, cells := 0, slots := 0, locals := 43 } G (tyZ cI cJ cO) (S := Unit) [.ref h, .int (iI x), .int (iI k)] (mW cI cJ h q v a) (zI (fun _ => END (a 11) x k)) (fun _ => True) (fun _ => mW cI cJ h q v a) 0 0 := by
  refine z_start (cc := cX11_endOf) (maxL := 3) (ret := (some .int)) (by decide) rfl (Nat.le_of_ble_eq_true rfl) ?_
  intro p e s m below meth c A ls F hr hlk hnm hAe hA hW hl
  have hx := F.1
  have hb := F.2.1
  have hown : s.vm.findClass RX11 = some m.cls := F.2.2.2.1
  have hts := F.2.2.2.2
  have hl : lv_has ls 3 [(0, .ref h), (1, .int (iI x)), (2, .int (iI k))] := hl
  refine lv_aload_n hx hb dX11_endOf_0 rfl (lv_at hl 0 rfl) ?_
  refine lv_iload_n hx hb dX11_endOf_1 rfl (lv_at hl 1 rfl) ?_
  refine z_bipush hx hb dX11_endOf_2 (by decide +kernel) ?_
  refine z_callV (As := [.int (iI x), .int (iI 13)]) (rest := []) F (c_its h q v a x 13  (show 0 ≤ 483 + 500 * x + 13 ∧ 483 + 500 * x + 13 < 3483 by omega)) gX11_endOf_X11_its rfl ziX11_its ⟨rfl, rfl, by decide, by decide⟩ rfl hl.1 rfl (Nat.le_of_ble_eq_true rfl) dX11_endOf_4 ⟨Nat.zero_le _, Nat.zero_le _⟩ hW hA [0, 1, 2, 3, 4, 5, 6, 7, 8, 9, 10] rfl (by decide) (fun _ => rfl) (fun _ => mW cI cJ h q v a) (fun _ => rfl) (fun _ => [.int (iI (LF ((a 11)) x 13))]) (fun _ => rfl) 0 rfl rfl rfl (fun _ H locs hp4 hW => ?_)
  refine z_if_le (tgt := 33) hx hb dX11_endOf_7 (by decide) ⟨by omega, by omega⟩ (fun c7 => ?_) (fun c7 => ?_)
  · refine lv_aload_n hx hb dX11_endOf_33 rfl (lv_at hl 0 rfl) ?_
    refine lv_iload_n hx hb dX11_endOf_34 rfl (lv_at hl 1 rfl) ?_
    refine z_callV (As := [.int (iI x)]) (rest := []) F (c_endAsTold h q v a x  (show 0 ≤ x ∧ x < 6 by omega)) gX11_endOf_X11_endAsTold rfl ziX11_endAsTold ⟨rfl, rfl, by decide, by decide⟩ rfl hl.1 rfl (Nat.le_of_ble_eq_true rfl) dX11_endOf_35 ⟨Nat.zero_le _, Nat.zero_le _⟩ hW hA [0, 1, 2, 3, 4, 5, 6, 7, 8, 9, 10] rfl (by decide) (fun _ => rfl) (fun _ => mW cI cJ h q v a) (fun _ => rfl) (fun _ => [.int (iI (LF ((a 11)) x 0 + LF ((a 11)) x 1))]) (fun _ => rfl) 0 rfl rfl rfl (fun _ H locs hp35 hW => ?_)
    exact z_iret hx hb hr hlk hW () (by unfold END; first | exact if_pos (by omega) | exact if_neg (by omega)) trivial rfl dX11_endOf_38
  · refine lv_aload_n hx hb dX11_endOf_10 rfl (lv_at hl 0 rfl) ?_
    refine lv_iload_n hx hb dX11_endOf_11 rfl (lv_at hl 1 rfl) ?_
    refine z_bipush hx hb dX11_endOf_12 (by decide +kernel) ?_
    refine z_callV (As := [.int (iI x), .int (iI 13)]) (rest := []) F (c_its h q v a x 13  (show 0 ≤ 483 + 500 * x + 13 ∧ 483 + 500 * x + 13 < 3483 by omega)) gX11_endOf_X11_its rfl ziX11_its ⟨rfl, rfl, by decide, by decide⟩ rfl hl.1 rfl (Nat.le_of_ble_eq_true rfl) dX11_endOf_14 ⟨Nat.zero_le _, Nat.zero_le _⟩ hW hA [0, 1, 2, 3, 4, 5, 6, 7, 8, 9, 10] rfl (by decide) (fun _ => rfl) (fun _ => mW cI cJ h q v a) (fun _ => rfl) (fun _ => [.int (iI (LF ((a 11)) x 13))]) (fun _ => rfl) 0 rfl rfl rfl (fun _ H locs hp14 hW => ?_)
    refine z_iconst (n := 1) hx hb dX11_endOf_17 ?_
    refine z_isub hx hb dX11_endOf_18 ?_
    refine lv_iload_n hx hb dX11_endOf_19 rfl (lv_at hl 2 rfl) ?_
    refine z_icmp_gt (tgt := 33) hx hb dX11_endOf_20 (by decide) ⟨by omega, by omega⟩ ⟨by omega, by omega⟩ (fun c20 => ?_) (fun c20 => ?_)
    · refine lv_aload_n hx hb dX11_endOf_33 rfl (lv_at hl 0 rfl) ?_
      refine lv_iload_n hx hb dX11_endOf_34 rfl (lv_at hl 1 rfl) ?_
      refine z_callV (As := [.int (iI x)]) (rest := []) F (c_endAsTold h q v a x  (show 0 ≤ x ∧ x < 6 by omega)) gX11_endOf_X11_endAsTold rfl ziX11_endAsTold ⟨rfl, rfl, by decide, by decide⟩ rfl hl.1 rfl (Nat.le_of_ble_eq_true rfl) dX11_endOf_35 ⟨Nat.zero_le _, Nat.zero_le _⟩ hW hA [0, 1, 2, 3, 4, 5, 6, 7, 8, 9, 10] rfl (by decide) (fun _ => rfl) (fun _ => mW cI cJ h q v a) (fun _ => rfl) (fun _ => [.int (iI (LF ((a 11)) x 0 + LF ((a 11)) x 1))]) (fun _ => rfl) 0 rfl rfl rfl (fun _ H locs hp35 hW => ?_)
      exact z_iret hx hb hr hlk hW () (by unfold END; first | exact if_pos (by omega) | exact if_neg (by omega)) trivial rfl dX11_endOf_38
    · refine lv_aload_n hx hb dX11_endOf_23 rfl (lv_at hl 0 rfl) ?_
      refine lv_iload_n hx hb dX11_endOf_24 rfl (lv_at hl 1 rfl) ?_
      refine z_bipush hx hb dX11_endOf_25 (by decide +kernel) ?_
      refine z_callV (As := [.int (iI x), .int (iI 12)]) (rest := []) F (c_its h q v a x 12  (show 0 ≤ 483 + 500 * x + 12 ∧ 483 + 500 * x + 12 < 3483 by omega)) gX11_endOf_X11_its rfl ziX11_its ⟨rfl, rfl, by decide, by decide⟩ rfl hl.1 rfl (Nat.le_of_ble_eq_true rfl) dX11_endOf_27 ⟨Nat.zero_le _, Nat.zero_le _⟩ hW hA [0, 1, 2, 3, 4, 5, 6, 7, 8, 9, 10] rfl (by decide) (fun _ => rfl) (fun _ => mW cI cJ h q v a) (fun _ => rfl) (fun _ => [.int (iI (LF ((a 11)) x 12))]) (fun _ => rfl) 0 rfl rfl rfl (fun _ H locs hp27 hW => ?_)
      refine lv_goto (tgt := 38) hx hb dX11_endOf_30 (by decide) ?_
      exact z_iret hx hb hr hlk hW () (by unfold END; first | exact if_pos (by omega) | exact if_neg (by omega)) trivial rfl dX11_endOf_38
theorem hiX11_reviewsOf_X11 : ∀ w ∈ wsX110, w ∈ wsX11_reviewsOf := fun _ h => List.mem_cons_of_mem _ (List.mem_append_right _ h)
theorem ziX11_reviewsOf : yX11_reviewsOf.cls = RX11 ∧ yX11_reviewsOf.cls ≠ "java/lang/invoke/MethodHandle" ∧ yX11_reviewsOf.cls ≠ "java/lang/invoke/VarHandle" ∧ (parseMethodDescriptor yX11_reviewsOf.desc).map (fun d => d.parameters.length) = some 1 := by decide +kernel
set_option maxHeartbeats 4000000 in
set_option maxRecDepth 100000 in
theorem c_reviewsOf {l : Launch} {G : va_G} {cI cJ cO : ClassId} (h : Nat) (q : Nat → Nat) (v : Nat → Int) (a : Nat → Int → Int) (x : Int)  (h1 : 0 ≤ x ∧ x < 6) (h2 : 0 ≤ LF (a 11) x 5 ∧ LF (a 11) x 5 ≤ 4) (h3 : 1 ≤ LF (a 11) x 1 ∧ LF (a 11) x 1 ≤ 120) (h4 : 1 ≤ LF (a 11) x 3 ∧ LF (a 11) x 3 ≤ 60) : zC l yX11_reviewsOf wsX11_reviewsOf { frames := 1, cells := 0, slots := 0, locals := 22 } G (tyZ cI cJ cO) (S := Unit) [.ref h, .int (iI x)] (mW cI cJ h q v a) (zI (fun _ => REV (a 11) x)) (fun _ => True) (fun _ => mW cI cJ h q v a) 0 0 := by
  refine z_start (cc := cX11_reviewsOf) (maxL := 2) (ret := (some .int)) (by decide) rfl (Nat.le_of_ble_eq_true rfl) ?_
  intro p e s m below meth c A ls F hr hlk hnm hAe hA hW hl
  have hx := F.1
  have hb := F.2.1
  have hown : s.vm.findClass RX11 = some m.cls := F.2.2.2.1
  have hts := F.2.2.2.2
  have hl : lv_has ls 2 [(0, .ref h), (1, .int (iI x))] := hl
  refine lv_aload_n hx hb dX11_reviewsOf_0 rfl (lv_at hl 0 rfl) ?_
  refine lv_iload_n hx hb dX11_reviewsOf_1 rfl (lv_at hl 1 rfl) ?_
  refine z_iconst (n := 5) hx hb dX11_reviewsOf_2 ?_
  refine z_callV (As := [.int (iI x), .int (iI 5)]) (rest := []) F (c_its h q v a x 5  (show 0 ≤ 483 + 500 * x + 5 ∧ 483 + 500 * x + 5 < 3483 by omega)) gX11_reviewsOf_X11_its rfl ziX11_its ⟨rfl, rfl, by decide, by decide⟩ rfl hl.1 rfl (Nat.le_of_ble_eq_true rfl) dX11_reviewsOf_3 ⟨Nat.zero_le _, Nat.zero_le _⟩ hW hA [0, 1, 2, 3, 4, 5, 6, 7, 8, 9, 10] rfl (by decide) (fun _ => rfl) (fun _ => mW cI cJ h q v a) (fun _ => rfl) (fun _ => [.int (iI (LF ((a 11)) x 5))]) (fun _ => rfl) 0 rfl rfl rfl (fun _ H locs hp3 hW => ?_)
  refine z_if_ne (tgt := 13) hx hb dX11_reviewsOf_6 (by decide) ⟨by omega, by omega⟩ (fun c6 => ?_) (fun c6 => ?_)
  · refine lv_aload_n hx hb dX11_reviewsOf_13 rfl (lv_at hl 0 rfl) ?_
    refine lv_iload_n hx hb dX11_reviewsOf_14 rfl (lv_at hl 1 rfl) ?_
    refine z_iconst (n := 1) hx hb dX11_reviewsOf_15 ?_
    refine z_callV (As := [.int (iI x), .int (iI 1)]) (rest := []) F (c_its h q v a x 1  (show 0 ≤ 483 + 500 * x + 1 ∧ 483 + 500 * x + 1 < 3483 by omega)) gX11_reviewsOf_X11_its rfl ziX11_its ⟨rfl, rfl, by decide, by decide⟩ rfl hl.1 rfl (Nat.le_of_ble_eq_true rfl) dX11_reviewsOf_16 ⟨Nat.zero_le _, Nat.zero_le _⟩ hW hA [0, 1, 2, 3, 4, 5, 6, 7, 8, 9, 10] rfl (by decide) (fun _ => rfl) (fun _ => mW cI cJ h q v a) (fun _ => rfl) (fun _ => [.int (iI (LF ((a 11)) x 1))]) (fun _ => rfl) 0 rfl rfl rfl (fun _ H locs hp16 hW => ?_)
    refine z_iconst (n := 1) hx hb dX11_reviewsOf_19 ?_
    refine z_isub hx hb dX11_reviewsOf_20 ?_
    refine lv_aload_n hx hb dX11_reviewsOf_21 rfl (lv_at hl 0 rfl) ?_
    refine lv_iload_n hx hb dX11_reviewsOf_22 rfl (lv_at hl 1 rfl) ?_
    refine z_iconst (n := 3) hx hb dX11_reviewsOf_23 ?_
    refine z_callV (As := [.int (iI x), .int (iI 3)]) (rest := [.int (iI ((LF ((a 11)) x 1) - 1))]) F (c_its h q v a x 3  (show 0 ≤ 483 + 500 * x + 3 ∧ 483 + 500 * x + 3 < 3483 by omega)) gX11_reviewsOf_X11_its rfl ziX11_its ⟨rfl, rfl, by decide, by decide⟩ rfl hl.1 rfl (Nat.le_of_ble_eq_true rfl) dX11_reviewsOf_24 ⟨Nat.zero_le _, Nat.zero_le _⟩ hW hA [0, 1, 2, 3, 4, 5, 6, 7, 8, 9, 10] rfl (by decide) (fun _ => rfl) (fun _ => mW cI cJ h q v a) (fun _ => rfl) (fun _ => [.int (iI (LF ((a 11)) x 3)), .int (iI ((LF ((a 11)) x 1) - 1))]) (fun _ => rfl) 0 rfl rfl rfl (fun _ H locs hp24 hW => ?_)
    refine z_idiv hx hb dX11_reviewsOf_27 ⟨by omega, by omega⟩ ⟨by omega, by omega⟩ (by omega) (by omega) ?_
    exact z_iret hx hb hr hlk hW () (by unfold REV; first | exact if_pos (by omega) | exact if_neg (by omega)) trivial rfl dX11_reviewsOf_28
  · refine z_iconst (n := 0) hx hb dX11_reviewsOf_9 ?_
    refine lv_goto (tgt := 28) hx hb dX11_reviewsOf_10 (by decide) ?_
    exact z_iret hx hb hr hlk hW () (by unfold REV; first | exact if_pos (by omega) | exact if_neg (by omega)) trivial rfl dX11_reviewsOf_28
theorem hiX11_monthOf_X11 : ∀ w ∈ wsX110, w ∈ wsX11_monthOf := fun _ h => List.mem_cons_of_mem _ (List.mem_append_right _ h)
theorem ziX11_monthOf : yX11_monthOf.cls = RX11 ∧ yX11_monthOf.cls ≠ "java/lang/invoke/MethodHandle" ∧ yX11_monthOf.cls ≠ "java/lang/invoke/VarHandle" ∧ (parseMethodDescriptor yX11_monthOf.desc).map (fun d => d.parameters.length) = some 2 := by decide +kernel
set_option maxHeartbeats 4000000 in
set_option maxRecDepth 100000 in
theorem c_monthOf {l : Launch} {G : va_G} {cI cJ cO : ClassId} (h : Nat) (q : Nat → Nat) (v : Nat → Int) (a : Nat → Int → Int) (x r : Int)  (h1 : 0 ≤ x ∧ x < 6) : zC l yX11_monthOf wsX11_monthOf { frames := 1, cells := 0, slots := 0, locals := 22 } G (tyZ cI cJ cO) (S := Unit) [.ref h, .int (iI x), .int (iI r)] (mW cI cJ h q v a) (zI (fun _ => LF (a 11) x 0 + r * LF (a 11) x 3)) (fun _ => True) (fun _ => mW cI cJ h q v a) 0 0 := by
  refine z_start (cc := cX11_monthOf) (maxL := 3) (ret := (some .int)) (by decide) rfl (Nat.le_of_ble_eq_true rfl) ?_
  intro p e s m below meth c A ls F hr hlk hnm hAe hA hW hl
  have hx := F.1
  have hb := F.2.1
  have hown : s.vm.findClass RX11 = some m.cls := F.2.2.2.1
  have hts := F.2.2.2.2
  have hl : lv_has ls 3 [(0, .ref h), (1, .int (iI x)), (2, .int (iI r))] := hl
  refine lv_aload_n hx hb dX11_monthOf_0 rfl (lv_at hl 0 rfl) ?_
  refine lv_iload_n hx hb dX11_monthOf_1 rfl (lv_at hl 1 rfl) ?_
  refine z_iconst (n := 0) hx hb dX11_monthOf_2 ?_
  refine z_callV (As := [.int (iI x), .int (iI 0)]) (rest := []) F (c_its h q v a x 0  (show 0 ≤ 483 + 500 * x + 0 ∧ 483 + 500 * x + 0 < 3483 by omega)) gX11_monthOf_X11_its rfl ziX11_its ⟨rfl, rfl, by decide, by decide⟩ rfl hl.1 rfl (Nat.le_of_ble_eq_true rfl) dX11_monthOf_3 ⟨Nat.zero_le _, Nat.zero_le _⟩ hW hA [0, 1, 2, 3, 4, 5, 6, 7, 8, 9, 10] rfl (by decide) (fun _ => rfl) (fun _ => mW cI cJ h q v a) (fun _ => rfl) (fun _ => [.int (iI (LF ((a 11)) x 0))]) (fun _ => rfl) 0 rfl rfl rfl (fun _ H locs hp3 hW => ?_)
  refine lv_iload_n hx hb dX11_monthOf_6 rfl (lv_at hl 2 rfl) ?_
  refine lv_aload_n hx hb dX11_monthOf_7 rfl (lv_at hl 0 rfl) ?_
  refine lv_iload_n hx hb dX11_monthOf_8 rfl (lv_at hl 1 rfl) ?_
  refine z_iconst (n := 3) hx hb dX11_monthOf_9 ?_
  refine z_callV (As := [.int (iI x), .int (iI 3)]) (rest := [.int (iI r), .int (iI (LF ((a 11)) x 0))]) F (c_its h q v a x 3  (show 0 ≤ 483 + 500 * x + 3 ∧ 483 + 500 * x + 3 < 3483 by omega)) gX11_monthOf_X11_its rfl ziX11_its ⟨rfl, rfl, by decide, by decide⟩ rfl hl.1 rfl (Nat.le_of_ble_eq_true rfl) dX11_monthOf_10 ⟨Nat.zero_le _, Nat.zero_le _⟩ hW hA [0, 1, 2, 3, 4, 5, 6, 7, 8, 9, 10] rfl (by decide) (fun _ => rfl) (fun _ => mW cI cJ h q v a) (fun _ => rfl) (fun _ => [.int (iI (LF ((a 11)) x 3)), .int (iI r), .int (iI (LF ((a 11)) x 0))]) (fun _ => rfl) 0 rfl rfl rfl (fun _ H locs hp10 hW => ?_)
  refine z_imul hx hb dX11_monthOf_13 ?_
  refine z_iadd hx hb dX11_monthOf_14 ?_
  exact z_iret hx hb hr hlk hW () (by first | rfl | omega) trivial rfl dX11_monthOf_15
