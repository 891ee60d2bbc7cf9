/-! constructors: objects with rows -/
theorem ziX3_init : yX3_init.cls = RX3 ∧ yX3_init.cls ≠ "java/lang/invoke/MethodHandle" ∧ yX3_init.cls ≠ "java/lang/invoke/VarHandle" ∧ (parseMethodDescriptor yX3_init.desc).map (fun d => d.parameters.length) = some 0 := by decide +kernel
set_option maxRecDepth 100000 in
theorem c_X3_init {l : Launch} {G : va_G} {cI cJ cO : ClassId} (h : Nat) : zC l yX3_init wsX3_init { frames := 1, cells := 0, slots := 0, locals := 20 } G (tyZ cI cJ cO) (S := Unit) [.ref h] [(h, .inr (3, [.int (iI 0), .int (iI 0), .int (iI 0)]))] (zN) (fun _ => True) (fun _ => [(h, .inr (3, [.int (iI 0), .int (iI 0), .int (iI 0)]))] ++ []) 0 0 := by
  refine z_start (cc := cX3_init) (maxL := 1) (ret := none) (by decide) rfl (Nat.le_of_ble_eq_true rfl) ?_
  intro p e s m below meth c A ls F hr hlk hnm hAe hA hW hl
  have hx := F.1
  have hb := F.2.1
  have hown : s.vm.findClass RX3 = some m.cls := F.2.2.2.1
  have hts := F.2.2.2.2
  have hl : lv_has ls 1 [(0, .ref h)] := hl
  refine lv_aload_n hx hb dX3_init_0 rfl (lv_at hl 0 rfl) ?_
  refine z_oinit F 1 rfl rfl rfl hl.1 (by decide) (Nat.le_refl _) (Nat.le_refl _) dX3_init_1 ?_
  exact z_vret hx hb hr hlk hW () trivial rfl dX3_init_4
theorem ziX5_init : yX5_init.cls = RX5 ∧ yX5_init.cls ≠ "java/lang/invoke/MethodHandle" ∧ yX5_init.cls ≠ "java/lang/invoke/VarHandle" ∧ (parseMethodDescriptor yX5_init.desc).map (fun d => d.parameters.length) = some 0 := by decide +kernel
set_option maxRecDepth 100000 in
theorem c_X5_init {l : Launch} {G : va_G} {cI cJ cO : ClassId} (h : Nat) : zC l yX5_init wsX5_init { frames := 1, cells := 0, slots := 0, locals := 20 } G (tyZ cI cJ cO) (S := Unit) [.ref h] [(h, .inr (5, [.int (iI 0), .int (iI 0)]))] (zN) (fun _ => True) (fun _ => [(h, .inr (5, [.int (iI 0), .int (iI 0)]))] ++ []) 0 0 := by
  refine z_start (cc := cX5_init) (maxL := 1) (ret := none) (by decide) rfl (Nat.le_of_ble_eq_true rfl) ?_
  intro p e s m below meth c A ls F hr hlk hnm hAe hA hW hl
  have hx := F.1
  have hb := F.2.1
  have hown : s.vm.findClass RX5 = some m.cls := F.2.2.2.1
  have hts := F.2.2.2.2
  have hl : lv_has ls 1 [(0, .ref h)] := hl
  refine lv_aload_n hx hb dX5_init_0 rfl (lv_at hl 0 rfl) ?_
  refine z_oinit F 1 rfl rfl rfl hl.1 (by decide) (Nat.le_refl _) (Nat.le_refl _) dX5_init_1 ?_
  exact z_vret hx hb hr hlk hW () trivial rfl dX5_init_4
theorem hiX6_init_X6 : ∀ w ∈ wsX60, w ∈ wsX6_init := fun _ h => List.mem_cons_of_mem _ (List.mem_append_right _ h)
theorem ziX6_init : yX6_init.cls = RX6 ∧ yX6_init.cls ≠ "java/lang/invoke/MethodHandle" ∧ yX6_init.cls ≠ "java/lang/invoke/VarHandle" ∧ (parseMethodDescriptor yX6_init.desc).map (fun d => d.parameters.length) = some 0 := by decide +kernel
set_option maxRecDepth 100000 in
theorem c_X6_init {l : Launch} {G : va_G} {cI cJ cO : ClassId} (h : Nat) : zC l yX6_init wsX6_init { frames := 1, cells := 1, slots := 640, locals := 20 } G (tyZ cI cJ cO) (S := Nat) [.ref h] [(h, .inr (6, [.null, .int (iI 0)]))] (zN) (fun _ => True) (fun u => [(h, .inr (6, [.ref u, .int (iI 0)]))] ++ [(u, .inl (cI, 640, .inl (aI (fun _ => 0))))]) 1 640 := by
  refine z_start (cc := cX6_init) (maxL := 1) (ret := none) (by decide) rfl (Nat.le_of_ble_eq_true rfl) ?_
  intro p e s m below meth c A ls F hr hlk hnm hAe hA hW hl
  have hx := F.1
  have hb := F.2.1
  have hown : s.vm.findClass RX6 = some m.cls := F.2.2.2.1
  have hts := F.2.2.2.2
  have hl : lv_has ls 1 [(0, .ref h)] := hl
  refine lv_aload_n hx hb dX6_init_0 rfl (lv_at hl 0 rfl) ?_
  refine z_oinit F 1 rfl rfl rfl hl.1 (by decide) (Nat.le_refl _) (Nat.le_refl _) dX6_init_1 ?_
  refine lv_aload_n hx hb dX6_init_4 rfl (lv_at hl 0 rfl) ?_
  refine z_sipush hx hb dX6_init_5 (by decide +kernel) ?_
  refine z_newaI (k := 640) hx hb (hts _ (List.mem_of_getElem? (i := 4) rfl)) hW hA 0 rfl rfl (by decide) (by decide) (by decide) dX6_init_8 (fun q0 H hW => ?_)
  refine z_putF hx hb hts hiX6_init_X6 tyX6 tyX6_ok nmX6 hown hW 0 0 5 rfl rfl (by decide) (Nat.le_of_ble_eq_true rfl) rfl rfl hnm rfl rfl rfl dX6_init_10 (fun H locs hW => ?_)
  have hW : zW G (tyZ cI cJ cO) A s [(h, .inr (6, [.ref q0, .int (iI 0)])), (q0, .inl (cI, 640, .inl (aI (fun _ => 0))))] H locs := hW
  exact z_vret hx hb hr hlk hW q0 trivial rfl dX6_init_13
theorem hiX8_init_X8 : ∀ w ∈ wsX80, w ∈ wsX8_init := fun _ h => List.mem_cons_of_mem _ (List.mem_append_right _ h)
theorem ziX8_init : yX8_init.cls = RX8 ∧ yX8_init.cls ≠ "java/lang/invoke/MethodHandle" ∧ yX8_init.cls ≠ "java/lang/invoke/VarHandle" ∧ (parseMethodDescriptor yX8_init.desc).map (fun d => d.parameters.length) = some 0 := by decide +kernel
set_option maxRecDepth 100000 in
theorem c_X8_init {l : Launch} {G : va_G} {cI cJ cO : ClassId} (h : Nat) : zC l yX8_init wsX8_init { frames := 1, cells := 2, slots := 480, locals := 20 } G (tyZ cI cJ cO) (S := Nat × Nat) [.ref h] [(h, .inr (8, [.null, .null, .int (iI 0)]))] (zN) (fun _ => True) (fun u => [(h, .inr (8, [.ref (u.1), .ref (u.2), .int (iI 0)]))] ++ [(u.1, .inl (cI, 240, .inl (aI (fun _ => 0)))), (u.2, .inl (cI, 240, .inl (aI (fun _ => 0))))]) 2 480 := by
  refine z_start (cc := cX8_init) (maxL := 1) (ret := none) (by decide) rfl (Nat.le_of_ble_eq_true rfl) ?_
  intro p e s m below meth c A ls F hr hlk hnm hAe hA hW hl
  have hx := F.1
  have hb := F.2.1
  have hown : s.vm.findClass RX8 = some m.cls := F.2.2.2.1
  have hts := F.2.2.2.2
  have hl : lv_has ls 1 [(0, .ref h)] := hl
  refine lv_aload_n hx hb dX8_init_0 rfl (lv_at hl 0 rfl) ?_
  refine z_oinit F 1 rfl rfl rfl hl.1 (by decide) (Nat.le_refl _) (Nat.le_refl _) dX8_init_1 ?_
  refine lv_aload_n hx hb dX8_init_4 rfl (lv_at hl 0 rfl) ?_
  refine z_sipush hx hb dX8_init_5 (by decide +kernel) ?_
  refine z_newaI (k := 240) hx hb (hts _ (List.mem_of_getElem? (i := 4) rfl)) hW hA 0 rfl rfl (by decide) (by decide) (by decide) dX8_init_8 (fun q0 H hW => ?_)
  refine z_putF hx hb hts hiX8_init_X8 tyX8 tyX8_ok nmX8 hown hW 0 0 5 rfl rfl (by decide) (Nat.le_of_ble_eq_true rfl) rfl rfl hnm rfl rfl rfl dX8_init_10 (fun H locs hW => ?_)
  have hW : zW G (tyZ cI cJ cO) A s [(h, .inr (8, [.ref q0, .null, .int (iI 0)])), (q0, .inl (cI, 240, .inl (aI (fun _ => 0))))] H locs := hW
  refine lv_aload_n hx hb dX8_init_13 rfl (lv_at hl 0 rfl) ?_
  refine z_sipush hx hb dX8_init_14 (by decide +kernel) ?_
  refine z_newaI (k := 240) hx hb (hts _ (List.mem_of_getElem? (i := 4) rfl)) hW hA 0 rfl rfl (by decide) (by decide) (by decide) dX8_init_17 (fun q1 H hW => ?_)
  refine z_putF hx hb hts hiX8_init_X8 tyX8 tyX8_ok nmX8 hown hW 0 1 6 rfl rfl (by decide) (Nat.le_of_ble_eq_true rfl) rfl rfl hnm rfl rfl rfl dX8_init_19 (fun H locs hW => ?_)
  have hW : zW G (tyZ cI cJ cO) A s [(h, .inr (8, [.ref q0, .ref q1, .int (iI 0)])), (q0, .inl (cI, 240, .inl (aI (fun _ => 0)))), (q1, .inl (cI, 240, .inl (aI (fun _ => 0))))] H locs := hW
  exact z_vret hx hb hr hlk hW ⟨q0, q1⟩ trivial rfl dX8_init_22
theorem hiX0_init_X0 : ∀ w ∈ wsX00, w ∈ wsX0_init := fun _ h => List.mem_cons_of_mem _ (List.mem_append_right _ h)
theorem ziX0_init : yX0_init.cls = RX0 ∧ yX0_init.cls ≠ "java/lang/invoke/MethodHandle" ∧ yX0_init.cls ≠ "java/lang/invoke/VarHandle" ∧ (parseMethodDescriptor yX0_init.desc).map (fun d => d.parameters.length) = some 0 := by decide +kernel
set_option maxRecDepth 100000 in
theorem c_X0_init {l : Launch} {G : va_G} {cI cJ cO : ClassId} (h : Nat) : zC l yX0_init wsX0_init { frames := 1, cells := 3, slots := 30, locals := 20 } G (tyZ cI cJ cO) (S := Nat × Nat × Nat) [.ref h] [(h, .inr (0, [.null, .null, .null, .int (iI 0)]))] (zN) (fun _ => True) (fun u => [(h, .inr (0, [.ref (u.1), .ref (u.2.1), .ref (u.2.2), .int (iI 0)]))] ++ [(u.1, .inl (cI, 10, .inl (aI (fun _ => 0)))), (u.2.1, .inl (cI, 10, .inl (aI (fun _ => 0)))), (u.2.2, .inl (cI, 10, .inl (aI (fun _ => 0))))]) 3 30 := by
  refine z_start (cc := cX0_init) (maxL := 1) (ret := none) (by decide) rfl (Nat.le_of_ble_eq_true rfl) ?_
  intro p e s m below meth c A ls F hr hlk hnm hAe hA hW hl
  have hx := F.1
  have hb := F.2.1
  have hown : s.vm.findClass RX0 = some m.cls := F.2.2.2.1
  have hts := F.2.2.2.2
  have hl : lv_has ls 1 [(0, .ref h)] := hl
  refine lv_aload_n hx hb dX0_init_0 rfl (lv_at hl 0 rfl) ?_
  refine z_oinit F 1 rfl rfl rfl hl.1 (by decide) (Nat.le_refl _) (Nat.le_refl _) dX0_init_1 ?_
  refine lv_aload_n hx hb dX0_init_4 rfl (lv_at hl 0 rfl) ?_
  refine z_bipush hx hb dX0_init_5 (by decide +kernel) ?_
  refine z_newaI (k := 10) hx hb (hts _ (List.mem_of_getElem? (i := 4) rfl)) hW hA 0 rfl rfl (by decide) (by decide) (by decide) dX0_init_7 (fun q0 H hW => ?_)
  refine z_putF hx hb hts hiX0_init_X0 tyX0 tyX0_ok nmX0 hown hW 0 0 5 rfl rfl (by decide) (Nat.le_of_ble_eq_true rfl) rfl rfl hnm rfl rfl rfl dX0_init_9 (fun H locs hW => ?_)
  have hW : zW G (tyZ cI cJ cO) A s [(h, .inr (0, [.ref q0, .null, .null, .int (iI 0)])), (q0, .inl (cI, 10, .inl (aI (fun _ => 0))))] H locs := hW
  refine lv_aload_n hx hb dX0_init_12 rfl (lv_at hl 0 rfl) ?_
  refine z_bipush hx hb dX0_init_13 (by decide +kernel) ?_
  refine z_newaI (k := 10) hx hb (hts _ (List.mem_of_getElem? (i := 4) rfl)) hW hA 0 rfl rfl (by decide) (by decide) (by decide) dX0_init_15 (fun q1 H hW => ?_)
  refine z_putF hx hb hts hiX0_init_X0 tyX0 tyX0_ok nmX0 hown hW 0 1 6 rfl rfl (by decide) (Nat.le_of_ble_eq_true rfl) rfl rfl hnm rfl rfl rfl dX0_init_17 (fun H locs hW => ?_)
  have hW : zW G (tyZ cI cJ cO) A s [(h, .inr (0, [.ref q0, .ref q1, .null, .int (iI 0)])), (q0, .inl (cI, 10, .inl (aI (fun _ => 0)))), (q1, .inl (cI, 10, .inl (aI (fun _ => 0))))] H locs := hW
  refine lv_aload_n hx hb dX0_init_20 rfl (lv_at hl 0 rfl) ?_
  refine z_bipush hx hb dX0_init_21 (by decide +kernel) ?_
  refine z_newaI (k := 10) hx hb (hts _ (List.mem_of_getElem? (i := 4) rfl)) hW hA 0 rfl rfl (by decide) (by decide) (by decide) dX0_init_23 (fun q2 H hW => ?_)
  refine z_putF hx hb hts hiX0_init_X0 tyX0 tyX0_ok nmX0 hown hW 0 2 7 rfl rfl (by decide) (Nat.le_of_ble_eq_true rfl) rfl rfl hnm rfl rfl rfl dX0_init_25 (fun H locs hW => ?_)
  have hW : zW G (tyZ cI cJ cO) A s [(h, .inr (0, [.ref q0, .ref q1, .ref q2, .int (iI 0)])), (q0, .inl (cI, 10, .inl (aI (fun _ => 0)))), (q1, .inl (cI, 10, .inl (aI (fun _ => 0)))), (q2, .inl (cI, 10, .inl (aI (fun _ => 0))))] H locs := hW
  exact z_vret hx hb hr hlk hW ⟨q0, q1, q2⟩ trivial rfl dX0_init_28
theorem hiX9_init_X9 : ∀ w ∈ wsX90, w ∈ wsX9_init := fun _ h => List.mem_cons_of_mem _ (List.mem_append_right _ h)
theorem ziX9_init : yX9_init.cls = RX9 ∧ yX9_init.cls ≠ "java/lang/invoke/MethodHandle" ∧ yX9_init.cls ≠ "java/lang/invoke/VarHandle" ∧ (parseMethodDescriptor yX9_init.desc).map (fun d => d.parameters.length) = some 0 := by decide +kernel
set_option maxRecDepth 100000 in
theorem c_X9_init {l : Launch} {G : va_G} {cI cJ cO : ClassId} (h : Nat) : zC l yX9_init wsX9_init { frames := 1, cells := 1, slots := 240, locals := 20 } G (tyZ cI cJ cO) (S := Nat) [.ref h] [(h, .inr (9, [.null, .int (iI 0), .int (iI 0), .int (iI 0), .int (iI 0), .int (iI 0), .int (iI 0)]))] (zN) (fun _ => True) (fun u => [(h, .inr (9, [.ref u, .int (iI 0), .int (iI 0), .int (iI 0), .int (iI 0), .int (iI 0), .int (iI 0)]))] ++ [(u, .inl (cI, 240, .inl (aI (fun _ => 0))))]) 1 240 := by
  refine z_start (cc := cX9_init) (maxL := 1) (ret := none) (by decide) rfl (Nat.le_of_ble_eq_true rfl) ?_
  intro p e s m below meth c A ls F hr hlk hnm hAe hA hW hl
  have hx := F.1
  have hb := F.2.1
  have hown : s.vm.findClass RX9 = some m.cls := F.2.2.2.1
  have hts := F.2.2.2.2
  have hl : lv_has ls 1 [(0, .ref h)] := hl
  refine lv_aload_n hx hb dX9_init_0 rfl (lv_at hl 0 rfl) ?_
  refine z_oinit F 1 rfl rfl rfl hl.1 (by decide) (Nat.le_refl _) (Nat.le_refl _) dX9_init_1 ?_
  refine lv_aload_n hx hb dX9_init_4 rfl (lv_at hl 0 rfl) ?_
  refine z_sipush hx hb dX9_init_5 (by decide +kernel) ?_
  refine z_newaI (k := 240) hx hb (hts _ (List.mem_of_getElem? (i := 4) rfl)) hW hA 0 rfl rfl (by decide) (by decide) (by decide) dX9_init_8 (fun q0 H hW => ?_)
  refine z_putF hx hb hts hiX9_init_X9 tyX9 tyX9_ok nmX9 hown hW 0 0 5 rfl rfl (by decide) (Nat.le_of_ble_eq_true rfl) rfl rfl hnm rfl rfl rfl dX9_init_10 (fun H locs hW => ?_)
  have hW : zW G (tyZ cI cJ cO) A s [(h, .inr (9, [.ref q0, .int (iI 0), .int (iI 0), .int (iI 0), .int (iI 0), .int (iI 0), .int (iI 0)])), (q0, .inl (cI, 240, .inl (aI (fun _ => 0))))] H locs := hW
  exact z_vret hx hb hr hlk hW q0 trivial rfl dX9_init_13
theorem hiX7_init_X7 : ∀ w ∈ wsX70, w ∈ wsX7_init := fun _ h => List.mem_cons_of_mem _ (List.mem_append_right _ h)
theorem ziX7_init : yX7_init.cls = RX7 ∧ yX7_init.cls ≠ "java/lang/invoke/MethodHandle" ∧ yX7_init.cls ≠ "java/lang/invoke/VarHandle" ∧ (parseMethodDescriptor yX7_init.desc).map (fun d => d.parameters.length) = some 0 := by decide +kernel
set_option maxRecDepth 100000 in
theorem c_X7_init {l : Launch} {G : va_G} {cI cJ cO : ClassId} (h : Nat) : zC l yX7_init wsX7_init { frames := 1, cells := 3, slots := 1803, locals := 20 } G (tyZ cI cJ cO) (S := Nat × Nat × Nat) [.ref h] [(h, .inr (7, [.null, .null, .null, .int (iI 0), .int (iI 0)]))] (zN) (fun _ => True) (fun u => [(h, .inr (7, [.ref (u.1), .ref (u.2.1), .ref (u.2.2), .int (iI 0), .int (iI 0)]))] ++ [(u.1, .inl (cI, 601, .inl (aI (fun _ => 0)))), (u.2.1, .inl (cI, 601, .inl (aI (fun _ => 0)))), (u.2.2, .inl (cI, 601, .inl (aI (fun _ => 0))))]) 3 1803 := by
  refine z_start (cc := cX7_init) (maxL := 1) (ret := none) (by decide) rfl (Nat.le_of_ble_eq_true rfl) ?_
  intro p e s m below meth c A ls F hr hlk hnm hAe hA hW hl
  have hx := F.1
  have hb := F.2.1
  have hown : s.vm.findClass RX7 = some m.cls := F.2.2.2.1
  have hts := F.2.2.2.2
  have hl : lv_has ls 1 [(0, .ref h)] := hl
  refine lv_aload_n hx hb dX7_init_0 rfl (lv_at hl 0 rfl) ?_
  refine z_oinit F 1 rfl rfl rfl hl.1 (by decide) (Nat.le_refl _) (Nat.le_refl _) dX7_init_1 ?_
  refine lv_aload_n hx hb dX7_init_4 rfl (lv_at hl 0 rfl) ?_
  refine z_sipush hx hb dX7_init_5 (by decide +kernel) ?_
  refine z_newaI (k := 601) hx hb (hts _ (List.mem_of_getElem? (i := 4) rfl)) hW hA 0 rfl rfl (by decide) (by decide) (by decide) dX7_init_8 (fun q0 H hW => ?_)
  refine z_putF hx hb hts hiX7_init_X7 tyX7 tyX7_ok nmX7 hown hW 0 0 5 rfl rfl (by decide) (Nat.le_of_ble_eq_true rfl) rfl rfl hnm rfl rfl rfl dX7_init_10 (fun H locs hW => ?_)
  have hW : zW G (tyZ cI cJ cO) A s [(h, .inr (7, [.ref q0, .null, .null, .int (iI 0), .int (iI 0)])), (q0, .inl (cI, 601, .inl (aI (fun _ => 0))))] H locs := hW
  refine lv_aload_n hx hb dX7_init_13 rfl (lv_at hl 0 rfl) ?_
  refine z_sipush hx hb dX7_init_14 (by decide +kernel) ?_
  refine z_newaI (k := 601) hx hb (hts _ (List.mem_of_getElem? (i := 4) rfl)) hW hA 0 rfl rfl (by decide) (by decide) (by decide) dX7_init_17 (fun q1 H hW => ?_)
  refine z_putF hx hb hts hiX7_init_X7 tyX7 tyX7_ok nmX7 hown hW 0 1 6 rfl rfl (by decide) (Nat.le_of_ble_eq_true rfl) rfl rfl hnm rfl rfl rfl dX7_init_19 (fun H locs hW => ?_)
  have hW : zW G (tyZ cI cJ cO) A s [(h, .inr (7, [.ref q0, .ref q1, .null, .int (iI 0), .int (iI 0)])), (q0, .inl (cI, 601, .inl (aI (fun _ => 0)))), (q1, .inl (cI, 601, .inl (aI (fun _ => 0))))] H locs := hW
  refine lv_aload_n hx hb dX7_init_22 rfl (lv_at hl 0 rfl) ?_
  refine z_sipush hx hb dX7_init_23 (by decide +kernel) ?_
  refine z_newaI (k := 601) hx hb (hts _ (List.mem_of_getElem? (i := 4) rfl)) hW hA 0 rfl rfl (by decide) (by decide) (by decide) dX7_init_26 (fun q2 H hW => ?_)
  refine z_putF hx hb hts hiX7_init_X7 tyX7 tyX7_ok nmX7 hown hW 0 2 7 rfl rfl (by decide) (Nat.le_of_ble_eq_true rfl) rfl rfl hnm rfl rfl rfl dX7_init_28 (fun H locs hW => ?_)
  have hW : zW G (tyZ cI cJ cO) A s [(h, .inr (7, [.ref q0, .ref q1, .ref q2, .int (iI 0), .int (iI 0)])), (q0, .inl (cI, 601, .inl (aI (fun _ => 0)))), (q1, .inl (cI, 601, .inl (aI (fun _ => 0)))), (q2, .inl (cI, 601, .inl (aI (fun _ => 0))))] H locs := hW
  exact z_vret hx hb hr hlk hW ⟨q0, q1, q2⟩ trivial rfl dX7_init_31
theorem hiX11_init_X11 : ∀ w ∈ wsX110, w ∈ wsX11_init := fun _ h => List.mem_cons_of_mem _ (List.mem_append_right _ h)
theorem ziX11_init : yX11_init.cls = RX11 ∧ yX11_init.cls ≠ "java/lang/invoke/MethodHandle" ∧ yX11_init.cls ≠ "java/lang/invoke/VarHandle" ∧ (parseMethodDescriptor yX11_init.desc).map (fun d => d.parameters.length) = some 0 := by decide +kernel
set_option maxRecDepth 100000 in
theorem c_X11_init {l : Launch} {G : va_G} {cI cJ cO : ClassId} (h : Nat) : zC l yX11_init wsX11_init { frames := 1, cells := 10, slots := 43156, locals := 20 } G (tyZ cI cJ cO) (S := Nat × Nat × Nat × Nat × Nat × Nat × Nat × Nat × Nat × Nat) [.ref h] [(h, .inr (11, [.int (iI 0), .null, .int (iI 0), .int (iI 0), .int (iI 0), .int (iI 0), .int (iI 0), .int (iI 0), .int (iI 0), .int (iI 0), .long (lI 0), .null, .null, .null, .int (iI 0), .int (iI 0), .null, .null, .null, .null, .null, .null]))] (zN) (fun _ => True) (fun u => [(h, .inr (11, [.int (iI 0), .ref (u.1), .int (iI 0), .int (iI 0), .int (iI 0), .int (iI 0), .int (iI 0), .int (iI 0), .int (iI 0), .int (iI 0), .long (lI 0), .ref (u.2.1), .ref (u.2.2.1), .ref (u.2.2.2.1), .int (iI 0), .int (iI 0), .ref (u.2.2.2.2.1), .ref (u.2.2.2.2.2.1), .ref (u.2.2.2.2.2.2.1), .ref (u.2.2.2.2.2.2.2.1), .ref (u.2.2.2.2.2.2.2.2.1), .ref (u.2.2.2.2.2.2.2.2.2)]))] ++ [(u.1, .inl (cI, 640, .inl (aI (fun _ => 0)))), (u.2.1, .inl (cI, 3483, .inl (aI (fun _ => 0)))), (u.2.2.1, .inl (cI, 3483, .inl (aI (fun _ => 0)))), (u.2.2.2.1, .inl (cI, 34830, .inl (aI (fun _ => 0)))), (u.2.2.2.2.1, .inl (cJ, 120, .inr (.inl (aL (fun _ => 0))))), (u.2.2.2.2.2.1, .inl (cJ, 120, .inr (.inl (aL (fun _ => 0))))), (u.2.2.2.2.2.2.1, .inl (cJ, 120, .inr (.inl (aL (fun _ => 0))))), (u.2.2.2.2.2.2.2.1, .inl (cJ, 120, .inr (.inl (aL (fun _ => 0))))), (u.2.2.2.2.2.2.2.2.1, .inl (cI, 120, .inl (aI (fun _ => 0)))), (u.2.2.2.2.2.2.2.2.2, .inl (cJ, 120, .inr (.inl (aL (fun _ => 0)))))]) 10 43156 := by
  refine z_start (cc := cX11_init) (maxL := 1) (ret := none) (by decide) rfl (Nat.le_of_ble_eq_true rfl) ?_
  intro p e s m below meth c A ls F hr hlk hnm hAe hA hW hl
  have hx := F.1
  have hb := F.2.1
  have hown : s.vm.findClass RX11 = some m.cls := F.2.2.2.1
  have hts := F.2.2.2.2
  have hl : lv_has ls 1 [(0, .ref h)] := hl
  refine lv_aload_n hx hb dX11_init_0 rfl (lv_at hl 0 rfl) ?_
  refine z_oinit F 1 rfl rfl rfl hl.1 (by decide) (Nat.le_refl _) (Nat.le_refl _) dX11_init_1 ?_
  refine lv_aload_n hx hb dX11_init_4 rfl (lv_at hl 0 rfl) ?_
  refine z_sipush hx hb dX11_init_5 (by decide +kernel) ?_
  refine z_newaI (k := 640) hx hb (hts _ (List.mem_of_getElem? (i := 4) rfl)) hW hA 0 rfl rfl (by decide) (by decide) (by decide) dX11_init_8 (fun q0 H hW => ?_)
  refine z_putF hx hb hts hiX11_init_X11 tyX11 tyX11_ok nmX11 hown hW 0 1 5 rfl rfl (by decide) (Nat.le_of_ble_eq_true rfl) rfl rfl hnm rfl rfl rfl dX11_init_10 (fun H locs hW => ?_)
  have hW : zW G (tyZ cI cJ cO) A s [(h, .inr (11, [.int (iI 0), .ref q0, .int (iI 0), .int (iI 0), .int (iI 0), .int (iI 0), .int (iI 0), .int (iI 0), .int (iI 0), .int (iI 0), .long (lI 0), .null, .null, .null, .int (iI 0), .int (iI 0), .null, .null, .null, .null, .null, .null])), (q0, .inl (cI, 640, .inl (aI (fun _ => 0))))] H locs := hW
  refine lv_aload_n hx hb dX11_init_13 rfl (lv_at hl 0 rfl) ?_
  refine z_sipush hx hb dX11_init_14 (by decide +kernel) ?_
  refine z_newaI (k := 3483) hx hb (hts _ (List.mem_of_getElem? (i := 4) rfl)) hW hA 0 rfl rfl (by decide) (by decide) (by decide) dX11_init_17 (fun q1 H hW => ?_)
  refine z_putF hx hb hts hiX11_init_X11 tyX11 tyX11_ok nmX11 hown hW 0 11 6 rfl rfl (by decide) (Nat.le_of_ble_eq_true rfl) rfl rfl hnm rfl rfl rfl dX11_init_19 (fun H locs hW => ?_)
  have hW : zW G (tyZ cI cJ cO) A s [(h, .inr (11, [.int (iI 0), .ref q0, .int (iI 0), .int (iI 0), .int (iI 0), .int (iI 0), .int (iI 0), .int (iI 0), .int (iI 0), .int (iI 0), .long (lI 0), .ref q1, .null, .null, .int (iI 0), .int (iI 0), .null, .null, .null, .null, .null, .null])), (q0, .inl (cI, 640, .inl (aI (fun _ => 0)))), (q1, .inl (cI, 3483, .inl (aI (fun _ => 0))))] H locs := hW
  refine lv_aload_n hx hb dX11_init_22 rfl (lv_at hl 0 rfl) ?_
  refine z_sipush hx hb dX11_init_23 (by decide +kernel) ?_
  refine z_newaI (k := 3483) hx hb (hts _ (List.mem_of_getElem? (i := 4) rfl)) hW hA 0 rfl rfl (by decide) (by decide) (by decide) dX11_init_26 (fun q2 H hW => ?_)
  refine z_putF hx hb hts hiX11_init_X11 tyX11 tyX11_ok nmX11 hown hW 0 12 7 rfl rfl (by decide) (Nat.le_of_ble_eq_true rfl) rfl rfl hnm rfl rfl rfl dX11_init_28 (fun H locs hW => ?_)
  have hW : zW G (tyZ cI cJ cO) A s [(h, .inr (11, [.int (iI 0), .ref q0, .int (iI 0), .int (iI 0), .int (iI 0), .int (iI 0), .int (iI 0), .int (iI 0), .int (iI 0), .int (iI 0), .long (lI 0), .ref q1, .ref q2, .null, .int (iI 0), .int (iI 0), .null, .null, .null, .null, .null, .null])), (q0, .inl (cI, 640, .inl (aI (fun _ => 0)))), (q1, .inl (cI, 3483, .inl (aI (fun _ => 0)))), (q2, .inl (cI, 3483, .inl (aI (fun _ => 0))))] H locs := hW
  refine lv_aload_n hx hb dX11_init_31 rfl (lv_at hl 0 rfl) ?_
  refine z_ldc hx hb (34830) hown (hts _ (List.mem_of_getElem? (i := 8) rfl)) (by decide +kernel) dX11_init_32 ?_
  refine z_newaI (k := 34830) hx hb (hts _ (List.mem_of_getElem? (i := 4) rfl)) hW hA 0 rfl rfl (by decide) (by decide) (by decide) dX11_init_34 (fun q3 H hW => ?_)
  refine z_putF hx hb hts hiX11_init_X11 tyX11 tyX11_ok nmX11 hown hW 0 13 9 rfl rfl (by decide) (Nat.le_of_ble_eq_true rfl) rfl rfl hnm rfl rfl rfl dX11_init_36 (fun H locs hW => ?_)
  have hW : zW G (tyZ cI cJ cO) A s [(h, .inr (11, [.int (iI 0), .ref q0, .int (iI 0), .int (iI 0), .int (iI 0), .int (iI 0), .int (iI 0), .int (iI 0), .int (iI 0), .int (iI 0), .long (lI 0), .ref q1, .ref q2, .ref q3, .int (iI 0), .int (iI 0), .null, .null, .null, .null, .null, .null])), (q0, .inl (cI, 640, .inl (aI (fun _ => 0)))), (q1, .inl (cI, 3483, .inl (aI (fun _ => 0)))), (q2, .inl (cI, 3483, .inl (aI (fun _ => 0)))), (q3, .inl (cI, 34830, .inl (aI (fun _ => 0))))] H locs := hW
  refine lv_aload_n hx hb dX11_init_39 rfl (lv_at hl 0 rfl) ?_
  refine z_bipush hx hb dX11_init_40 (by decide +kernel) ?_
  refine z_newaL (k := 120) hx hb (hts _ (List.mem_of_getElem? (i := 10) rfl)) hW hA 1 rfl rfl (by decide) (by decide) (by decide) dX11_init_42 (fun q4 H hW => ?_)
  refine z_putF hx hb hts hiX11_init_X11 tyX11 tyX11_ok nmX11 hown hW 0 16 11 rfl rfl (by decide) (Nat.le_of_ble_eq_true rfl) rfl rfl hnm rfl rfl rfl dX11_init_44 (fun H locs hW => ?_)
  have hW : zW G (tyZ cI cJ cO) A s [(h, .inr (11, [.int (iI 0), .ref q0, .int (iI 0), .int (iI 0), .int (iI 0), .int (iI 0), .int (iI 0), .int (iI 0), .int (iI 0), .int (iI 0), .long (lI 0), .ref q1, .ref q2, .ref q3, .int (iI 0), .int (iI 0), .ref q4, .null, .null, .null, .null, .null])), (q0, .inl (cI, 640, .inl (aI (fun _ => 0)))), (q1, .inl (cI, 3483, .inl (aI (fun _ => 0)))), (q2, .inl (cI, 3483, .inl (aI (fun _ => 0)))), (q3, .inl (cI, 34830, .inl (aI (fun _ => 0)))), (q4, .inl (cJ, 120, .inr (.inl (aL (fun _ => 0)))))] H locs := hW
  refine lv_aload_n hx hb dX11_init_47 rfl (lv_at hl 0 rfl) ?_
  refine z_bipush hx hb dX11_init_48 (by decide +kernel) ?_
  refine z_newaL (k := 120) hx hb (hts _ (List.mem_of_getElem? (i := 10) rfl)) hW hA 1 rfl rfl (by decide) (by decide) (by decide) dX11_init_50 (fun q5 H hW => ?_)
  refine z_putF hx hb hts hiX11_init_X11 tyX11 tyX11_ok nmX11 hown hW 0 17 12 rfl rfl (by decide) (Nat.le_of_ble_eq_true rfl) rfl rfl hnm rfl rfl rfl dX11_init_52 (fun H locs hW => ?_)
  have hW : zW G (tyZ cI cJ cO) A s [(h, .inr (11, [.int (iI 0), .ref q0, .int (iI 0), .int (iI 0), .int (iI 0), .int (iI 0), .int (iI 0), .int (iI 0), .int (iI 0), .int (iI 0), .long (lI 0), .ref q1, .ref q2, .ref q3, .int (iI 0), .int (iI 0), .ref q4, .ref q5, .null, .null, .null, .null])), (q0, .inl (cI, 640, .inl (aI (fun _ => 0)))), (q1, .inl (cI, 3483, .inl (aI (fun _ => 0)))), (q2, .inl (cI, 3483, .inl (aI (fun _ => 0)))), (q3, .inl (cI, 34830, .inl (aI (fun _ => 0)))), (q4, .inl (cJ, 120, .inr (.inl (aL (fun _ => 0))))), (q5, .inl (cJ, 120, .inr (.inl (aL (fun _ => 0)))))] H locs := hW
  refine lv_aload_n hx hb dX11_init_55 rfl (lv_at hl 0 rfl) ?_
  refine z_bipush hx hb dX11_init_56 (by decide +kernel) ?_
  refine z_newaL (k := 120) hx hb (hts _ (List.mem_of_getElem? (i := 10) rfl)) hW hA 1 rfl rfl (by decide) (by decide) (by decide) dX11_init_58 (fun q6 H hW => ?_)
  refine z_putF hx hb hts hiX11_init_X11 tyX11 tyX11_ok nmX11 hown hW 0 18 13 rfl rfl (by decide) (Nat.le_of_ble_eq_true rfl) rfl rfl hnm rfl rfl rfl dX11_init_60 (fun H locs hW => ?_)
  have hW : zW G (tyZ cI cJ cO) A s [(h, .inr (11, [.int (iI 0), .ref q0, .int (iI 0), .int (iI 0), .int (iI 0), .int (iI 0), .int (iI 0), .int (iI 0), .int (iI 0), .int (iI 0), .long (lI 0), .ref q1, .ref q2, .ref q3, .int (iI 0), .int (iI 0), .ref q4, .ref q5, .ref q6, .null, .null, .null])), (q0, .inl (cI, 640, .inl (aI (fun _ => 0)))), (q1, .inl (cI, 3483, .inl (aI (fun _ => 0)))), (q2, .inl (cI, 3483, .inl (aI (fun _ => 0)))), (q3, .inl (cI, 34830, .inl (aI (fun _ => 0)))), (q4, .inl (cJ, 120, .inr (.inl (aL (fun _ => 0))))), (q5, .inl (cJ, 120, .inr (.inl (aL (fun _ => 0))))), (q6, .inl (cJ, 120, .inr (.inl (aL (fun _ => 0)))))] H locs := hW
  refine lv_aload_n hx hb dX11_init_63 rfl (lv_at hl 0 rfl) ?_
  refine z_bipush hx hb dX11_init_64 (by decide +kernel) ?_
  refine z_newaL (k := 120) hx hb (hts _ (List.mem_of_getElem? (i := 10) rfl)) hW hA 1 rfl rfl (by decide) (by decide) (by decide) dX11_init_66 (fun q7 H hW => ?_)
  refine z_putF hx hb hts hiX11_init_X11 tyX11 tyX11_ok nmX11 hown hW 0 19 14 rfl rfl (by decide) (Nat.le_of_ble_eq_true rfl) rfl rfl hnm rfl rfl rfl dX11_init_68 (fun H locs hW => ?_)
  have hW : zW G (tyZ cI cJ cO) A s [(h, .inr (11, [.int (iI 0), .ref q0, .int (iI 0), .int (iI 0), .int (iI 0), .int (iI 0), .int (iI 0), .int (iI 0), .int (iI 0), .int (iI 0), .long (lI 0), .ref q1, .ref q2, .ref q3, .int (iI 0), .int (iI 0), .ref q4, .ref q5, .ref q6, .ref q7, .null, .null])), (q0, .inl (cI, 640, .inl (aI (fun _ => 0)))), (q1, .inl (cI, 3483, .inl (aI (fun _ => 0)))), (q2, .inl (cI, 3483, .inl (aI (fun _ => 0)))), (q3, .inl (cI, 34830, .inl (aI (fun _ => 0)))), (q4, .inl (cJ, 120, .inr (.inl (aL (fun _ => 0))))), (q5, .inl (cJ, 120, .inr (.inl (aL (fun _ => 0))))), (q6, .inl (cJ, 120, .inr (.inl (aL (fun _ => 0))))), (q7, .inl (cJ, 120, .inr (.inl (aL (fun _ => 0)))))] H locs := hW
  refine lv_aload_n hx hb dX11_init_71 rfl (lv_at hl 0 rfl) ?_
  refine z_bipush hx hb dX11_init_72 (by decide +kernel) ?_
  refine z_newaI (k := 120) hx hb (hts _ (List.mem_of_getElem? (i := 4) rfl)) hW hA 0 rfl rfl (by decide) (by decide) (by decide) dX11_init_74 (fun q8 H hW => ?_)
  refine z_putF hx hb hts hiX11_init_X11 tyX11 tyX11_ok nmX11 hown hW 0 20 15 rfl rfl (by decide) (Nat.le_of_ble_eq_true rfl) rfl rfl hnm rfl rfl rfl dX11_init_76 (fun H locs hW => ?_)
  have hW : zW G (tyZ cI cJ cO) A s [(h, .inr (11, [.int (iI 0), .ref q0, .int (iI 0), .int (iI 0), .int (iI 0), .int (iI 0), .int (iI 0), .int (iI 0), .int (iI 0), .int (iI 0), .long (lI 0), .ref q1, .ref q2, .ref q3, .int (iI 0), .int (iI 0), .ref q4, .ref q5, .ref q6, .ref q7, .ref q8, .null])), (q0, .inl (cI, 640, .inl (aI (fun _ => 0)))), (q1, .inl (cI, 3483, .inl (aI (fun _ => 0)))), (q2, .inl (cI, 3483, .inl (aI (fun _ => 0)))), (q3, .inl (cI, 34830, .inl (aI (fun _ => 0)))), (q4, .inl (cJ, 120, .inr (.inl (aL (fun _ => 0))))), (q5, .inl (cJ, 120, .inr (.inl (aL (fun _ => 0))))), (q6, .inl (cJ, 120, .inr (.inl (aL (fun _ => 0))))), (q7, .inl (cJ, 120, .inr (.inl (aL (fun _ => 0))))), (q8, .inl (cI, 120, .inl (aI (fun _ => 0))))] H locs := hW
  refine lv_aload_n hx hb dX11_init_79 rfl (lv_at hl 0 rfl) ?_
  refine z_bipush hx hb dX11_init_80 (by decide +kernel) ?_
  refine z_newaL (k := 120) hx hb (hts _ (List.mem_of_getElem? (i := 10) rfl)) hW hA 1 rfl rfl (by decide) (by decide) (by decide) dX11_init_82 (fun q9 H hW => ?_)
  refine z_putF hx hb hts hiX11_init_X11 tyX11 tyX11_ok nmX11 hown hW 0 21 16 rfl rfl (by decide) (Nat.le_of_ble_eq_true rfl) rfl rfl hnm rfl rfl rfl dX11_init_84 (fun H locs hW => ?_)
  have hW : zW G (tyZ cI cJ cO) A s [(h, .inr (11, [.int (iI 0), .ref q0, .int (iI 0), .int (iI 0), .int (iI 0), .int (iI 0), .int (iI 0), .int (iI 0), .int (iI 0), .int (iI 0), .long (lI 0), .ref q1, .ref q2, .ref q3, .int (iI 0), .int (iI 0), .ref q4, .ref q5, .ref q6, .ref q7, .ref q8, .ref q9])), (q0, .inl (cI, 640, .inl (aI (fun _ => 0)))), (q1, .inl (cI, 3483, .inl (aI (fun _ => 0)))), (q2, .inl (cI, 3483, .inl (aI (fun _ => 0)))), (q3, .inl (cI, 34830, .inl (aI (fun _ => 0)))), (q4, .inl (cJ, 120, .inr (.inl (aL (fun _ => 0))))), (q5, .inl (cJ, 120, .inr (.inl (aL (fun _ => 0))))), (q6, .inl (cJ, 120, .inr (.inl (aL (fun _ => 0))))), (q7, .inl (cJ, 120, .inr (.inl (aL (fun _ => 0))))), (q8, .inl (cI, 120, .inl (aI (fun _ => 0)))), (q9, .inl (cJ, 120, .inr (.inl (aL (fun _ => 0)))))] H locs := hW
  exact z_vret hx hb hr hlk hW ⟨q0, q1, q2, q3, q4, q5, q6, q7, q8, q9⟩ trivial rfl dX11_init_87
