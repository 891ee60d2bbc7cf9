/-! constructors: objects of objects -/
theorem hiX4_init_X7 : ∀ w ∈ wsX70, w ∈ wsX4_init := fun _ h => List.mem_cons_of_mem _ (List.mem_append_left _ (List.mem_append_right _ h))
theorem hiX4_init_X4 : ∀ w ∈ wsX40, w ∈ wsX4_init := fun _ h => List.mem_cons_of_mem _ (List.mem_append_right _ h)
theorem ziX4_init : yX4_init.cls = RX4 ∧ yX4_init.cls ≠ "java/lang/invoke/MethodHandle" ∧ yX4_init.cls ≠ "java/lang/invoke/VarHandle" ∧ (parseMethodDescriptor yX4_init.desc).map (fun d => d.parameters.length) = some 0 := by decide +kernel
set_option maxRecDepth 100000 in
theorem c_X4_init {l : Launch} {G : va_G} {cI cJ cO : ClassId} (h : Nat) : zC l yX4_init wsX4_init { frames := 2, cells := 4, slots := 1808, locals := 40 } G (tyZ cI cJ cO) (S := Nat × Nat × Nat × Nat) [.ref h] [(h, .inr (4, [.null, .int (iI 0), .int (iI 0), .int (iI 0), .int (iI 0), .int (iI 0), .int (iI 0)]))] (zN) (fun _ => True) (fun u => [(h, .inr (4, [.ref (u.1), .int (iI 0), .int (iI 0), .int (iI 0), .int (iI 0), .int (iI 0), .int (iI 0)]))] ++ [((u.1), .inr (7, [.ref (u.2.1), .ref (u.2.2.1), .ref (u.2.2.2), .int (iI 0), .int (iI 0)])), ((u.2.1), .inl (cI, 601, .inl (aI (fun _ => 0)))), ((u.2.2.1), .inl (cI, 601, .inl (aI (fun _ => 0)))), ((u.2.2.2), .inl (cI, 601, .inl (aI (fun _ => 0))))]) 4 1808 := by
  refine z_start (cc := cX4_init) (maxL := 1) (ret := none) (by decide) rfl (Nat.le_of_ble_eq_true rfl) ?_
  intro p e s m below meth c A ls F hr hlk hnm hAe hA hW hl
  have hx := F.1
  have hb := F.2.1
  have hown : s.vm.findClass RX4 = some m.cls := F.2.2.2.1
  have hts := F.2.2.2.2
  have hl : lv_has ls 1 [(0, .ref h)] := hl
  refine lv_aload_n hx hb dX4_init_0 rfl (lv_at hl 0 rfl) ?_
  refine z_oinit F 1 rfl rfl rfl hl.1 (by decide) (by decide) (by decide) dX4_init_1 ?_
  refine lv_aload_n hx hb dX4_init_4 rfl (lv_at hl 0 rfl) ?_
  refine z_new (fs := [.null, .null, .null, .int (iI 0), .int (iI 0)]) hx hb hts hiX4_init_X7 tyX7 tyX7_ok hown 4 5 6 rfl rfl rfl hW hA (ci := 7) rfl (by decide) (by decide) (by decide) dX4_init_5 (fun q0 H hW => ?_)
  have hW : zW G (tyZ cI cJ cO) A s [(h, .inr (4, [.null, .int (iI 0), .int (iI 0), .int (iI 0), .int (iI 0), .int (iI 0), .int (iI 0)])), (q0, .inr (7, [.null, .null, .null, .int (iI 0), .int (iI 0)]))] H _ := hW
  refine lv_dup hx hb dX4_init_8 rfl ?_
  refine z_callI F (c_X7_init q0) gX4_init_X7_init rfl ziX7_init rfl 8 6 9 rfl rfl rfl ⟨rfl, rfl, by decide, by decide⟩ hl.1 (Nat.le_of_ble_eq_true rfl) dX4_init_9 ⟨by decide, by decide⟩ hW hA [1] rfl (by decide) (fun _ => rfl) (fun u => [(h, .inr (4, [.null, .int (iI 0), .int (iI 0), .int (iI 0), .int (iI 0), .int (iI 0), .int (iI 0)])), (q0, .inr (7, [.ref u.1, .ref u.2.1, .ref u.2.2, .int (iI 0), .int (iI 0)])), (u.1, .inl (cI, 601, .inl (aI (fun _ => 0)))), (u.2.1, .inl (cI, 601, .inl (aI (fun _ => 0)))), (u.2.2, .inl (cI, 601, .inl (aI (fun _ => 0))))]) (fun _ => rfl) (fun u H locs hp9 hW => ?_)
  obtain ⟨q1, q2, q3⟩ := u
  have hW : zW G (tyZ cI cJ cO) A s [(h, .inr (4, [.null, .int (iI 0), .int (iI 0), .int (iI 0), .int (iI 0), .int (iI 0), .int (iI 0)])), (q0, .inr (7, [.ref q1, .ref q2, .ref q3, .int (iI 0), .int (iI 0)])), (q1, .inl (cI, 601, .inl (aI (fun _ => 0)))), (q2, .inl (cI, 601, .inl (aI (fun _ => 0)))), (q3, .inl (cI, 601, .inl (aI (fun _ => 0))))] H locs := hW
  refine z_putF hx hb hts hiX4_init_X4 tyX4 tyX4_ok nmX4 hown hW 0 0 7 rfl rfl (by decide) (Nat.le_of_ble_eq_true rfl) rfl rfl hnm rfl rfl rfl dX4_init_12 (fun H locs hW => ?_)
  have hW : zW G (tyZ cI cJ cO) A s [(h, .inr (4, [.ref q0, .int (iI 0), .int (iI 0), .int (iI 0), .int (iI 0), .int (iI 0), .int (iI 0)])), (q0, .inr (7, [.ref q1, .ref q2, .ref q3, .int (iI 0), .int (iI 0)])), (q1, .inl (cI, 601, .inl (aI (fun _ => 0)))), (q2, .inl (cI, 601, .inl (aI (fun _ => 0)))), (q3, .inl (cI, 601, .inl (aI (fun _ => 0))))] H locs := hW
  exact z_vret hx hb hr hlk hW ⟨q0, q1, q2, q3⟩ trivial rfl dX4_init_15
theorem hiX2_init_X3 : ∀ w ∈ wsX30, w ∈ wsX2_init := fun _ h => List.mem_cons_of_mem _ (List.mem_append_left _ (List.mem_append_right _ h))
theorem hiX2_init_X2 : ∀ w ∈ wsX20, w ∈ wsX2_init := fun _ h => List.mem_cons_of_mem _ (List.mem_append_right _ h)
theorem ziX2_init : yX2_init.cls = RX2 ∧ yX2_init.cls ≠ "java/lang/invoke/MethodHandle" ∧ yX2_init.cls ≠ "java/lang/invoke/VarHandle" ∧ (parseMethodDescriptor yX2_init.desc).map (fun d => d.parameters.length) = some 0 := by decide +kernel
set_option maxRecDepth 100000 in
theorem c_X2_init {l : Launch} {G : va_G} {cI cJ cO : ClassId} (h : Nat) : zC l yX2_init wsX2_init { frames := 2, cells := 4, slots := 246, locals := 40 } G (tyZ cI cJ cO) (S := Nat × Nat × Nat × Nat) [.ref h] [(h, .inr (2, [.null, .null, .null, .null, .int (iI 0), .int (iI 0), .int (iI 0), .int (iI 0), .int (iI 0), .int (iI 0), .int (iI 0), .int (iI 0), .int (iI 0), .int (iI 0)]))] (zN) (fun _ => True) (fun u => [(h, .inr (2, [.ref (u.1), .ref (u.2.1), .ref (u.2.2.1), .ref (u.2.2.2), .int (iI 0), .int (iI 0), .int (iI 0), .int (iI 0), .int (iI 0), .int (iI 0), .int (iI 0), .int (iI 0), .int (iI 0), .int (iI 0)]))] ++ [((u.1), .inr (3, [.int (iI 0), .int (iI 0), .int (iI 0)])), ((u.2.1), .inr (3, [.int (iI 0), .int (iI 0), .int (iI 0)])), ((u.2.2.1), .inl (cI, 120, .inl (aI (fun _ => 0)))), ((u.2.2.2), .inl (cI, 120, .inl (aI (fun _ => 0))))]) 4 246 := by
  refine z_start (cc := cX2_init) (maxL := 1) (ret := none) (by decide) rfl (Nat.le_of_ble_eq_true rfl) ?_
  intro p e s m below meth c A ls F hr hlk hnm hAe hA hW hl
  have hx := F.1
  have hb := F.2.1
  have hown : s.vm.findClass RX2 = some m.cls := F.2.2.2.1
  have hts := F.2.2.2.2
  have hl : lv_has ls 1 [(0, .ref h)] := hl
  refine lv_aload_n hx hb dX2_init_0 rfl (lv_at hl 0 rfl) ?_
  refine z_oinit F 1 rfl rfl rfl hl.1 (by decide) (by decide) (by decide) dX2_init_1 ?_
  refine lv_aload_n hx hb dX2_init_4 rfl (lv_at hl 0 rfl) ?_
  refine z_new (fs := [.int (iI 0), .int (iI 0), .int (iI 0)]) hx hb hts hiX2_init_X3 tyX3 tyX3_ok hown 4 5 6 rfl rfl rfl hW hA (ci := 3) rfl (by decide) (by decide) (by decide) dX2_init_5 (fun q0 H hW => ?_)
  have hW : zW G (tyZ cI cJ cO) A s [(h, .inr (2, [.null, .null, .null, .null, .int (iI 0), .int (iI 0), .int (iI 0), .int (iI 0), .int (iI 0), .int (iI 0), .int (iI 0), .int (iI 0), .int (iI 0), .int (iI 0)])), (q0, .inr (3, [.int (iI 0), .int (iI 0), .int (iI 0)]))] H _ := hW
  refine lv_dup hx hb dX2_init_8 rfl ?_
  refine z_callI F (c_X3_init q0) gX2_init_X3_init rfl ziX3_init rfl 12 6 13 rfl rfl rfl ⟨rfl, rfl, by decide, by decide⟩ hl.1 (Nat.le_of_ble_eq_true rfl) dX2_init_9 ⟨by decide, by decide⟩ hW hA [1] rfl (by decide) (fun _ => rfl) (fun _ => [(h, .inr (2, [.null, .null, .null, .null, .int (iI 0), .int (iI 0), .int (iI 0), .int (iI 0), .int (iI 0), .int (iI 0), .int (iI 0), .int (iI 0), .int (iI 0), .int (iI 0)])), (q0, .inr (3, [.int (iI 0), .int (iI 0), .int (iI 0)]))]) (fun _ => rfl) (fun _ H locs hp9 hW => ?_)
  have hW : zW G (tyZ cI cJ cO) A s [(h, .inr (2, [.null, .null, .null, .null, .int (iI 0), .int (iI 0), .int (iI 0), .int (iI 0), .int (iI 0), .int (iI 0), .int (iI 0), .int (iI 0), .int (iI 0), .int (iI 0)])), (q0, .inr (3, [.int (iI 0), .int (iI 0), .int (iI 0)]))] H locs := hW
  refine z_putF hx hb hts hiX2_init_X2 tyX2 tyX2_ok nmX2 hown hW 0 0 7 rfl rfl (by decide) (Nat.le_of_ble_eq_true rfl) rfl rfl hnm rfl rfl rfl dX2_init_12 (fun H locs hW => ?_)
  have hW : zW G (tyZ cI cJ cO) A s [(h, .inr (2, [.ref q0, .null, .null, .null, .int (iI 0), .int (iI 0), .int (iI 0), .int (iI 0), .int (iI 0), .int (iI 0), .int (iI 0), .int (iI 0), .int (iI 0), .int (iI 0)])), (q0, .inr (3, [.int (iI 0), .int (iI 0), .int (iI 0)]))] H locs := hW
  refine lv_aload_n hx hb dX2_init_15 rfl (lv_at hl 0 rfl) ?_
  refine z_new (fs := [.int (iI 0), .int (iI 0), .int (iI 0)]) hx hb hts hiX2_init_X3 tyX3 tyX3_ok hown 4 5 6 rfl rfl rfl hW hA (ci := 3) rfl (by decide) (by decide) (by decide) dX2_init_16 (fun q1 H hW => ?_)
  have hW : zW G (tyZ cI cJ cO) A s [(h, .inr (2, [.ref q0, .null, .null, .null, .int (iI 0), .int (iI 0), .int (iI 0), .int (iI 0), .int (iI 0), .int (iI 0), .int (iI 0), .int (iI 0), .int (iI 0), .int (iI 0)])), (q0, .inr (3, [.int (iI 0), .int (iI 0), .int (iI 0)])), (q1, .inr (3, [.int (iI 0), .int (iI 0), .int (iI 0)]))] H _ := hW
  refine lv_dup hx hb dX2_init_19 rfl ?_
  refine z_callI F (c_X3_init q1) gX2_init_X3_init rfl ziX3_init rfl 12 6 13 rfl rfl rfl ⟨rfl, rfl, by decide, by decide⟩ hl.1 (Nat.le_of_ble_eq_true rfl) dX2_init_20 ⟨by decide, by decide⟩ hW hA [2] rfl (by decide) (fun _ => rfl) (fun _ => [(h, .inr (2, [.ref q0, .null, .null, .null, .int (iI 0), .int (iI 0), .int (iI 0), .int (iI 0), .int (iI 0), .int (iI 0), .int (iI 0), .int (iI 0), .int (iI 0), .int (iI 0)])), (q0, .inr (3, [.int (iI 0), .int (iI 0), .int (iI 0)])), (q1, .inr (3, [.int (iI 0), .int (iI 0), .int (iI 0)]))]) (fun _ => rfl) (fun _ H locs hp20 hW => ?_)
  have hW : zW G (tyZ cI cJ cO) A s [(h, .inr (2, [.ref q0, .null, .null, .null, .int (iI 0), .int (iI 0), .int (iI 0), .int (iI 0), .int (iI 0), .int (iI 0), .int (iI 0), .int (iI 0), .int (iI 0), .int (iI 0)])), (q0, .inr (3, [.int (iI 0), .int (iI 0), .int (iI 0)])), (q1, .inr (3, [.int (iI 0), .int (iI 0), .int (iI 0)]))] H locs := hW
  refine z_putF hx hb hts hiX2_init_X2 tyX2 tyX2_ok nmX2 hown hW 0 1 8 rfl rfl (by decide) (Nat.le_of_ble_eq_true rfl) rfl rfl hnm rfl rfl rfl dX2_init_23 (fun H locs hW => ?_)
  have hW : zW G (tyZ cI cJ cO) A s [(h, .inr (2, [.ref q0, .ref q1, .null, .null, .int (iI 0), .int (iI 0), .int (iI 0), .int (iI 0), .int (iI 0), .int (iI 0), .int (iI 0), .int (iI 0), .int (iI 0), .int (iI 0)])), (q0, .inr (3, [.int (iI 0), .int (iI 0), .int (iI 0)])), (q1, .inr (3, [.int (iI 0), .int (iI 0), .int (iI 0)]))] H locs := hW
  refine lv_aload_n hx hb dX2_init_26 rfl (lv_at hl 0 rfl) ?_
  refine z_bipush hx hb dX2_init_27 (by decide +kernel) ?_
  refine z_newaI (k := 120) hx hb (hts _ (List.mem_of_getElem? (i := 9) rfl)) hW hA 0 rfl rfl (by decide) (by decide) (by decide) dX2_init_29 (fun q2 H hW => ?_)
  refine z_putF hx hb hts hiX2_init_X2 tyX2 tyX2_ok nmX2 hown hW 0 2 10 rfl rfl (by decide) (Nat.le_of_ble_eq_true rfl) rfl rfl hnm rfl rfl rfl dX2_init_31 (fun H locs hW => ?_)
  have hW : zW G (tyZ cI cJ cO) A s [(h, .inr (2, [.ref q0, .ref q1, .ref q2, .null, .int (iI 0), .int (iI 0), .int (iI 0), .int (iI 0), .int (iI 0), .int (iI 0), .int (iI 0), .int (iI 0), .int (iI 0), .int (iI 0)])), (q0, .inr (3, [.int (iI 0), .int (iI 0), .int (iI 0)])), (q1, .inr (3, [.int (iI 0), .int (iI 0), .int (iI 0)])), (q2, .inl (cI, 120, .inl (aI (fun _ => 0))))] H locs := hW
  refine lv_aload_n hx hb dX2_init_34 rfl (lv_at hl 0 rfl) ?_
  refine z_bipush hx hb dX2_init_35 (by decide +kernel) ?_
  refine z_newaI (k := 120) hx hb (hts _ (List.mem_of_getElem? (i := 9) rfl)) hW hA 0 rfl rfl (by decide) (by decide) (by decide) dX2_init_37 (fun q3 H hW => ?_)
  refine z_putF hx hb hts hiX2_init_X2 tyX2 tyX2_ok nmX2 hown hW 0 3 11 rfl rfl (by decide) (Nat.le_of_ble_eq_true rfl) rfl rfl hnm rfl rfl rfl dX2_init_39 (fun H locs hW => ?_)
  have hW : zW G (tyZ cI cJ cO) A s [(h, .inr (2, [.ref q0, .ref q1, .ref q2, .ref q3, .int (iI 0), .int (iI 0), .int (iI 0), .int (iI 0), .int (iI 0), .int (iI 0), .int (iI 0), .int (iI 0), .int (iI 0), .int (iI 0)])), (q0, .inr (3, [.int (iI 0), .int (iI 0), .int (iI 0)])), (q1, .inr (3, [.int (iI 0), .int (iI 0), .int (iI 0)])), (q2, .inl (cI, 120, .inl (aI (fun _ => 0)))), (q3, .inl (cI, 120, .inl (aI (fun _ => 0))))] H locs := hW
  exact z_vret hx hb hr hlk hW ⟨q0, q1, q2, q3⟩ trivial rfl dX2_init_42
