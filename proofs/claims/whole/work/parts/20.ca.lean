/-! the class: rows filled, limits, values, leases -/
theorem ziJ7_fill_53178 : yJ7_fill_53178.cls = RJ7 ∧ yJ7_fill_53178.cls ≠ "java/lang/invoke/MethodHandle" ∧ yJ7_fill_53178.cls ≠ "java/lang/invoke/VarHandle" ∧ (parseMethodDescriptor yJ7_fill_53178.desc).map (fun d => d.parameters.length) = some 2 := by decide +kernel
set_option maxHeartbeats 4000000 in
set_option maxRecDepth 100000 in
theorem c_fill {l : Launch} {G : va_G} {cI cJ cO : ClassId} (b n : Nat) (f : Int → Int) (z : Int) (hn : n < 2147483648) : zC l yJ7_fill_53178 wsJ7_fill_53178 { frames := 0, cells := 0, slots := 0, locals := 0 } G (tyZ cI cJ cO) (S := Unit) [.ref b, .int (iI z)] [(b, .inl (cI, n, .inl (aI f)))] zN (fun _ => True) (fun _ => [(b, .inl (cI, n, .inl (aI (fun _ => z))))]) 0 0 := by
  refine z_start (cc := cJ7_fill_53178) (maxL := 4) (ret := none) (by decide) rfl (Nat.le_of_ble_eq_true rfl) ?_
  intro p e s m below meth c A ls F hr hlk hnm hAe hA hW hl
  have hx := F.1
  have hb := F.2.1
  have hl : lv_has ls 4 [(0, .ref b), (1, .int (iI z))] := hl
  refine z_iconst (n := 0) hx hb dJ7_fill_53178_0 ?_
  refine lv_istore_n (lv' := [(2, .int (iI 0)), (0, .ref b), (1, .int (iI z))]) hx hb dJ7_fill_53178_1 rfl hl (by decide) rfl (fun ls hl => ?_)
  refine lv_aload_n hx hb dJ7_fill_53178_2 rfl (lv_at hl 1 rfl) ?_
  refine z_alen hx hb hW 0 0 rfl rfl dJ7_fill_53178_3 ?_
  refine lv_istore_n (lv' := [(3, .int (iI (n : Int))), (2, .int (iI 0)), (0, .ref b), (1, .int (iI z))]) hx hb dJ7_fill_53178_4 rfl hl (by decide) rfl (fun ls hl => ?_)
  refine z_loop2 (fun (i : Int) (g : Int → Int) (ls : Array Slot) (H : Heap) (locs : List Loc) => (0 ≤ i ∧ i ≤ n) ∧ (∀ j, 0 ≤ j → j < i → g j = z) ∧ zW G (tyZ cI cJ cO) A s [(b, .inl (cI, n, .inl (aI g)))] H locs ∧ lv_has ls 4 [(2, .int (iI i)), (3, .int (iI (n : Int))), (0, .ref b), (1, .int (iI z))]) (fun i g => ((n : Int) - i).toNat) ?_ 0 f _ _ _ ⟨by omega, fun j j0 j1 => by omega, hW, lv_sub hl [1, 0, 2, 3] rfl⟩
  intro i g ls H locs hI ih
  obtain ⟨i1, i2, hW, hl⟩ := hI
  refine lv_iload_n hx hb dJ7_fill_53178_5 rfl (lv_at hl 0 rfl) ?_
  refine lv_iload_n hx hb dJ7_fill_53178_6 rfl (lv_at hl 1 rfl) ?_
  refine z_icmp_ge (tgt := 20) hx hb dJ7_fill_53178_7 (by decide) ⟨by omega, by omega⟩ ⟨by omega, by omega⟩ (fun c7 => ?_) (fun c7 => ?_)
  · have hW := z_row hW 0 (fun _ => z) rfl (fun j j0 j1 => i2 j j0 (by omega))
    exact z_vret hx hb hr hlk hW () trivial rfl dJ7_fill_53178_20
  · refine lv_aload_n hx hb dJ7_fill_53178_10 rfl (lv_at hl 2 rfl) ?_
    refine lv_iload_n hx hb dJ7_fill_53178_11 rfl (lv_at hl 0 rfl) ?_
    refine lv_iload_n hx hb dJ7_fill_53178_12 rfl (lv_at hl 3 rfl) ?_
    refine z_iast (f := g) (i := i) (z := z) hx hb hW 0 0 rfl rfl hn ⟨by omega, by omega⟩ dJ7_fill_53178_13 (fun H locs hW => ?_)
    refine z_iinc (k := 0) (lv' := [(2, .int (iI (i + 1))), (3, .int (iI (n : Int))), (0, .ref b), (1, .int (iI z))]) hx hb dJ7_fill_53178_14 hl rfl (by decide) rfl (fun ls hl => ?_)
    refine lv_goto (tgt := 5) hx hb dJ7_fill_53178_17 (by decide) ?_
    exact ih (i + 1) _ _ _ _ ⟨by omega, fun j j0 j1 => (by by_cases je : j = i; (subst je; exact uI_s); (rw [uI_n je]; exact i2 j j0 (by omega))), hW, lv_sub hl [0, 1, 2, 3] rfl⟩ (by omega)
theorem hiX3_clear_X3 : ∀ w ∈ wsX30, w ∈ wsX3_clear := fun _ h => List.mem_cons_of_mem _ (List.mem_append_right _ h)
theorem ziX3_clear : yX3_clear.cls = RX3 ∧ yX3_clear.cls ≠ "java/lang/invoke/MethodHandle" ∧ yX3_clear.cls ≠ "java/lang/invoke/VarHandle" ∧ (parseMethodDescriptor yX3_clear.desc).map (fun d => d.parameters.length) = some 0 := by decide +kernel
set_option maxHeartbeats 4000000 in
set_option maxRecDepth 100000 in
theorem c_X3_clear {l : Launch} {G : va_G} {cI cJ cO : ClassId}  (h : Nat) (q : Nat → Nat) (v : Nat → Int) (a : Nat → Int → Int)    : zC l yX3_clear wsX3_clear { frames := 0, cells := 0, slots := 0, locals := 0 } G (tyZ cI cJ cO) (S := Unit) [.ref h] (uW cI cJ h q v a) (zN) (fun _ => True) (fun _ => uW cI cJ h q (uV (uV (uV v 0 0) 1 0) 2 0) a) 0 0 := by
  refine z_start (cc := cX3_clear) (maxL := 1) (ret := none) (by decide) rfl (Nat.le_of_ble_eq_true rfl) ?_
  intro p e s m below meth c A ls F hr hlk hnm hAe hA hW hl
  have hx := F.1
  have hb := F.2.1
  have hown : s.vm.findClass RX3 = some m.cls := F.2.2.2.1
  have hts := F.2.2.2.2
  have hl : lv_has ls 1 [(0, .ref h)] := hl
  refine lv_aload_n hx hb dX3_clear_0 rfl (lv_at hl 0 rfl) ?_
  refine z_iconst (n := 0) hx hb dX3_clear_1 ?_
  refine z_put hx hb hts hiX3_clear_X3 tyX3 tyX3_ok nmX3 hown hW 0 0 1 rfl rfl (by decide) (Nat.le_of_ble_eq_true rfl) rfl rfl (by decide +kernel) (by decide +kernel) dX3_clear_2 (fun H locs hW => ?_)
  have hW : zW G (tyZ cI cJ cO) A s (uW cI cJ h q (uV v 0 0) a) H locs := hW
  refine lv_aload_n hx hb dX3_clear_5 rfl (lv_at hl 0 rfl) ?_
  refine z_iconst (n := 0) hx hb dX3_clear_6 ?_
  refine z_put hx hb hts hiX3_clear_X3 tyX3 tyX3_ok nmX3 hown hW 0 1 2 rfl rfl (by decide) (Nat.le_of_ble_eq_true rfl) rfl rfl rfl rfl dX3_clear_7 (fun H locs hW => ?_)
  have hW : zW G (tyZ cI cJ cO) A s (uW cI cJ h q (uV (uV v 0 0) 1 0) a) H locs := hW
  refine lv_aload_n hx hb dX3_clear_10 rfl (lv_at hl 0 rfl) ?_
  refine z_iconst (n := 0) hx hb dX3_clear_11 ?_
  refine z_put hx hb hts hiX3_clear_X3 tyX3 tyX3_ok nmX3 hown hW 0 2 3 rfl rfl (by decide) (Nat.le_of_ble_eq_true rfl) rfl rfl rfl rfl dX3_clear_12 (fun H locs hW => ?_)
  have hW : zW G (tyZ cI cJ cO) A s (uW cI cJ h q (uV (uV (uV v 0 0) 1 0) 2 0) a) H locs := hW
  exact z_vret hx hb hr hlk hW () trivial rfl dX3_clear_15
theorem hiX2_clear_X2 : ∀ w ∈ wsX20, w ∈ wsX2_clear := fun _ h => List.mem_cons_of_mem _ (List.mem_append_left _ (List.mem_append_right _ h))
theorem hiX2_clear_X3 : ∀ w ∈ wsX30, w ∈ wsX2_clear := fun _ h => List.mem_cons_of_mem _ (List.mem_append_right _ h)
theorem ziX2_clear : yX2_clear.cls = RX2 ∧ yX2_clear.cls ≠ "java/lang/invoke/MethodHandle" ∧ yX2_clear.cls ≠ "java/lang/invoke/VarHandle" ∧ (parseMethodDescriptor yX2_clear.desc).map (fun d => d.parameters.length) = some 0 := by decide +kernel
set_option maxHeartbeats 4000000 in
set_option maxRecDepth 100000 in
theorem c_X2_clear {l : Launch} {G : va_G} {cI cJ cO : ClassId}  (h : Nat) (q : Nat → Nat) (v : Nat → Int) (a : Nat → Int → Int)    : zC l yX2_clear wsX2_clear { frames := 1, cells := 0, slots := 0, locals := 23 } G (tyZ cI cJ cO) (S := Unit) [.ref h] (lW cI cJ h q v a) (zN) (fun _ => True) (fun _ => lW cI cJ h q (uV (uV (uV (uV (uV (uV (uV (uV (uV (uV (uV (uV (uV (uV (uV (uV v 20 0) 21 0) 22 0) 30 0) 31 0) 32 0) 4 0) 5 0) 6 0) 7 0) 8 0) 9 0) 10 0) 11 0) 12 (-1)) 13 240) (uA (uA a 2 (fun _ => 0)) 3 (fun _ => 240))) 0 0 := by
  refine z_start (cc := cX2_clear) (maxL := 1) (ret := none) (by decide) rfl (Nat.le_of_ble_eq_true rfl) ?_
  intro p e s m below meth c A ls F hr hlk hnm hAe hA hW hl
  have hx := F.1
  have hb := F.2.1
  have hown : s.vm.findClass RX2 = some m.cls := F.2.2.2.1
  have hts := F.2.2.2.2
  have hl : lv_has ls 1 [(0, .ref h)] := hl
  refine lv_aload_n hx hb dX2_clear_0 rfl (lv_at hl 0 rfl) ?_
  refine z_get (v := .ref (q 0)) hx hb hts hiX2_clear_X2 hown hW 0 0 1 rfl rfl rfl (by decide) rfl dX2_clear_1 ?_
  refine z_callV (As := []) (rest := []) F (c_X3_clear (q 0) q (fun k => v (20 + k)) a ) gX2_clear_X3_clear rfl ziX3_clear ⟨rfl, rfl, by decide, by decide⟩ rfl hl.1 rfl (Nat.le_of_ble_eq_true rfl) dX2_clear_4 ⟨Nat.zero_le _, Nat.zero_le _⟩ hW hA [1] rfl (by decide) (fun _ => rfl) (fun _ => lW cI cJ h q (uV (uV (uV v 20 0) 21 0) 22 0) a) (fun _ => rfl) (fun _ => []) (fun _ => rfl) 1 rfl rfl rfl (fun _ H locs hp4 hW => ?_)
  have hW : zW G (tyZ cI cJ cO) A s (lW cI cJ h q (uV (uV (uV v 20 0) 21 0) 22 0) a) H locs := hW
  refine lv_aload_n hx hb dX2_clear_7 rfl (lv_at hl 0 rfl) ?_
  refine z_get (v := .ref (q 1)) hx hb hts hiX2_clear_X2 hown hW 0 1 2 rfl rfl rfl (by decide) rfl dX2_clear_8 ?_
  refine z_callV (As := []) (rest := []) F (c_X3_clear (q 1) q (fun k => (uV (uV (uV v 20 0) 21 0) 22 0) (30 + k)) a ) gX2_clear_X3_clear rfl ziX3_clear ⟨rfl, rfl, by decide, by decide⟩ rfl hl.1 rfl (Nat.le_of_ble_eq_true rfl) dX2_clear_11 ⟨Nat.zero_le _, Nat.zero_le _⟩ hW hA [2] rfl (by decide) (fun _ => rfl) (fun _ => lW cI cJ h q (uV (uV (uV (uV (uV (uV v 20 0) 21 0) 22 0) 30 0) 31 0) 32 0) a) (fun _ => rfl) (fun _ => []) (fun _ => rfl) 2 rfl rfl rfl (fun _ H locs hp11 hW => ?_)
  have hW : zW G (tyZ cI cJ cO) A s (lW cI cJ h q (uV (uV (uV (uV (uV (uV v 20 0) 21 0) 22 0) 30 0) 31 0) 32 0) a) H locs := hW
  refine lv_aload_n hx hb dX2_clear_14 rfl (lv_at hl 0 rfl) ?_
  refine z_get (v := .ref (q 2)) hx hb hts hiX2_clear_X2 hown hW 0 2 3 rfl rfl rfl (by decide) rfl dX2_clear_15 ?_
  refine z_iconst (n := 0) hx hb dX2_clear_18 ?_
  refine z_callS (As := [.ref (q 2), .int (iI 0)]) (rest := []) F (c_fill (q 2) 120 (a 2) 0 (by decide)) gX2_clear_J7_fill_53178 rfl ziJ7_fill_53178 ⟨rfl, rfl, by decide, by decide⟩ rfl hl.1 rfl (Nat.le_of_ble_eq_true rfl) dX2_clear_19 ⟨Nat.zero_le _, Nat.zero_le _⟩ hW hA [3] rfl (by decide) (fun _ => rfl) (fun _ => lW cI cJ h q (uV (uV (uV (uV (uV (uV v 20 0) 21 0) 22 0) 30 0) 31 0) 32 0) (uA a 2 (fun _ => 0))) (fun _ => rfl) (fun _ => []) (fun _ => rfl) (fun _ H locs hp19 hW => ?_)
  have hW : zW G (tyZ cI cJ cO) A s (lW cI cJ h q (uV (uV (uV (uV (uV (uV v 20 0) 21 0) 22 0) 30 0) 31 0) 32 0) (uA a 2 (fun _ => 0))) H locs := hW
  refine lv_aload_n hx hb dX2_clear_22 rfl (lv_at hl 0 rfl) ?_
  refine z_get (v := .ref (q 3)) hx hb hts hiX2_clear_X2 hown hW 0 3 4 rfl rfl rfl (by decide) rfl dX2_clear_23 ?_
  refine z_sipush hx hb dX2_clear_26 (by decide +kernel) ?_
  refine z_callS (As := [.ref (q 3), .int (iI 240)]) (rest := []) F (c_fill (q 3) 120 (a 3) 240 (by decide)) gX2_clear_J7_fill_53178 rfl ziJ7_fill_53178 ⟨rfl, rfl, by decide, by decide⟩ rfl hl.1 rfl (Nat.le_of_ble_eq_true rfl) dX2_clear_29 ⟨Nat.zero_le _, Nat.zero_le _⟩ hW hA [4] rfl (by decide) (fun _ => rfl) (fun _ => lW cI cJ h q (uV (uV (uV (uV (uV (uV v 20 0) 21 0) 22 0) 30 0) 31 0) 32 0) (uA (uA a 2 (fun _ => 0)) 3 (fun _ => 240))) (fun _ => rfl) (fun _ => []) (fun _ => rfl) (fun _ H locs hp29 hW => ?_)
  have hW : zW G (tyZ cI cJ cO) A s (lW cI cJ h q (uV (uV (uV (uV (uV (uV v 20 0) 21 0) 22 0) 30 0) 31 0) 32 0) (uA (uA a 2 (fun _ => 0)) 3 (fun _ => 240))) H locs := hW
  refine lv_aload_n hx hb dX2_clear_32 rfl (lv_at hl 0 rfl) ?_
  refine z_iconst (n := 0) hx hb dX2_clear_33 ?_
  refine z_put hx hb hts hiX2_clear_X2 tyX2 tyX2_ok nmX2 hown hW 0 4 5 rfl rfl (by decide) (Nat.le_of_ble_eq_true rfl) rfl rfl rfl rfl dX2_clear_34 (fun H locs hW => ?_)
  have hW : zW G (tyZ cI cJ cO) A s (lW cI cJ h q (uV (uV (uV (uV (uV (uV (uV v 20 0) 21 0) 22 0) 30 0) 31 0) 32 0) 4 0) (uA (uA a 2 (fun _ => 0)) 3 (fun _ => 240))) H locs := hW
  refine lv_aload_n hx hb dX2_clear_37 rfl (lv_at hl 0 rfl) ?_
  refine z_iconst (n := 0) hx hb dX2_clear_38 ?_
  refine z_put hx hb hts hiX2_clear_X2 tyX2 tyX2_ok nmX2 hown hW 0 5 6 rfl rfl (by decide) (Nat.le_of_ble_eq_true rfl) rfl rfl rfl rfl dX2_clear_39 (fun H locs hW => ?_)
  have hW : zW G (tyZ cI cJ cO) A s (lW cI cJ h q (uV (uV (uV (uV (uV (uV (uV (uV v 20 0) 21 0) 22 0) 30 0) 31 0) 32 0) 4 0) 5 0) (uA (uA a 2 (fun _ => 0)) 3 (fun _ => 240))) H locs := hW
  refine lv_aload_n hx hb dX2_clear_42 rfl (lv_at hl 0 rfl) ?_
  refine z_iconst (n := 0) hx hb dX2_clear_43 ?_
  refine z_put hx hb hts hiX2_clear_X2 tyX2 tyX2_ok nmX2 hown hW 0 6 7 rfl rfl (by decide) (Nat.le_of_ble_eq_true rfl) rfl rfl rfl rfl dX2_clear_44 (fun H locs hW => ?_)
  have hW : zW G (tyZ cI cJ cO) A s (lW cI cJ h q (uV (uV (uV (uV (uV (uV (uV (uV (uV v 20 0) 21 0) 22 0) 30 0) 31 0) 32 0) 4 0) 5 0) 6 0) (uA (uA a 2 (fun _ => 0)) 3 (fun _ => 240))) H locs := hW
  refine lv_aload_n hx hb dX2_clear_47 rfl (lv_at hl 0 rfl) ?_
  refine z_iconst (n := 0) hx hb dX2_clear_48 ?_
  refine z_put hx hb hts hiX2_clear_X2 tyX2 tyX2_ok nmX2 hown hW 0 7 8 rfl rfl (by decide) (Nat.le_of_ble_eq_true rfl) rfl rfl rfl rfl dX2_clear_49 (fun H locs hW => ?_)
  have hW : zW G (tyZ cI cJ cO) A s (lW cI cJ h q (uV (uV (uV (uV (uV (uV (uV (uV (uV (uV v 20 0) 21 0) 22 0) 30 0) 31 0) 32 0) 4 0) 5 0) 6 0) 7 0) (uA (uA a 2 (fun _ => 0)) 3 (fun _ => 240))) H locs := hW
  refine lv_aload_n hx hb dX2_clear_52 rfl (lv_at hl 0 rfl) ?_
  refine z_iconst (n := 0) hx hb dX2_clear_53 ?_
  refine z_put hx hb hts hiX2_clear_X2 tyX2 tyX2_ok nmX2 hown hW 0 8 9 rfl rfl (by decide) (Nat.le_of_ble_eq_true rfl) rfl rfl rfl rfl dX2_clear_54 (fun H locs hW => ?_)
  have hW : zW G (tyZ cI cJ cO) A s (lW cI cJ h q (uV (uV (uV (uV (uV (uV (uV (uV (uV (uV (uV v 20 0) 21 0) 22 0) 30 0) 31 0) 32 0) 4 0) 5 0) 6 0) 7 0) 8 0) (uA (uA a 2 (fun _ => 0)) 3 (fun _ => 240))) H locs := hW
  refine lv_aload_n hx hb dX2_clear_57 rfl (lv_at hl 0 rfl) ?_
  refine z_iconst (n := 0) hx hb dX2_clear_58 ?_
  refine z_put hx hb hts hiX2_clear_X2 tyX2 tyX2_ok nmX2 hown hW 0 9 10 rfl rfl (by decide) (Nat.le_of_ble_eq_true rfl) rfl rfl rfl rfl dX2_clear_59 (fun H locs hW => ?_)
  have hW : zW G (tyZ cI cJ cO) A s (lW cI cJ h q (uV (uV (uV (uV (uV (uV (uV (uV (uV (uV (uV (uV v 20 0) 21 0) 22 0) 30 0) 31 0) 32 0) 4 0) 5 0) 6 0) 7 0) 8 0) 9 0) (uA (uA a 2 (fun _ => 0)) 3 (fun _ => 240))) H locs := hW
  refine lv_aload_n hx hb dX2_clear_62 rfl (lv_at hl 0 rfl) ?_
  refine z_iconst (n := 0) hx hb dX2_clear_63 ?_
  refine z_put hx hb hts hiX2_clear_X2 tyX2 tyX2_ok nmX2 hown hW 0 10 11 rfl rfl (by decide) (Nat.le_of_ble_eq_true rfl) rfl rfl rfl rfl dX2_clear_64 (fun H locs hW => ?_)
  have hW : zW G (tyZ cI cJ cO) A s (lW cI cJ h q (uV (uV (uV (uV (uV (uV (uV (uV (uV (uV (uV (uV (uV v 20 0) 21 0) 22 0) 30 0) 31 0) 32 0) 4 0) 5 0) 6 0) 7 0) 8 0) 9 0) 10 0) (uA (uA a 2 (fun _ => 0)) 3 (fun _ => 240))) H locs := hW
  refine lv_aload_n hx hb dX2_clear_67 rfl (lv_at hl 0 rfl) ?_
  refine z_iconst (n := 0) hx hb dX2_clear_68 ?_
  refine z_put hx hb hts hiX2_clear_X2 tyX2 tyX2_ok nmX2 hown hW 0 11 12 rfl rfl (by decide) (Nat.le_of_ble_eq_true rfl) rfl rfl (by decide +kernel) (by decide +kernel) dX2_clear_69 (fun H locs hW => ?_)
  have hW : zW G (tyZ cI cJ cO) A s (lW cI cJ h q (uV (uV (uV (uV (uV (uV (uV (uV (uV (uV (uV (uV (uV (uV v 20 0) 21 0) 22 0) 30 0) 31 0) 32 0) 4 0) 5 0) 6 0) 7 0) 8 0) 9 0) 10 0) 11 0) (uA (uA a 2 (fun _ => 0)) 3 (fun _ => 240))) H locs := hW
  refine lv_aload_n hx hb dX2_clear_72 rfl (lv_at hl 0 rfl) ?_
  refine z_iconst (n := -1) hx hb dX2_clear_73 ?_
  refine z_put hx hb hts hiX2_clear_X2 tyX2 tyX2_ok nmX2 hown hW 0 12 13 rfl rfl (by decide) (Nat.le_of_ble_eq_true rfl) rfl rfl rfl rfl dX2_clear_74 (fun H locs hW => ?_)
  have hW : zW G (tyZ cI cJ cO) A s (lW cI cJ h q (uV (uV (uV (uV (uV (uV (uV (uV (uV (uV (uV (uV (uV (uV (uV v 20 0) 21 0) 22 0) 30 0) 31 0) 32 0) 4 0) 5 0) 6 0) 7 0) 8 0) 9 0) 10 0) 11 0) 12 (-1)) (uA (uA a 2 (fun _ => 0)) 3 (fun _ => 240))) H locs := hW
  refine lv_aload_n hx hb dX2_clear_77 rfl (lv_at hl 0 rfl) ?_
  refine z_sipush hx hb dX2_clear_78 (by decide +kernel) ?_
  refine z_put hx hb hts hiX2_clear_X2 tyX2 tyX2_ok nmX2 hown hW 0 13 14 rfl rfl (by decide) (Nat.le_of_ble_eq_true rfl) rfl rfl rfl rfl dX2_clear_81 (fun H locs hW => ?_)
  have hW : zW G (tyZ cI cJ cO) A s (lW cI cJ h q (uV (uV (uV (uV (uV (uV (uV (uV (uV (uV (uV (uV (uV (uV (uV (uV v 20 0) 21 0) 22 0) 30 0) 31 0) 32 0) 4 0) 5 0) 6 0) 7 0) 8 0) 9 0) 10 0) 11 0) 12 (-1)) 13 240) (uA (uA a 2 (fun _ => 0)) 3 (fun _ => 240))) H locs := hW
  exact z_vret hx hb hr hlk hW () trivial rfl dX2_clear_84
theorem hiX2_hasMonth_X2 : ∀ w ∈ wsX20, w ∈ wsX2_hasMonth := fun _ h => List.mem_cons_of_mem _ (List.mem_append_right _ h)
theorem ziX2_hasMonth : yX2_hasMonth.cls = RX2 ∧ yX2_hasMonth.cls ≠ "java/lang/invoke/MethodHandle" ∧ yX2_hasMonth.cls ≠ "java/lang/invoke/VarHandle" ∧ (parseMethodDescriptor yX2_hasMonth.desc).map (fun d => d.parameters.length) = some 1 := by decide +kernel
set_option maxHeartbeats 4000000 in
set_option maxRecDepth 100000 in
theorem c_X2_hasMonth {l : Launch} {G : va_G} {cI cJ cO : ClassId}  (h : Nat) (q : Nat → Nat) (v : Nat → Int) (a : Nat → Int → Int) (y : Int)  (h1 : -2147483648 ≤ y ∧ y < 2147483648) (h2 : (0 ≤ v 4 ∧ v 4 ≤ 119) ∧ (0 ≤ v 5 ∧ v 5 ≤ 120)) : zC l yX2_hasMonth wsX2_hasMonth { frames := 0, cells := 0, slots := 0, locals := 0 } G (tyZ cI cJ cO) (S := Unit) [.ref h, .int (iI y)] (lW cI cJ h q v a) (zI (fun _ => bI (v 4 ≤ y ∧ y < v 4 + v 5))) (fun _ => True) (fun _ => lW cI cJ h q v a) 0 0 := by
  refine z_start (cc := cX2_hasMonth) (maxL := 2) (ret := (some .boolean)) (by decide) rfl (Nat.le_of_ble_eq_true rfl) ?_
  intro p e s m below meth c A ls F hr hlk hnm hAe hA hW hl
  have hx := F.1
  have hb := F.2.1
  have hown : s.vm.findClass RX2 = some m.cls := F.2.2.2.1
  have hts := F.2.2.2.2
  have hl : lv_has ls 2 [(0, .ref h), (1, .int (iI y))] := hl
  refine lv_iload_n hx hb dX2_hasMonth_0 rfl (lv_at hl 1 rfl) ?_
  refine lv_aload_n hx hb dX2_hasMonth_1 rfl (lv_at hl 0 rfl) ?_
  refine z_get (v := .int (iI (v 4))) hx hb hts hiX2_hasMonth_X2 hown hW 0 4 1 rfl rfl rfl (by decide) rfl dX2_hasMonth_2 ?_
  refine z_icmp_lt (tgt := 25) hx hb dX2_hasMonth_5 (by decide) ⟨by omega, by omega⟩ ⟨by omega, by omega⟩ (fun c5 => ?_) (fun c5 => ?_)
  · refine z_iconst (n := 0) hx hb dX2_hasMonth_25 ?_
    exact z_zret hx hb hr hlk (by first | exact Or.inl rfl | exact Or.inr rfl | omega) hW () (by first | exact bI_t (by omega) | exact bI_f (by omega)) trivial rfl dX2_hasMonth_26
  · refine lv_iload_n hx hb dX2_hasMonth_8 rfl (lv_at hl 1 rfl) ?_
    refine lv_aload_n hx hb dX2_hasMonth_9 rfl (lv_at hl 0 rfl) ?_
    refine z_get (v := .int (iI (v 4))) hx hb hts hiX2_hasMonth_X2 hown hW 0 4 1 rfl rfl rfl (by decide) rfl dX2_hasMonth_10 ?_
    refine lv_aload_n hx hb dX2_hasMonth_13 rfl (lv_at hl 0 rfl) ?_
    refine z_get (v := .int (iI (v 5))) hx hb hts hiX2_hasMonth_X2 hown hW 0 5 2 rfl rfl rfl (by decide) rfl dX2_hasMonth_14 ?_
    refine z_iadd hx hb dX2_hasMonth_17 ?_
    refine z_icmp_ge (tgt := 25) hx hb dX2_hasMonth_18 (by decide) ⟨by omega, by omega⟩ ⟨by omega, by omega⟩ (fun c18 => ?_) (fun c18 => ?_)
    · refine z_iconst (n := 0) hx hb dX2_hasMonth_25 ?_
      exact z_zret hx hb hr hlk (by first | exact Or.inl rfl | exact Or.inr rfl | omega) hW () (by first | exact bI_t (by omega) | exact bI_f (by omega)) trivial rfl dX2_hasMonth_26
    · refine z_iconst (n := 1) hx hb dX2_hasMonth_21 ?_
      refine lv_goto (tgt := 26) hx hb dX2_hasMonth_22 (by decide) ?_
      exact z_zret hx hb hr hlk (by first | exact Or.inl rfl | exact Or.inr rfl | omega) hW () (by first | exact bI_t (by omega) | exact bI_f (by omega)) trivial rfl dX2_hasMonth_26
theorem hiX2_isFree_X2 : ∀ w ∈ wsX20, w ∈ wsX2_isFree := fun _ h => List.mem_cons_of_mem _ (List.mem_append_right _ h)
theorem ziX2_isFree : yX2_isFree.cls = RX2 ∧ yX2_isFree.cls ≠ "java/lang/invoke/MethodHandle" ∧ yX2_isFree.cls ≠ "java/lang/invoke/VarHandle" ∧ (parseMethodDescriptor yX2_isFree.desc).map (fun d => d.parameters.length) = some 1 := by decide +kernel
set_option maxHeartbeats 4000000 in
set_option maxRecDepth 100000 in
theorem c_X2_isFree {l : Launch} {G : va_G} {cI cJ cO : ClassId}  (h : Nat) (q : Nat → Nat) (v : Nat → Int) (a : Nat → Int → Int) (y : Int)  (h1 : -2147483648 ≤ y ∧ y < 2147483648) (h2 : (0 ≤ v 4 ∧ v 4 ≤ 119) ∧ (0 ≤ v 8 ∧ v 8 ≤ 120)) : zC l yX2_isFree wsX2_isFree { frames := 0, cells := 0, slots := 0, locals := 0 } G (tyZ cI cJ cO) (S := Unit) [.ref h, .int (iI y)] (lW cI cJ h q v a) (zI (fun _ => bI (y < v 4 + v 8))) (fun _ => True) (fun _ => lW cI cJ h q v a) 0 0 := by
  refine z_start (cc := cX2_isFree) (maxL := 2) (ret := (some .boolean)) (by decide) rfl (Nat.le_of_ble_eq_true rfl) ?_
  intro p e s m below meth c A ls F hr hlk hnm hAe hA hW hl
  have hx := F.1
  have hb := F.2.1
  have hown : s.vm.findClass RX2 = some m.cls := F.2.2.2.1
  have hts := F.2.2.2.2
  have hl : lv_has ls 2 [(0, .ref h), (1, .int (iI y))] := hl
  refine lv_iload_n hx hb dX2_isFree_0 rfl (lv_at hl 1 rfl) ?_
  refine lv_aload_n hx hb dX2_isFree_1 rfl (lv_at hl 0 rfl) ?_
  refine z_get (v := .int (iI (v 4))) hx hb hts hiX2_isFree_X2 hown hW 0 4 1 rfl rfl rfl (by decide) rfl dX2_isFree_2 ?_
  refine lv_aload_n hx hb dX2_isFree_5 rfl (lv_at hl 0 rfl) ?_
  refine z_get (v := .int (iI (v 8))) hx hb hts hiX2_isFree_X2 hown hW 0 8 2 rfl rfl rfl (by decide) rfl dX2_isFree_6 ?_
  refine z_iadd hx hb dX2_isFree_9 ?_
  refine z_icmp_ge (tgt := 17) hx hb dX2_isFree_10 (by decide) ⟨by omega, by omega⟩ ⟨by omega, by omega⟩ (fun c10 => ?_) (fun c10 => ?_)
  · refine z_iconst (n := 0) hx hb dX2_isFree_17 ?_
    exact z_zret hx hb hr hlk (by first | exact Or.inl rfl | exact Or.inr rfl | omega) hW () (by first | exact bI_t (by omega) | exact bI_f (by omega)) trivial rfl dX2_isFree_18
  · refine z_iconst (n := 1) hx hb dX2_isFree_13 ?_
    refine lv_goto (tgt := 18) hx hb dX2_isFree_14 (by decide) ?_
    exact z_zret hx hb hr hlk (by first | exact Or.inl rfl | exact Or.inr rfl | omega) hW () (by first | exact bI_t (by omega) | exact bI_f (by omega)) trivial rfl dX2_isFree_18
theorem hiX2_endKnownIn_X2 : ∀ w ∈ wsX20, w ∈ wsX2_endKnownIn := fun _ h => List.mem_cons_of_mem _ (List.mem_append_right _ h)
theorem ziX2_endKnownIn : yX2_endKnownIn.cls = RX2 ∧ yX2_endKnownIn.cls ≠ "java/lang/invoke/MethodHandle" ∧ yX2_endKnownIn.cls ≠ "java/lang/invoke/VarHandle" ∧ (parseMethodDescriptor yX2_endKnownIn.desc).map (fun d => d.parameters.length) = some 1 := by decide +kernel
set_option maxHeartbeats 4000000 in
set_option maxRecDepth 100000 in
theorem c_X2_endKnownIn {l : Launch} {G : va_G} {cI cJ cO : ClassId}  (h : Nat) (q : Nat → Nat) (v : Nat → Int) (a : Nat → Int → Int) (k : Int)  (h1 : -2147483648 ≤ k ∧ k < 2147483648) (h2 : 0 ≤ v 13 ∧ v 13 ≤ 240) : zC l yX2_endKnownIn wsX2_endKnownIn { frames := 0, cells := 0, slots := 0, locals := 0 } G (tyZ cI cJ cO) (S := Unit) [.ref h, .int (iI k)] (lW cI cJ h q v a) (zI (fun _ => if v 13 ≤ k then v 12 else v 4 + v 5)) (fun _ => True) (fun _ => lW cI cJ h q v a) 0 0 := by
  refine z_start (cc := cX2_endKnownIn) (maxL := 2) (ret := (some .int)) (by decide) rfl (Nat.le_of_ble_eq_true rfl) ?_
  intro p e s m below meth c A ls F hr hlk hnm hAe hA hW hl
  have hx := F.1
  have hb := F.2.1
  have hown : s.vm.findClass RX2 = some m.cls := F.2.2.2.1
  have hts := F.2.2.2.2
  have hl : lv_has ls 2 [(0, .ref h), (1, .int (iI k))] := hl
  refine lv_aload_n hx hb dX2_endKnownIn_0 rfl (lv_at hl 0 rfl) ?_
  refine z_get (v := .int (iI (v 13))) hx hb hts hiX2_endKnownIn_X2 hown hW 0 13 1 rfl rfl rfl (by decide) rfl dX2_endKnownIn_1 ?_
  refine lv_iload_n hx hb dX2_endKnownIn_4 rfl (lv_at hl 1 rfl) ?_
  refine z_icmp_gt (tgt := 15) hx hb dX2_endKnownIn_5 (by decide) ⟨by omega, by omega⟩ ⟨by omega, by omega⟩ (fun c5 => ?_) (fun c5 => ?_)
  · refine lv_aload_n hx hb dX2_endKnownIn_15 rfl (lv_at hl 0 rfl) ?_
    refine z_get (v := .int (iI (v 4))) hx hb hts hiX2_endKnownIn_X2 hown hW 0 4 3 rfl rfl rfl (by decide) rfl dX2_endKnownIn_16 ?_
    refine lv_aload_n hx hb dX2_endKnownIn_19 rfl (lv_at hl 0 rfl) ?_
    refine z_get (v := .int (iI (v 5))) hx hb hts hiX2_endKnownIn_X2 hown hW 0 5 4 rfl rfl rfl (by decide) rfl dX2_endKnownIn_20 ?_
    refine z_iadd hx hb dX2_endKnownIn_23 ?_
    exact z_iret hx hb hr hlk hW () (by first | exact if_pos (by omega) | exact if_neg (by omega)) trivial rfl dX2_endKnownIn_24
  · refine lv_aload_n hx hb dX2_endKnownIn_8 rfl (lv_at hl 0 rfl) ?_
    refine z_get (v := .int (iI (v 12))) hx hb hts hiX2_endKnownIn_X2 hown hW 0 12 2 rfl rfl rfl (by decide) rfl dX2_endKnownIn_9 ?_
    refine lv_goto (tgt := 24) hx hb dX2_endKnownIn_12 (by decide) ?_
    exact z_iret hx hb hr hlk hW () (by first | exact if_pos (by omega) | exact if_neg (by omega)) trivial rfl dX2_endKnownIn_24
theorem hiX2_reviews_X2 : ∀ w ∈ wsX20, w ∈ wsX2_reviews := fun _ h => List.mem_cons_of_mem _ (List.mem_append_right _ h)
theorem ziX2_reviews : yX2_reviews.cls = RX2 ∧ yX2_reviews.cls ≠ "java/lang/invoke/MethodHandle" ∧ yX2_reviews.cls ≠ "java/lang/invoke/VarHandle" ∧ (parseMethodDescriptor yX2_reviews.desc).map (fun d => d.parameters.length) = some 0 := by decide +kernel
set_option maxHeartbeats 4000000 in
set_option maxRecDepth 100000 in
theorem c_X2_reviews {l : Launch} {G : va_G} {cI cJ cO : ClassId}  (h : Nat) (q : Nat → Nat) (v : Nat → Int) (a : Nat → Int → Int)   (h1 : 0 ≤ v 9 ∧ v 9 ≤ 4) (h2 : 0 ≤ v 7 ∧ v 7 ≤ 60) (h3 : 0 ≤ v 5 ∧ v 5 ≤ 120) : zC l yX2_reviews wsX2_reviews { frames := 0, cells := 0, slots := 0, locals := 0 } G (tyZ cI cJ cO) (S := Unit) [.ref h] (lW cI cJ h q v a) (zI (fun _ => if v 9 = 0 ∨ v 7 < 1 then 0 else (v 5 - 1).tdiv (v 7))) (fun _ => True) (fun _ => lW cI cJ h q v a) 0 0 := by
  refine z_start (cc := cX2_reviews) (maxL := 1) (ret := (some .int)) (by decide) rfl (Nat.le_of_ble_eq_true rfl) ?_
  intro p e s m below meth c A ls F hr hlk hnm hAe hA hW hl
  have hx := F.1
  have hb := F.2.1
  have hown : s.vm.findClass RX2 = some m.cls := F.2.2.2.1
  have hts := F.2.2.2.2
  have hl : lv_has ls 1 [(0, .ref h)] := hl
  refine lv_aload_n hx hb dX2_reviews_0 rfl (lv_at hl 0 rfl) ?_
  refine z_get (v := .int (iI (v 9))) hx hb hts hiX2_reviews_X2 hown hW 0 9 1 rfl rfl rfl (by decide) rfl dX2_reviews_1 ?_
  refine z_if_eq (tgt := 15) hx hb dX2_reviews_4 (by decide) ⟨by omega, by omega⟩ (fun c4 => ?_) (fun c4 => ?_)
  · refine z_iconst (n := 0) hx hb dX2_reviews_15 ?_
    refine lv_goto (tgt := 30) hx hb dX2_reviews_16 (by decide) ?_
    exact z_iret hx hb hr hlk hW () (by first | exact if_pos (by omega) | exact if_neg (by omega)) trivial rfl dX2_reviews_30
  · refine lv_aload_n hx hb dX2_reviews_7 rfl (lv_at hl 0 rfl) ?_
    refine z_get (v := .int (iI (v 7))) hx hb hts hiX2_reviews_X2 hown hW 0 7 2 rfl rfl rfl (by decide) rfl dX2_reviews_8 ?_
    refine z_iconst (n := 1) hx hb dX2_reviews_11 ?_
    refine z_icmp_ge (tgt := 19) hx hb dX2_reviews_12 (by decide) ⟨by omega, by omega⟩ (by decide) (fun c12 => ?_) (fun c12 => ?_)
    · refine lv_aload_n hx hb dX2_reviews_19 rfl (lv_at hl 0 rfl) ?_
      refine z_get (v := .int (iI (v 5))) hx hb hts hiX2_reviews_X2 hown hW 0 5 3 rfl rfl rfl (by decide) rfl dX2_reviews_20 ?_
      refine z_iconst (n := 1) hx hb dX2_reviews_23 ?_
      refine z_isub hx hb dX2_reviews_24 ?_
      refine lv_aload_n hx hb dX2_reviews_25 rfl (lv_at hl 0 rfl) ?_
      refine z_get (v := .int (iI (v 7))) hx hb hts hiX2_reviews_X2 hown hW 0 7 2 rfl rfl rfl (by decide) rfl dX2_reviews_26 ?_
      refine z_idiv hx hb dX2_reviews_29 ⟨by omega, by omega⟩ ⟨by omega, by omega⟩ (by omega) (by omega) ?_
      exact z_iret hx hb hr hlk hW () (by first | exact if_pos (by omega) | exact if_neg (by omega)) trivial rfl dX2_reviews_30
    · refine z_iconst (n := 0) hx hb dX2_reviews_15 ?_
      refine lv_goto (tgt := 30) hx hb dX2_reviews_16 (by decide) ?_
      exact z_iret hx hb hr hlk hW () (by first | exact if_pos (by omega) | exact if_neg (by omega)) trivial rfl dX2_reviews_30
theorem hiX2_hasReview_X2 : ∀ w ∈ wsX20, w ∈ wsX2_hasReview := fun _ h => List.mem_cons_of_mem _ (List.mem_append_right _ h)
theorem ziX2_hasReview : yX2_hasReview.cls = RX2 ∧ yX2_hasReview.cls ≠ "java/lang/invoke/MethodHandle" ∧ yX2_hasReview.cls ≠ "java/lang/invoke/VarHandle" ∧ (parseMethodDescriptor yX2_hasReview.desc).map (fun d => d.parameters.length) = some 1 := by decide +kernel
set_option maxHeartbeats 4000000 in
set_option maxRecDepth 100000 in
theorem c_X2_hasReview {l : Launch} {G : va_G} {cI cJ cO : ClassId}  (h : Nat) (q : Nat → Nat) (v : Nat → Int) (a : Nat → Int → Int) (r : Int) (n : Int) (h0 : -2147483648 ≤ r ∧ r < 2147483648) (h1 : 0 ≤ v 9 ∧ v 9 ≤ 4) (h2 : 0 ≤ v 7 ∧ v 7 ≤ 60) (h3 : 0 ≤ v 5 ∧ v 5 ≤ 120) (h4 : (if v 9 = 0 ∨ v 7 < 1 then 0 else (v 5 - 1).tdiv (v 7)) = n ∧ 0 ≤ n ∧ n ≤ 119) : zC l yX2_hasReview wsX2_hasReview { frames := 1, cells := 0, slots := 0, locals := 20 } G (tyZ cI cJ cO) (S := Unit) [.ref h, .int (iI r)] (lW cI cJ h q v a) (zI (fun _ => bI (1 ≤ r ∧ r ≤ n))) (fun _ => True) (fun _ => lW cI cJ h q v a) 0 0 := by
  refine z_start (cc := cX2_hasReview) (maxL := 2) (ret := (some .boolean)) (by decide) rfl (Nat.le_of_ble_eq_true rfl) ?_
  intro p e s m below meth c A ls F hr hlk hnm hAe hA hW hl
  have hx := F.1
  have hb := F.2.1
  have hown : s.vm.findClass RX2 = some m.cls := F.2.2.2.1
  have hts := F.2.2.2.2
  have hl : lv_has ls 2 [(0, .ref h), (1, .int (iI r))] := hl
  obtain ⟨h4, h5⟩ := h4
  refine lv_iload_n hx hb dX2_hasReview_0 rfl (lv_at hl 1 rfl) ?_
  refine z_iconst (n := 1) hx hb dX2_hasReview_1 ?_
  refine z_icmp_lt (tgt := 17) hx hb dX2_hasReview_2 (by decide) ⟨by omega, by omega⟩ (by decide) (fun c2 => ?_) (fun c2 => ?_)
  · refine z_iconst (n := 0) hx hb dX2_hasReview_17 ?_
    exact z_zret hx hb hr hlk (by first | exact Or.inl rfl | exact Or.inr rfl | omega) hW () (by first | exact bI_t (by omega) | exact bI_f (by omega)) trivial rfl dX2_hasReview_18
  · refine lv_iload_n hx hb dX2_hasReview_5 rfl (lv_at hl 1 rfl) ?_
    refine lv_aload_n hx hb dX2_hasReview_6 rfl (lv_at hl 0 rfl) ?_
    refine z_callV (As := []) (rest := [.int (iI r)]) F (c_X2_reviews  h q v a   (show 0 ≤ (v 9) ∧ (v 9) ≤ 4 by omega) (show 0 ≤ (v 7) ∧ (v 7) ≤ 60 by omega) (show 0 ≤ (v 5) ∧ (v 5) ≤ 120 by omega)) gX2_hasReview_X2_reviews rfl ziX2_reviews ⟨rfl, rfl, by decide, by decide⟩ rfl hl.1 rfl (Nat.le_of_ble_eq_true rfl) dX2_hasReview_7 ⟨Nat.zero_le _, Nat.zero_le _⟩ hW hA [0, 1, 2, 3, 4] rfl (by decide) (fun _ => rfl) (fun _ => lW cI cJ h q v a) (fun _ => rfl) (fun _ => [.int (iI (if (v 9) = 0 ∨ (v 7) < 1 then 0 else ((v 5) - 1).tdiv ((v 7)))), .int (iI r)]) (fun _ => rfl) 0 rfl rfl rfl (fun _ H locs hp7 hW => ?_)
    rw [h4]
    refine z_icmp_gt (tgt := 17) hx hb dX2_hasReview_10 (by decide) ⟨by omega, by omega⟩ ⟨by omega, by omega⟩ (fun c10 => ?_) (fun c10 => ?_)
    · refine z_iconst (n := 0) hx hb dX2_hasReview_17 ?_
      exact z_zret hx hb hr hlk (by first | exact Or.inl rfl | exact Or.inr rfl | omega) hW () (by first | exact bI_t (by omega) | exact bI_f (by omega)) trivial rfl dX2_hasReview_18
    · refine z_iconst (n := 1) hx hb dX2_hasReview_13 ?_
      refine lv_goto (tgt := 18) hx hb dX2_hasReview_14 (by decide) ?_
      exact z_zret hx hb hr hlk (by first | exact Or.inl rfl | exact Or.inr rfl | omega) hW () (by first | exact bI_t (by omega) | exact bI_f (by omega)) trivial rfl dX2_hasReview_18
theorem hiX2_reviewMonth_X2 : ∀ w ∈ wsX20, w ∈ wsX2_reviewMonth := fun _ h => List.mem_cons_of_mem _ (List.mem_append_right _ h)
theorem ziX2_reviewMonth : yX2_reviewMonth.cls = RX2 ∧ yX2_reviewMonth.cls ≠ "java/lang/invoke/MethodHandle" ∧ yX2_reviewMonth.cls ≠ "java/lang/invoke/VarHandle" ∧ (parseMethodDescriptor yX2_reviewMonth.desc).map (fun d => d.parameters.length) = some 1 := by decide +kernel
set_option maxHeartbeats 4000000 in
set_option maxRecDepth 100000 in
theorem c_X2_reviewMonth {l : Launch} {G : va_G} {cI cJ cO : ClassId}  (h : Nat) (q : Nat → Nat) (v : Nat → Int) (a : Nat → Int → Int) (r : Int)   : zC l yX2_reviewMonth wsX2_reviewMonth { frames := 0, cells := 0, slots := 0, locals := 0 } G (tyZ cI cJ cO) (S := Unit) [.ref h, .int (iI r)] (lW cI cJ h q v a) (zI (fun _ => v 4 + r * v 7)) (fun _ => True) (fun _ => lW cI cJ h q v a) 0 0 := by
  refine z_start (cc := cX2_reviewMonth) (maxL := 2) (ret := (some .int)) (by decide) rfl (Nat.le_of_ble_eq_true rfl) ?_
  intro p e s m below meth c A ls F hr hlk hnm hAe hA hW hl
  have hx := F.1
  have hb := F.2.1
  have hown : s.vm.findClass RX2 = some m.cls := F.2.2.2.1
  have hts := F.2.2.2.2
  have hl : lv_has ls 2 [(0, .ref h), (1, .int (iI r))] := hl
  refine lv_aload_n hx hb dX2_reviewMonth_0 rfl (lv_at hl 0 rfl) ?_
  refine z_get (v := .int (iI (v 4))) hx hb hts hiX2_reviewMonth_X2 hown hW 0 4 1 rfl rfl rfl (by decide) rfl dX2_reviewMonth_1 ?_
  refine lv_iload_n hx hb dX2_reviewMonth_4 rfl (lv_at hl 1 rfl) ?_
  refine lv_aload_n hx hb dX2_reviewMonth_5 rfl (lv_at hl 0 rfl) ?_
  refine z_get (v := .int (iI (v 7))) hx hb hts hiX2_reviewMonth_X2 hown hW 0 7 2 rfl rfl rfl (by decide) rfl dX2_reviewMonth_6 ?_
  refine z_imul hx hb dX2_reviewMonth_9 ?_
  refine z_iadd hx hb dX2_reviewMonth_10 ?_
  exact z_iret hx hb hr hlk hW () (by first | rfl | omega) trivial rfl dX2_reviewMonth_11
theorem hiX2_isToldIn_X2 : ∀ w ∈ wsX20, w ∈ wsX2_isToldIn := fun _ h => List.mem_cons_of_mem _ (List.mem_append_right _ h)
theorem ziX2_isToldIn : yX2_isToldIn.cls = RX2 ∧ yX2_isToldIn.cls ≠ "java/lang/invoke/MethodHandle" ∧ yX2_isToldIn.cls ≠ "java/lang/invoke/VarHandle" ∧ (parseMethodDescriptor yX2_isToldIn.desc).map (fun d => d.parameters.length) = some 2 := by decide +kernel
set_option maxHeartbeats 4000000 in
set_option maxRecDepth 100000 in
theorem c_X2_isToldIn {l : Launch} {G : va_G} {cI cJ cO : ClassId}  (h : Nat) (q : Nat → Nat) (v : Nat → Int) (a : Nat → Int → Int) (y k : Int)  (h1 : -2147483648 ≤ y ∧ y < 2147483648) (h2 : -2147483648 ≤ k ∧ k < 2147483648) (h3 : 0 ≤ y → y < 120 → 0 ≤ a 3 y ∧ a 3 y ≤ 240) : zC l yX2_isToldIn wsX2_isToldIn { frames := 0, cells := 0, slots := 0, locals := 0 } G (tyZ cI cJ cO) (S := Unit) [.ref h, .int (iI y), .int (iI k)] (lW cI cJ h q v a) (zI (fun _ => bI ((0 ≤ y ∧ y < 120) ∧ a 3 y ≤ k))) (fun _ => True) (fun _ => lW cI cJ h q v a) 0 0 := by
  refine z_start (cc := cX2_isToldIn) (maxL := 3) (ret := (some .boolean)) (by decide) rfl (Nat.le_of_ble_eq_true rfl) ?_
  intro p e s m below meth c A ls F hr hlk hnm hAe hA hW hl
  have hx := F.1
  have hb := F.2.1
  have hown : s.vm.findClass RX2 = some m.cls := F.2.2.2.1
  have hts := F.2.2.2.2
  have hl : lv_has ls 3 [(0, .ref h), (1, .int (iI y)), (2, .int (iI k))] := hl
  refine lv_iload_n hx hb dX2_isToldIn_0 rfl (lv_at hl 1 rfl) ?_
  refine z_if_lt (tgt := 27) hx hb dX2_isToldIn_1 (by decide) ⟨by omega, by omega⟩ (fun c1 => ?_) (fun c1 => ?_)
  · refine z_iconst (n := 0) hx hb dX2_isToldIn_27 ?_
    exact z_zret hx hb hr hlk (by first | exact Or.inl rfl | exact Or.inr rfl | omega) hW () (by first | exact bI_t ⟨by omega, by omega⟩ | exact bI_f (fun hq => by obtain ⟨q1, q2⟩ := hq; omega)) trivial rfl dX2_isToldIn_28
  · refine lv_iload_n hx hb dX2_isToldIn_4 rfl (lv_at hl 1 rfl) ?_
    refine lv_aload_n hx hb dX2_isToldIn_5 rfl (lv_at hl 0 rfl) ?_
    refine z_get (v := .ref (q 3)) hx hb hts hiX2_isToldIn_X2 hown hW 0 3 1 rfl rfl rfl (by decide) rfl dX2_isToldIn_6 ?_
    refine z_alen hx hb hW 4 0 rfl rfl dX2_isToldIn_9 ?_
    refine W.eq (g2 := F0 m 10 ls [.int (iI 120), .int (iI y)]) rfl ?_
    refine z_icmp_ge (tgt := 27) hx hb dX2_isToldIn_10 (by decide) ⟨by omega, by omega⟩ (by decide) (fun c10 => ?_) (fun c10 => ?_)
    · refine z_iconst (n := 0) hx hb dX2_isToldIn_27 ?_
      exact z_zret hx hb hr hlk (by first | exact Or.inl rfl | exact Or.inr rfl | omega) hW () (by first | exact bI_t ⟨by omega, by omega⟩ | exact bI_f (fun hq => by obtain ⟨q1, q2⟩ := hq; omega)) trivial rfl dX2_isToldIn_28
    · have h9 := h3 (by omega) (by omega)
      refine lv_aload_n hx hb dX2_isToldIn_13 rfl (lv_at hl 0 rfl) ?_
      refine z_get (v := .ref (q 3)) hx hb hts hiX2_isToldIn_X2 hown hW 0 3 1 rfl rfl rfl (by decide) rfl dX2_isToldIn_14 ?_
      refine lv_iload_n hx hb dX2_isToldIn_17 rfl (lv_at hl 1 rfl) ?_
      refine z_iald (f := a 3) (i := y) hx hb hW 4 0 rfl rfl (by decide) ⟨by omega, by omega⟩ dX2_isToldIn_18 ?_
      refine lv_iload_n hx hb dX2_isToldIn_19 rfl (lv_at hl 2 rfl) ?_
      refine z_icmp_gt (tgt := 27) hx hb dX2_isToldIn_20 (by decide) ⟨by omega, by omega⟩ ⟨by omega, by omega⟩ (fun c20 => ?_) (fun c20 => ?_)
      · refine z_iconst (n := 0) hx hb dX2_isToldIn_27 ?_
        exact z_zret hx hb hr hlk (by first | exact Or.inl rfl | exact Or.inr rfl | omega) hW () (by first | exact bI_t ⟨by omega, by omega⟩ | exact bI_f (fun hq => by obtain ⟨q1, q2⟩ := hq; omega)) trivial rfl dX2_isToldIn_28
      · refine z_iconst (n := 1) hx hb dX2_isToldIn_23 ?_
        refine lv_goto (tgt := 28) hx hb dX2_isToldIn_24 (by decide) ?_
        exact z_zret hx hb hr hlk (by first | exact Or.inl rfl | exact Or.inr rfl | omega) hW () (by first | exact bI_t ⟨by omega, by omega⟩ | exact bI_f (fun hq => by obtain ⟨q1, q2⟩ := hq; omega)) trivial rfl dX2_isToldIn_28
theorem hiX2_wasTold_X2 : ∀ w ∈ wsX20, w ∈ wsX2_wasTold := fun _ h => List.mem_cons_of_mem _ (List.mem_append_right _ h)
theorem ziX2_wasTold : yX2_wasTold.cls = RX2 ∧ yX2_wasTold.cls ≠ "java/lang/invoke/MethodHandle" ∧ yX2_wasTold.cls ≠ "java/lang/invoke/VarHandle" ∧ (parseMethodDescriptor yX2_wasTold.desc).map (fun d => d.parameters.length) = some 1 := by decide +kernel
set_option maxHeartbeats 4000000 in
set_option maxRecDepth 100000 in
theorem c_X2_wasTold {l : Launch} {G : va_G} {cI cJ cO : ClassId}  (h : Nat) (q : Nat → Nat) (v : Nat → Int) (a : Nat → Int → Int) (y : Int)  (h1 : -2147483648 ≤ y ∧ y < 2147483648) (h3 : 0 ≤ y → y < 120 → 0 ≤ a 3 y ∧ a 3 y ≤ 240) : zC l yX2_wasTold wsX2_wasTold { frames := 1, cells := 0, slots := 0, locals := 22 } G (tyZ cI cJ cO) (S := Unit) [.ref h, .int (iI y)] (lW cI cJ h q v a) (zI (fun _ => bI ((0 ≤ y ∧ y < 120) ∧ a 3 y ≤ 239))) (fun _ => True) (fun _ => lW cI cJ h q v a) 0 0 := by
  refine z_start (cc := cX2_wasTold) (maxL := 2) (ret := (some .boolean)) (by decide) rfl (Nat.le_of_ble_eq_true rfl) ?_
  intro p e s m below meth c A ls F hr hlk hnm hAe hA hW hl
  have hx := F.1
  have hb := F.2.1
  have hown : s.vm.findClass RX2 = some m.cls := F.2.2.2.1
  have hts := F.2.2.2.2
  have hl : lv_has ls 2 [(0, .ref h), (1, .int (iI y))] := hl
  refine lv_aload_n hx hb dX2_wasTold_0 rfl (lv_at hl 0 rfl) ?_
  refine lv_iload_n hx hb dX2_wasTold_1 rfl (lv_at hl 1 rfl) ?_
  refine z_sipush hx hb dX2_wasTold_2 (by decide +kernel) ?_
  refine z_callV (As := [.int (iI y), .int (iI 239)]) (rest := []) F (c_X2_isToldIn  h q v a y 239  (show -2147483648 ≤ y ∧ y < 2147483648 by omega) (show -2147483648 ≤ 239 ∧ 239 < 2147483648 by omega) h3) gX2_wasTold_X2_isToldIn rfl ziX2_isToldIn ⟨rfl, rfl, by decide, by decide⟩ rfl hl.1 rfl (Nat.le_of_ble_eq_true rfl) dX2_wasTold_5 ⟨Nat.zero_le _, Nat.zero_le _⟩ hW hA [0, 1, 2, 3, 4] rfl (by decide) (fun _ => rfl) (fun _ => lW cI cJ h q v a) (fun _ => rfl) (fun _ => [.int (iI (bI ((0 ≤ y ∧ y < 120) ∧ (a 3) y ≤ 239)))]) (fun _ => rfl) 0 rfl rfl rfl (fun _ H locs hp5 hW => ?_)
  exact z_zret hx hb hr hlk (by unfold bI; split <;> omega) hW () rfl trivial rfl dX2_wasTold_8
theorem hiX2_toldAt_X2 : ∀ w ∈ wsX20, w ∈ wsX2_toldAt := fun _ h => List.mem_cons_of_mem _ (List.mem_append_right _ h)
theorem ziX2_toldAt : yX2_toldAt.cls = RX2 ∧ yX2_toldAt.cls ≠ "java/lang/invoke/MethodHandle" ∧ yX2_toldAt.cls ≠ "java/lang/invoke/VarHandle" ∧ (parseMethodDescriptor yX2_toldAt.desc).map (fun d => d.parameters.length) = some 1 := by decide +kernel
set_option maxHeartbeats 4000000 in
set_option maxRecDepth 100000 in
theorem c_X2_toldAt {l : Launch} {G : va_G} {cI cJ cO : ClassId}  (h : Nat) (q : Nat → Nat) (v : Nat → Int) (a : Nat → Int → Int) (y : Int)  (h1 : 0 ≤ y ∧ y < 120) : zC l yX2_toldAt wsX2_toldAt { frames := 0, cells := 0, slots := 0, locals := 0 } G (tyZ cI cJ cO) (S := Unit) [.ref h, .int (iI y)] (lW cI cJ h q v a) (zI (fun _ => a 2 y)) (fun _ => True) (fun _ => lW cI cJ h q v a) 0 0 := by
  refine z_start (cc := cX2_toldAt) (maxL := 2) (ret := (some .int)) (by decide) rfl (Nat.le_of_ble_eq_true rfl) ?_
  intro p e s m below meth c A ls F hr hlk hnm hAe hA hW hl
  have hx := F.1
  have hb := F.2.1
  have hown : s.vm.findClass RX2 = some m.cls := F.2.2.2.1
  have hts := F.2.2.2.2
  have hl : lv_has ls 2 [(0, .ref h), (1, .int (iI y))] := hl
  refine lv_iload_n hx hb dX2_toldAt_0 rfl (lv_at hl 1 rfl) ?_
  refine z_if_lt (tgt := 22) hx hb dX2_toldAt_1 (by decide) ⟨by omega, by omega⟩ (fun c1 => ?_) (fun c1 => ?_)
  · exfalso; omega
  · refine lv_iload_n hx hb dX2_toldAt_4 rfl (lv_at hl 1 rfl) ?_
    refine lv_aload_n hx hb dX2_toldAt_5 rfl (lv_at hl 0 rfl) ?_
    refine z_get (v := .ref (q 2)) hx hb hts hiX2_toldAt_X2 hown hW 0 2 1 rfl rfl rfl (by decide) rfl dX2_toldAt_6 ?_
    refine z_alen hx hb hW 3 0 rfl rfl dX2_toldAt_9 ?_
    refine W.eq (g2 := F0 m 10 ls [.int (iI 120), .int (iI y)]) rfl ?_
    refine z_icmp_ge (tgt := 22) hx hb dX2_toldAt_10 (by decide) ⟨by omega, by omega⟩ (by decide) (fun c10 => ?_) (fun c10 => ?_)
    · exfalso; omega
    · refine lv_aload_n hx hb dX2_toldAt_13 rfl (lv_at hl 0 rfl) ?_
      refine z_get (v := .ref (q 2)) hx hb hts hiX2_toldAt_X2 hown hW 0 2 1 rfl rfl rfl (by decide) rfl dX2_toldAt_14 ?_
      refine lv_iload_n hx hb dX2_toldAt_17 rfl (lv_at hl 1 rfl) ?_
      refine z_iald (f := a 2) (i := y) hx hb hW 3 0 rfl rfl (by decide) ⟨by omega, by omega⟩ dX2_toldAt_18 ?_
      refine lv_goto (tgt := 23) hx hb dX2_toldAt_19 (by decide) ?_
      exact z_iret hx hb hr hlk hW () (by first | rfl | omega) trivial rfl dX2_toldAt_23
theorem hiX2_tell_X2 : ∀ w ∈ wsX20, w ∈ wsX2_tell := fun _ h => List.mem_cons_of_mem _ (List.mem_append_right _ h)
theorem ziX2_tell : yX2_tell.cls = RX2 ∧ yX2_tell.cls ≠ "java/lang/invoke/MethodHandle" ∧ yX2_tell.cls ≠ "java/lang/invoke/VarHandle" ∧ (parseMethodDescriptor yX2_tell.desc).map (fun d => d.parameters.length) = some 3 := by decide +kernel
set_option maxHeartbeats 4000000 in
set_option maxRecDepth 100000 in
theorem c_X2_tell {l : Launch} {G : va_G} {cI cJ cO : ClassId}  (h : Nat) (q : Nat → Nat) (v : Nat → Int) (a : Nat → Int → Int) (y z k : Int)  (h1 : 0 ≤ y ∧ y < 120) : zC l yX2_tell wsX2_tell { frames := 0, cells := 0, slots := 0, locals := 0 } G (tyZ cI cJ cO) (S := Unit) [.ref h, .int (iI y), .int (iI z), .int (iI k)] (lW cI cJ h q v a) (zN) (fun _ => True) (fun _ => lW cI cJ h q v (uA (uA a 2 (uI (a 2) y z)) 3 (uI (a 3) y k))) 0 0 := by
  refine z_start (cc := cX2_tell) (maxL := 4) (ret := none) (by decide) rfl (Nat.le_of_ble_eq_true rfl) ?_
  intro p e s m below meth c A ls F hr hlk hnm hAe hA hW hl
  have hx := F.1
  have hb := F.2.1
  have hown : s.vm.findClass RX2 = some m.cls := F.2.2.2.1
  have hts := F.2.2.2.2
  have hl : lv_has ls 4 [(0, .ref h), (1, .int (iI y)), (2, .int (iI z)), (3, .int (iI k))] := hl
  refine lv_iload_n hx hb dX2_tell_0 rfl (lv_at hl 1 rfl) ?_
  refine z_if_lt (tgt := 36) hx hb dX2_tell_1 (by decide) ⟨by omega, by omega⟩ (fun c1 => ?_) (fun c1 => ?_)
  · exfalso; omega
  · refine lv_iload_n hx hb dX2_tell_4 rfl (lv_at hl 1 rfl) ?_
    refine lv_aload_n hx hb dX2_tell_5 rfl (lv_at hl 0 rfl) ?_
    refine z_get (v := .ref (q 2)) hx hb hts hiX2_tell_X2 hown hW 0 2 1 rfl rfl rfl (by decide) rfl dX2_tell_6 ?_
    refine z_alen hx hb hW 3 0 rfl rfl dX2_tell_9 ?_
    refine W.eq (g2 := F0 m 10 ls [.int (iI 120), .int (iI y)]) rfl ?_
    refine z_icmp_ge (tgt := 36) hx hb dX2_tell_10 (by decide) ⟨by omega, by omega⟩ (by decide) (fun c10 => ?_) (fun c10 => ?_)
    · exfalso; omega
    · refine lv_iload_n hx hb dX2_tell_13 rfl (lv_at hl 1 rfl) ?_
      refine lv_aload_n hx hb dX2_tell_14 rfl (lv_at hl 0 rfl) ?_
      refine z_get (v := .ref (q 3)) hx hb hts hiX2_tell_X2 hown hW 0 3 2 rfl rfl rfl (by decide) rfl dX2_tell_15 ?_
      refine z_alen hx hb hW 4 0 rfl rfl dX2_tell_18 ?_
      refine W.eq (g2 := F0 m 19 ls [.int (iI 120), .int (iI y)]) rfl ?_
      refine z_icmp_ge (tgt := 36) hx hb dX2_tell_19 (by decide) ⟨by omega, by omega⟩ (by decide) (fun c19 => ?_) (fun c19 => ?_)
      · exfalso; omega
      · refine lv_aload_n hx hb dX2_tell_22 rfl (lv_at hl 0 rfl) ?_
        refine z_get (v := .ref (q 2)) hx hb hts hiX2_tell_X2 hown hW 0 2 1 rfl rfl rfl (by decide) rfl dX2_tell_23 ?_
        refine lv_iload_n hx hb dX2_tell_26 rfl (lv_at hl 1 rfl) ?_
        refine lv_iload_n hx hb dX2_tell_27 rfl (lv_at hl 2 rfl) ?_
        refine z_iast (f := a 2) (i := y) (z := z) hx hb hW 3 0 rfl rfl (by decide) ⟨by omega, by omega⟩ dX2_tell_28 (fun H locs hW => ?_)
        have hW : zW G (tyZ cI cJ cO) A s (lW cI cJ h q v (uA a 2 (uI (a 2) y z))) H locs := hW
        refine lv_aload_n hx hb dX2_tell_29 rfl (lv_at hl 0 rfl) ?_
        refine z_get (v := .ref (q 3)) hx hb hts hiX2_tell_X2 hown hW 0 3 2 rfl rfl rfl (by decide) rfl dX2_tell_30 ?_
        refine lv_iload_n hx hb dX2_tell_33 rfl (lv_at hl 1 rfl) ?_
        refine lv_iload_n hx hb dX2_tell_34 rfl (lv_at hl 3 rfl) ?_
        refine z_iast (f := a 3) (i := y) (z := k) hx hb hW 4 0 rfl rfl (by decide) ⟨by omega, by omega⟩ dX2_tell_35 (fun H locs hW => ?_)
        have hW : zW G (tyZ cI cJ cO) A s (lW cI cJ h q v (uA (uA a 2 (uI (a 2) y z)) 3 (uI (a 3) y k))) H locs := hW
        exact z_vret hx hb hr hlk hW () trivial rfl dX2_tell_36
theorem hiX2_drop_X2 : ∀ w ∈ wsX20, w ∈ wsX2_drop := fun _ h => List.mem_cons_of_mem _ (List.mem_append_right _ h)
theorem ziX2_drop : yX2_drop.cls = RX2 ∧ yX2_drop.cls ≠ "java/lang/invoke/MethodHandle" ∧ yX2_drop.cls ≠ "java/lang/invoke/VarHandle" ∧ (parseMethodDescriptor yX2_drop.desc).map (fun d => d.parameters.length) = some 1 := by decide +kernel
set_option maxHeartbeats 4000000 in
set_option maxRecDepth 100000 in
theorem c_X2_drop {l : Launch} {G : va_G} {cI cJ cO : ClassId}  (h : Nat) (q : Nat → Nat) (v : Nat → Int) (a : Nat → Int → Int) (y : Int)  (h1 : 0 ≤ y ∧ y < 120) : zC l yX2_drop wsX2_drop { frames := 1, cells := 0, slots := 0, locals := 23 } G (tyZ cI cJ cO) (S := Unit) [.ref h, .int (iI y)] (lW cI cJ h q v a) (zN) (fun _ => True) (fun _ => lW cI cJ h q v (uA (uA a 2 (uI (a 2) y 0)) 3 (uI (a 3) y 240))) 0 0 := by
  refine z_start (cc := cX2_drop) (maxL := 2) (ret := none) (by decide) rfl (Nat.le_of_ble_eq_true rfl) ?_
  intro p e s m below meth c A ls F hr hlk hnm hAe hA hW hl
  have hx := F.1
  have hb := F.2.1
  have hown : s.vm.findClass RX2 = some m.cls := F.2.2.2.1
  have hts := F.2.2.2.2
  have hl : lv_has ls 2 [(0, .ref h), (1, .int (iI y))] := hl
  refine lv_aload_n hx hb dX2_drop_0 rfl (lv_at hl 0 rfl) ?_
  refine lv_iload_n hx hb dX2_drop_1 rfl (lv_at hl 1 rfl) ?_
  refine z_iconst (n := 0) hx hb dX2_drop_2 ?_
  refine z_sipush hx hb dX2_drop_3 (by decide +kernel) ?_
  refine z_callV (As := [.int (iI y), .int (iI 0), .int (iI 240)]) (rest := []) F (c_X2_tell  h q v a y 0 240  (show 0 ≤ y ∧ y < 120 by omega)) gX2_drop_X2_tell rfl ziX2_tell ⟨rfl, rfl, by decide, by decide⟩ rfl hl.1 rfl (Nat.le_of_ble_eq_true rfl) dX2_drop_6 ⟨Nat.zero_le _, Nat.zero_le _⟩ hW hA [0, 1, 2, 3, 4] rfl (by decide) (fun _ => rfl) (fun _ => lW cI cJ h q v (uA (uA a 2 (uI ((a 2)) y 0)) 3 (uI ((a 3)) y 240))) (fun _ => rfl) (fun _ => []) (fun _ => rfl) 0 rfl rfl rfl (fun _ H locs hp6 hW => ?_)
  have hW : zW G (tyZ cI cJ cO) A s (lW cI cJ h q v (uA (uA a 2 (uI ((a 2)) y 0)) 3 (uI ((a 3)) y 240))) H locs := hW
  exact z_vret hx hb hr hlk hW () trivial rfl dX2_drop_9
theorem hiX8_clear_X8 : ∀ w ∈ wsX80, w ∈ wsX8_clear := fun _ h => List.mem_cons_of_mem _ (List.mem_append_right _ h)
theorem ziX8_clear : yX8_clear.cls = RX8 ∧ yX8_clear.cls ≠ "java/lang/invoke/MethodHandle" ∧ yX8_clear.cls ≠ "java/lang/invoke/VarHandle" ∧ (parseMethodDescriptor yX8_clear.desc).map (fun d => d.parameters.length) = some 0 := by decide +kernel
set_option maxHeartbeats 4000000 in
set_option maxRecDepth 100000 in
theorem c_X8_clear {l : Launch} {G : va_G} {cI cJ cO : ClassId}  (h : Nat) (q : Nat → Nat) (v : Nat → Int) (a : Nat → Int → Int)    : zC l yX8_clear wsX8_clear { frames := 1, cells := 0, slots := 0, locals := 23 } G (tyZ cI cJ cO) (S := Unit) [.ref h] (vW cI cJ h q v a) (zN) (fun _ => True) (fun _ => vW cI cJ h q (uV v 2 0) (uA (uA a 0 (fun _ => 0)) 1 (fun _ => 240))) 0 0 := by
  refine z_start (cc := cX8_clear) (maxL := 1) (ret := none) (by decide) rfl (Nat.le_of_ble_eq_true rfl) ?_
  intro p e s m below meth c A ls F hr hlk hnm hAe hA hW hl
  have hx := F.1
  have hb := F.2.1
  have hown : s.vm.findClass RX8 = some m.cls := F.2.2.2.1
  have hts := F.2.2.2.2
  have hl : lv_has ls 1 [(0, .ref h)] := hl
  refine lv_aload_n hx hb dX8_clear_0 rfl (lv_at hl 0 rfl) ?_
  refine z_get (v := .ref (q 0)) hx hb hts hiX8_clear_X8 hown hW 0 0 1 rfl rfl rfl (by decide) rfl dX8_clear_1 ?_
  refine z_iconst (n := 0) hx hb dX8_clear_4 ?_
  refine z_callS (As := [.ref (q 0), .int (iI 0)]) (rest := []) F (c_fill (q 0) 240 (a 0) 0 (by decide)) gX8_clear_J7_fill_53178 rfl ziJ7_fill_53178 ⟨rfl, rfl, by decide, by decide⟩ rfl hl.1 rfl (Nat.le_of_ble_eq_true rfl) dX8_clear_5 ⟨Nat.zero_le _, Nat.zero_le _⟩ hW hA [1] rfl (by decide) (fun _ => rfl) (fun _ => vW cI cJ h q v (uA a 0 (fun _ => 0))) (fun _ => rfl) (fun _ => []) (fun _ => rfl) (fun _ H locs hp5 hW => ?_)
  have hW : zW G (tyZ cI cJ cO) A s (vW cI cJ h q v (uA a 0 (fun _ => 0))) H locs := hW
  refine lv_aload_n hx hb dX8_clear_8 rfl (lv_at hl 0 rfl) ?_
  refine z_get (v := .ref (q 1)) hx hb hts hiX8_clear_X8 hown hW 0 1 2 rfl rfl rfl (by decide) rfl dX8_clear_9 ?_
  refine z_sipush hx hb dX8_clear_12 (by decide +kernel) ?_
  refine z_callS (As := [.ref (q 1), .int (iI 240)]) (rest := []) F (c_fill (q 1) 240 (a 1) 240 (by decide)) gX8_clear_J7_fill_53178 rfl ziJ7_fill_53178 ⟨rfl, rfl, by decide, by decide⟩ rfl hl.1 rfl (Nat.le_of_ble_eq_true rfl) dX8_clear_15 ⟨Nat.zero_le _, Nat.zero_le _⟩ hW hA [2] rfl (by decide) (fun _ => rfl) (fun _ => vW cI cJ h q v (uA (uA a 0 (fun _ => 0)) 1 (fun _ => 240))) (fun _ => rfl) (fun _ => []) (fun _ => rfl) (fun _ H locs hp15 hW => ?_)
  have hW : zW G (tyZ cI cJ cO) A s (vW cI cJ h q v (uA (uA a 0 (fun _ => 0)) 1 (fun _ => 240))) H locs := hW
  refine lv_aload_n hx hb dX8_clear_18 rfl (lv_at hl 0 rfl) ?_
  refine z_iconst (n := 0) hx hb dX8_clear_19 ?_
  refine z_put hx hb hts hiX8_clear_X8 tyX8 tyX8_ok nmX8 hown hW 0 2 3 rfl rfl (by decide) (Nat.le_of_ble_eq_true rfl) rfl rfl rfl rfl dX8_clear_20 (fun H locs hW => ?_)
  have hW : zW G (tyZ cI cJ cO) A s (vW cI cJ h q (uV v 2 0) (uA (uA a 0 (fun _ => 0)) 1 (fun _ => 240))) H locs := hW
  exact z_vret hx hb hr hlk hW () trivial rfl dX8_clear_23
theorem hiX8_has_X8 : ∀ w ∈ wsX80, w ∈ wsX8_has := fun _ h => List.mem_cons_of_mem _ (List.mem_append_right _ h)
theorem ziX8_has : yX8_has.cls = RX8 ∧ yX8_has.cls ≠ "java/lang/invoke/MethodHandle" ∧ yX8_has.cls ≠ "java/lang/invoke/VarHandle" ∧ (parseMethodDescriptor yX8_has.desc).map (fun d => d.parameters.length) = some 1 := by decide +kernel
set_option maxHeartbeats 4000000 in
set_option maxRecDepth 100000 in
theorem c_X8_has {l : Launch} {G : va_G} {cI cJ cO : ClassId}  (h : Nat) (q : Nat → Nat) (v : Nat → Int) (a : Nat → Int → Int) (y : Int)  (h1 : -2147483648 ≤ y ∧ y < 2147483648) (h3 : 0 ≤ y → y < 240 → 0 ≤ a 0 y ∧ a 0 y ≤ 9999) : zC l yX8_has wsX8_has { frames := 0, cells := 0, slots := 0, locals := 0 } G (tyZ cI cJ cO) (S := Unit) [.ref h, .int (iI y)] (vW cI cJ h q v a) (zI (fun _ => bI ((0 ≤ y ∧ y < 240) ∧ a 0 y ≠ 0))) (fun _ => True) (fun _ => vW cI cJ h q v a) 0 0 := by
  refine z_start (cc := cX8_has) (maxL := 2) (ret := (some .boolean)) (by decide) rfl (Nat.le_of_ble_eq_true rfl) ?_
  intro p e s m below meth c A ls F hr hlk hnm hAe hA hW hl
  have hx := F.1
  have hb := F.2.1
  have hown : s.vm.findClass RX8 = some m.cls := F.2.2.2.1
  have hts := F.2.2.2.2
  have hl : lv_has ls 2 [(0, .ref h), (1, .int (iI y))] := hl
  refine lv_iload_n hx hb dX8_has_0 rfl (lv_at hl 1 rfl) ?_
  refine z_if_lt (tgt := 26) hx hb dX8_has_1 (by decide) ⟨by omega, by omega⟩ (fun c1 => ?_) (fun c1 => ?_)
  · refine z_iconst (n := 0) hx hb dX8_has_26 ?_
    exact z_zret hx hb hr hlk (by first | exact Or.inl rfl | exact Or.inr rfl | omega) hW () (by first | exact bI_t ⟨by omega, by omega⟩ | exact bI_f (fun hq => by obtain ⟨q1, q2⟩ := hq; omega)) trivial rfl dX8_has_27
  · refine lv_iload_n hx hb dX8_has_4 rfl (lv_at hl 1 rfl) ?_
    refine lv_aload_n hx hb dX8_has_5 rfl (lv_at hl 0 rfl) ?_
    refine z_get (v := .ref (q 0)) hx hb hts hiX8_has_X8 hown hW 0 0 1 rfl rfl rfl (by decide) rfl dX8_has_6 ?_
    refine z_alen hx hb hW 1 0 rfl rfl dX8_has_9 ?_
    refine W.eq (g2 := F0 m 10 ls [.int (iI 240), .int (iI y)]) rfl ?_
    refine z_icmp_ge (tgt := 26) hx hb dX8_has_10 (by decide) ⟨by omega, by omega⟩ (by decide) (fun c10 => ?_) (fun c10 => ?_)
    · refine z_iconst (n := 0) hx hb dX8_has_26 ?_
      exact z_zret hx hb hr hlk (by first | exact Or.inl rfl | exact Or.inr rfl | omega) hW () (by first | exact bI_t ⟨by omega, by omega⟩ | exact bI_f (fun hq => by obtain ⟨q1, q2⟩ := hq; omega)) trivial rfl dX8_has_27
    · have h9 := h3 (by omega) (by omega)
      refine lv_aload_n hx hb dX8_has_13 rfl (lv_at hl 0 rfl) ?_
      refine z_get (v := .ref (q 0)) hx hb hts hiX8_has_X8 hown hW 0 0 1 rfl rfl rfl (by decide) rfl dX8_has_14 ?_
      refine lv_iload_n hx hb dX8_has_17 rfl (lv_at hl 1 rfl) ?_
      refine z_iald (f := a 0) (i := y) hx hb hW 1 0 rfl rfl (by decide) ⟨by omega, by omega⟩ dX8_has_18 ?_
      refine z_if_eq (tgt := 26) hx hb dX8_has_19 (by decide) ⟨by omega, by omega⟩ (fun c19 => ?_) (fun c19 => ?_)
      · refine z_iconst (n := 0) hx hb dX8_has_26 ?_
        exact z_zret hx hb hr hlk (by first | exact Or.inl rfl | exact Or.inr rfl | omega) hW () (by first | exact bI_t ⟨by omega, by omega⟩ | exact bI_f (fun hq => by obtain ⟨q1, q2⟩ := hq; omega)) trivial rfl dX8_has_27
      · refine z_iconst (n := 1) hx hb dX8_has_22 ?_
        refine lv_goto (tgt := 27) hx hb dX8_has_23 (by decide) ?_
        exact z_zret hx hb hr hlk (by first | exact Or.inl rfl | exact Or.inr rfl | omega) hW () (by first | exact bI_t ⟨by omega, by omega⟩ | exact bI_f (fun hq => by obtain ⟨q1, q2⟩ := hq; omega)) trivial rfl dX8_has_27
theorem hiX8_tell_X8 : ∀ w ∈ wsX80, w ∈ wsX8_tell := fun _ h => List.mem_cons_of_mem _ (List.mem_append_right _ h)
theorem ziX8_tell : yX8_tell.cls = RX8 ∧ yX8_tell.cls ≠ "java/lang/invoke/MethodHandle" ∧ yX8_tell.cls ≠ "java/lang/invoke/VarHandle" ∧ (parseMethodDescriptor yX8_tell.desc).map (fun d => d.parameters.length) = some 3 := by decide +kernel
set_option maxHeartbeats 4000000 in
set_option maxRecDepth 100000 in
theorem c_X8_tell {l : Launch} {G : va_G} {cI cJ cO : ClassId}  (h : Nat) (q : Nat → Nat) (v : Nat → Int) (a : Nat → Int → Int) (y z k : Int)  (h1 : 0 ≤ y ∧ y < 240) : zC l yX8_tell wsX8_tell { frames := 0, cells := 0, slots := 0, locals := 0 } G (tyZ cI cJ cO) (S := Unit) [.ref h, .int (iI y), .int (iI z), .int (iI k)] (vW cI cJ h q v a) (zN) (fun _ => True) (fun _ => vW cI cJ h q (uV v 2 (v 2 + 1)) (uA (uA a 0 (uI (a 0) y z)) 1 (uI (a 1) y k))) 0 0 := by
  refine z_start (cc := cX8_tell) (maxL := 4) (ret := none) (by decide) rfl (Nat.le_of_ble_eq_true rfl) ?_
  intro p e s m below meth c A ls F hr hlk hnm hAe hA hW hl
  have hx := F.1
  have hb := F.2.1
  have hown : s.vm.findClass RX8 = some m.cls := F.2.2.2.1
  have hts := F.2.2.2.2
  have hl : lv_has ls 4 [(0, .ref h), (1, .int (iI y)), (2, .int (iI z)), (3, .int (iI k))] := hl
  refine lv_iload_n hx hb dX8_tell_0 rfl (lv_at hl 1 rfl) ?_
  refine z_if_lt (tgt := 46) hx hb dX8_tell_1 (by decide) ⟨by omega, by omega⟩ (fun c1 => ?_) (fun c1 => ?_)
  · exfalso; omega
  · refine lv_iload_n hx hb dX8_tell_4 rfl (lv_at hl 1 rfl) ?_
    refine lv_aload_n hx hb dX8_tell_5 rfl (lv_at hl 0 rfl) ?_
    refine z_get (v := .ref (q 0)) hx hb hts hiX8_tell_X8 hown hW 0 0 1 rfl rfl rfl (by decide) rfl dX8_tell_6 ?_
    refine z_alen hx hb hW 1 0 rfl rfl dX8_tell_9 ?_
    refine W.eq (g2 := F0 m 10 ls [.int (iI 240), .int (iI y)]) rfl ?_
    refine z_icmp_ge (tgt := 46) hx hb dX8_tell_10 (by decide) ⟨by omega, by omega⟩ (by decide) (fun c10 => ?_) (fun c10 => ?_)
    · exfalso; omega
    · refine lv_iload_n hx hb dX8_tell_13 rfl (lv_at hl 1 rfl) ?_
      refine lv_aload_n hx hb dX8_tell_14 rfl (lv_at hl 0 rfl) ?_
      refine z_get (v := .ref (q 1)) hx hb hts hiX8_tell_X8 hown hW 0 1 2 rfl rfl rfl (by decide) rfl dX8_tell_15 ?_
      refine z_alen hx hb hW 2 0 rfl rfl dX8_tell_18 ?_
      refine W.eq (g2 := F0 m 19 ls [.int (iI 240), .int (iI y)]) rfl ?_
      refine z_icmp_ge (tgt := 46) hx hb dX8_tell_19 (by decide) ⟨by omega, by omega⟩ (by decide) (fun c19 => ?_) (fun c19 => ?_)
      · exfalso; omega
      · refine lv_aload_n hx hb dX8_tell_22 rfl (lv_at hl 0 rfl) ?_
        refine z_get (v := .ref (q 0)) hx hb hts hiX8_tell_X8 hown hW 0 0 1 rfl rfl rfl (by decide) rfl dX8_tell_23 ?_
        refine lv_iload_n hx hb dX8_tell_26 rfl (lv_at hl 1 rfl) ?_
        refine lv_iload_n hx hb dX8_tell_27 rfl (lv_at hl 2 rfl) ?_
        refine z_iast (f := a 0) (i := y) (z := z) hx hb hW 1 0 rfl rfl (by decide) ⟨by omega, by omega⟩ dX8_tell_28 (fun H locs hW => ?_)
        have hW : zW G (tyZ cI cJ cO) A s (vW cI cJ h q v (uA a 0 (uI (a 0) y z))) H locs := hW
        refine lv_aload_n hx hb dX8_tell_29 rfl (lv_at hl 0 rfl) ?_
        refine z_get (v := .ref (q 1)) hx hb hts hiX8_tell_X8 hown hW 0 1 2 rfl rfl rfl (by decide) rfl dX8_tell_30 ?_
        refine lv_iload_n hx hb dX8_tell_33 rfl (lv_at hl 1 rfl) ?_
        refine lv_iload_n hx hb dX8_tell_34 rfl (lv_at hl 3 rfl) ?_
        refine z_iast (f := a 1) (i := y) (z := k) hx hb hW 2 0 rfl rfl (by decide) ⟨by omega, by omega⟩ dX8_tell_35 (fun H locs hW => ?_)
        have hW : zW G (tyZ cI cJ cO) A s (vW cI cJ h q v (uA (uA a 0 (uI (a 0) y z)) 1 (uI (a 1) y k))) H locs := hW
        refine lv_aload_n hx hb dX8_tell_36 rfl (lv_at hl 0 rfl) ?_
        refine lv_dup hx hb dX8_tell_37 rfl ?_
        refine z_get (v := .int (iI (v 2))) hx hb hts hiX8_tell_X8 hown hW 0 2 3 rfl rfl rfl (by decide) rfl dX8_tell_38 ?_
        refine z_iconst (n := 1) hx hb dX8_tell_41 ?_
        refine z_iadd hx hb dX8_tell_42 ?_
        refine z_put hx hb hts hiX8_tell_X8 tyX8 tyX8_ok nmX8 hown hW 0 2 3 rfl rfl (by decide) (Nat.le_of_ble_eq_true rfl) rfl rfl rfl rfl dX8_tell_43 (fun H locs hW => ?_)
        have hW : zW G (tyZ cI cJ cO) A s (vW cI cJ h q (uV v 2 ((v 2) + 1)) (uA (uA a 0 (uI (a 0) y z)) 1 (uI (a 1) y k))) H locs := hW
        exact z_vret hx hb hr hlk hW () trivial rfl dX8_tell_46
theorem hiX8_drop_X8 : ∀ w ∈ wsX80, w ∈ wsX8_drop := fun _ h => List.mem_cons_of_mem _ (List.mem_append_right _ h)
theorem ziX8_drop : yX8_drop.cls = RX8 ∧ yX8_drop.cls ≠ "java/lang/invoke/MethodHandle" ∧ yX8_drop.cls ≠ "java/lang/invoke/VarHandle" ∧ (parseMethodDescriptor yX8_drop.desc).map (fun d => d.parameters.length) = some 1 := by decide +kernel
set_option maxHeartbeats 4000000 in
set_option maxRecDepth 100000 in
theorem c_X8_drop {l : Launch} {G : va_G} {cI cJ cO : ClassId}  (h : Nat) (q : Nat → Nat) (v : Nat → Int) (a : Nat → Int → Int) (y : Int)  (h1 : 0 ≤ y ∧ y < 240) : zC l yX8_drop wsX8_drop { frames := 0, cells := 0, slots := 0, locals := 0 } G (tyZ cI cJ cO) (S := Unit) [.ref h, .int (iI y)] (vW cI cJ h q v a) (zN) (fun _ => True) (fun _ => vW cI cJ h q (uV v 2 (v 2 - 1)) (uA (uA a 0 (uI (a 0) y 0)) 1 (uI (a 1) y 240))) 0 0 := by
  refine z_start (cc := cX8_drop) (maxL := 2) (ret := none) (by decide) rfl (Nat.le_of_ble_eq_true rfl) ?_
  intro p e s m below meth c A ls F hr hlk hnm hAe hA hW hl
  have hx := F.1
  have hb := F.2.1
  have hown : s.vm.findClass RX8 = some m.cls := F.2.2.2.1
  have hts := F.2.2.2.2
  have hl : lv_has ls 2 [(0, .ref h), (1, .int (iI y))] := hl
  refine lv_iload_n hx hb dX8_drop_0 rfl (lv_at hl 1 rfl) ?_
  refine z_if_lt (tgt := 48) hx hb dX8_drop_1 (by decide) ⟨by omega, by omega⟩ (fun c1 => ?_) (fun c1 => ?_)
  · exfalso; omega
  · refine lv_iload_n hx hb dX8_drop_4 rfl (lv_at hl 1 rfl) ?_
    refine lv_aload_n hx hb dX8_drop_5 rfl (lv_at hl 0 rfl) ?_
    refine z_get (v := .ref (q 0)) hx hb hts hiX8_drop_X8 hown hW 0 0 1 rfl rfl rfl (by decide) rfl dX8_drop_6 ?_
    refine z_alen hx hb hW 1 0 rfl rfl dX8_drop_9 ?_
    refine W.eq (g2 := F0 m 10 ls [.int (iI 240), .int (iI y)]) rfl ?_
    refine z_icmp_ge (tgt := 48) hx hb dX8_drop_10 (by decide) ⟨by omega, by omega⟩ (by decide) (fun c10 => ?_) (fun c10 => ?_)
    · exfalso; omega
    · refine lv_iload_n hx hb dX8_drop_13 rfl (lv_at hl 1 rfl) ?_
      refine lv_aload_n hx hb dX8_drop_14 rfl (lv_at hl 0 rfl) ?_
      refine z_get (v := .ref (q 1)) hx hb hts hiX8_drop_X8 hown hW 0 1 2 rfl rfl rfl (by decide) rfl dX8_drop_15 ?_
      refine z_alen hx hb hW 2 0 rfl rfl dX8_drop_18 ?_
      refine W.eq (g2 := F0 m 19 ls [.int (iI 240), .int (iI y)]) rfl ?_
      refine z_icmp_ge (tgt := 48) hx hb dX8_drop_19 (by decide) ⟨by omega, by omega⟩ (by decide) (fun c19 => ?_) (fun c19 => ?_)
      · exfalso; omega
      · refine lv_aload_n hx hb dX8_drop_22 rfl (lv_at hl 0 rfl) ?_
        refine z_get (v := .ref (q 0)) hx hb hts hiX8_drop_X8 hown hW 0 0 1 rfl rfl rfl (by decide) rfl dX8_drop_23 ?_
        refine lv_iload_n hx hb dX8_drop_26 rfl (lv_at hl 1 rfl) ?_
        refine z_iconst (n := 0) hx hb dX8_drop_27 ?_
        refine z_iast (f := a 0) (i := y) (z := 0) hx hb hW 1 0 rfl rfl (by decide) ⟨by omega, by omega⟩ dX8_drop_28 (fun H locs hW => ?_)
        have hW : zW G (tyZ cI cJ cO) A s (vW cI cJ h q v (uA a 0 (uI (a 0) y 0))) H locs := hW
        refine lv_aload_n hx hb dX8_drop_29 rfl (lv_at hl 0 rfl) ?_
        refine z_get (v := .ref (q 1)) hx hb hts hiX8_drop_X8 hown hW 0 1 2 rfl rfl rfl (by decide) rfl dX8_drop_30 ?_
        refine lv_iload_n hx hb dX8_drop_33 rfl (lv_at hl 1 rfl) ?_
        refine z_sipush hx hb dX8_drop_34 (by decide +kernel) ?_
        refine z_iast (f := a 1) (i := y) (z := 240) hx hb hW 2 0 rfl rfl (by decide) ⟨by omega, by omega⟩ dX8_drop_37 (fun H locs hW => ?_)
        have hW : zW G (tyZ cI cJ cO) A s (vW cI cJ h q v (uA (uA a 0 (uI (a 0) y 0)) 1 (uI (a 1) y 240))) H locs := hW
        refine lv_aload_n hx hb dX8_drop_38 rfl (lv_at hl 0 rfl) ?_
        refine lv_dup hx hb dX8_drop_39 rfl ?_
        refine z_get (v := .int (iI (v 2))) hx hb hts hiX8_drop_X8 hown hW 0 2 3 rfl rfl rfl (by decide) rfl dX8_drop_40 ?_
        refine z_iconst (n := 1) hx hb dX8_drop_43 ?_
        refine z_isub hx hb dX8_drop_44 ?_
        refine z_put hx hb hts hiX8_drop_X8 tyX8 tyX8_ok nmX8 hown hW 0 2 3 rfl rfl (by decide) (Nat.le_of_ble_eq_true rfl) rfl rfl rfl rfl dX8_drop_45 (fun H locs hW => ?_)
        have hW : zW G (tyZ cI cJ cO) A s (vW cI cJ h q (uV v 2 ((v 2) - 1)) (uA (uA a 0 (uI (a 0) y 0)) 1 (uI (a 1) y 240))) H locs := hW
        exact z_vret hx hb hr hlk hW () trivial rfl dX8_drop_48
