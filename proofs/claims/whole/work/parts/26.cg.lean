/-! the class: acts, tape -/
def SH (f : Int → Int) : Int → Int := fun j => if j < 9 then f (j + 1) else f j
def KEPT (f : Int → Int) (c z : Int) (g : Int → Int) : Prop := (c = 10 → g = uI (SH f) 9 z) ∧ (¬ c = 10 → g = uI f c z)
theorem hiX0_clear_X0 : ∀ w ∈ wsX00, w ∈ wsX0_clear := fun _ h => List.mem_cons_of_mem _ (List.mem_append_right _ h)
theorem ziX0_clear : yX0_clear.cls = RX0 ∧ yX0_clear.cls ≠ "java/lang/invoke/MethodHandle" ∧ yX0_clear.cls ≠ "java/lang/invoke/VarHandle" ∧ (parseMethodDescriptor yX0_clear.desc).map (fun d => d.parameters.length) = some 0 := by decide +kernel
set_option maxHeartbeats 4000000 in
set_option maxRecDepth 100000 in
theorem c_X0_clear {l : Launch} {G : va_G} {cI cJ cO : ClassId}  (h : Nat) (q : Nat → Nat) (v : Nat → Int) (a : Nat → Int → Int)    : zC l yX0_clear wsX0_clear { frames := 0, cells := 0, slots := 0, locals := 0 } G (tyZ cI cJ cO) (S := Unit) [.ref h] (aW cI cJ h q v a) (zN) (fun _ => True) (fun _ => aW cI cJ h q (uV v 3 0) a) 0 0 := by
  refine z_start (cc := cX0_clear) (maxL := 1) (ret := none) (by decide) rfl (Nat.le_of_ble_eq_true rfl) ?_
  intro p e s m below meth c A ls F hr hlk hnm hAe hA hW hl
  have hx := F.1
  have hb := F.2.1
  have hown : s.vm.findClass RX0 = some m.cls := F.2.2.2.1
  have hts := F.2.2.2.2
  have hl : lv_has ls 1 [(0, .ref h)] := hl
  refine lv_aload_n hx hb dX0_clear_0 rfl (lv_at hl 0 rfl) ?_
  refine z_iconst (n := 0) hx hb dX0_clear_1 ?_
  refine z_put hx hb hts hiX0_clear_X0 tyX0 tyX0_ok nmX0 hown hW 0 3 1 rfl rfl (by decide) (Nat.le_of_ble_eq_true rfl) rfl rfl rfl rfl dX0_clear_2 (fun H locs hW => ?_)
  have hW : zW G (tyZ cI cJ cO) A s (aW cI cJ h q (uV v 3 0) a) H locs := hW
  exact z_vret hx hb hr hlk hW () trivial rfl dX0_clear_5
theorem hiX0_forgetFirst_X0 : ∀ w ∈ wsX00, w ∈ wsX0_forgetFirst := fun _ h => List.mem_cons_of_mem _ (List.mem_append_right _ h)
theorem ziX0_forgetFirst : yX0_forgetFirst.cls = RX0 ∧ yX0_forgetFirst.cls ≠ "java/lang/invoke/MethodHandle" ∧ yX0_forgetFirst.cls ≠ "java/lang/invoke/VarHandle" ∧ (parseMethodDescriptor yX0_forgetFirst.desc).map (fun d => d.parameters.length) = some 0 := by decide +kernel
set_option maxHeartbeats 4000000 in
set_option maxRecDepth 100000 in
theorem c_X0_forgetFirst {l : Launch} {G : va_G} {cI cJ cO : ClassId}  (h : Nat) (q : Nat → Nat) (v : Nat → Int) (a : Nat → Int → Int)    : zC l yX0_forgetFirst wsX0_forgetFirst { frames := 0, cells := 0, slots := 0, locals := 0 } G (tyZ cI cJ cO) (S := Unit) [.ref h] (aW cI cJ h q v a) (zN) (fun _ => True) (fun _ => aW cI cJ h q (uV v 3 9) (uA (uA (uA a 0 (SH (a 0))) 1 (SH (a 1))) 2 (SH (a 2)))) 0 0 := by
  refine z_start (cc := cX0_forgetFirst) (maxL := 2) (ret := none) (by decide) rfl (Nat.le_of_ble_eq_true rfl) ?_
  intro p e s m below meth c A ls F hr hlk hnm hAe hA hW hl
  have hx := F.1
  have hb := F.2.1
  have hown : s.vm.findClass RX0 = some m.cls := F.2.2.2.1
  have hts := F.2.2.2.2
  have hl : lv_has ls 2 [(0, .ref h)] := hl
  refine z_iconst (n := 1) hx hb dX0_forgetFirst_0 ?_
  refine lv_istore_n (lv' := [(1, .int (iI 1)), (0, .ref h)]) hx hb dX0_forgetFirst_1 rfl hl (by decide) rfl (fun ls hl => ?_)
  refine z_loop4 (fun (i1 : Int) (f0 : Int → Int) (f1 : Int → Int) (f2 : Int → Int) (ls : Array Slot) (H : Heap) (locs : List Loc) => (1 ≤ i1 ∧ i1 ≤ 10) ∧ (∀ j : Int, 0 ≤ j → j < 10 → f0 j = if j < i1 - 1 then a 0 (j + 1) else a 0 j) ∧ (∀ j : Int, 0 ≤ j → j < 10 → f1 j = if j < i1 - 1 then a 1 (j + 1) else a 1 j) ∧ (∀ j : Int, 0 ≤ j → j < 10 → f2 j = if j < i1 - 1 then a 2 (j + 1) else a 2 j) ∧ zW G (tyZ cI cJ cO) A s (aW cI cJ h q v (uA (uA (uA a 0 f0) 1 f1) 2 f2)) H locs ∧ lv_has ls 2 [(1, .int (iI i1)), (0, .ref h)]) (fun i1 f0 f1 f2 => (10 - i1).toNat) ?_ 1 (a 0) (a 1) (a 2) _ _ _ ⟨(by omega), (fun j j0 j1 => (if_neg (by omega)).symm), (fun j j0 j1 => (if_neg (by omega)).symm), (fun j j0 j1 => (if_neg (by omega)).symm), hW, (lv_sub hl [0, 1] rfl)⟩
  intro i1 f0 f1 f2 ls H locs hI ih
  obtain ⟨k1, k2, k3, k4, hW, hl⟩ := hI
  refine lv_iload_n hx hb dX0_forgetFirst_2 rfl (lv_at hl 0 rfl) ?_
  refine z_bipush hx hb dX0_forgetFirst_3 (by decide +kernel) ?_
  refine z_icmp_ge (tgt := 56) hx hb dX0_forgetFirst_5 (by decide) ⟨by omega, by omega⟩ (by decide) (fun c5 => ?_) (fun c5 => ?_)
  · refine lv_aload_n hx hb dX0_forgetFirst_56 rfl (lv_at hl 1 rfl) ?_
    refine z_bipush hx hb dX0_forgetFirst_57 (by decide +kernel) ?_
    refine z_put hx hb hts hiX0_forgetFirst_X0 tyX0 tyX0_ok nmX0 hown hW 0 3 4 rfl rfl (by decide) (Nat.le_of_ble_eq_true rfl) rfl rfl rfl rfl dX0_forgetFirst_59 (fun H locs hW => ?_)
    have hW : zW G (tyZ cI cJ cO) A s (aW cI cJ h q (uV v 3 9) (uA (uA (uA a 0 f0) 1 f1) 2 f2)) H locs := hW
    have hW := z_row hW 1 (SH (a 0)) rfl (fun j j0 j1 => by show f0 j = _; rw [k2 j j0 j1, show i1 = 10 by omega]; rfl)
    have hW := z_row hW 2 (SH (a 1)) rfl (fun j j0 j1 => by show f1 j = _; rw [k3 j j0 j1, show i1 = 10 by omega]; rfl)
    have hW := z_row hW 3 (SH (a 2)) rfl (fun j j0 j1 => by show f2 j = _; rw [k4 j j0 j1, show i1 = 10 by omega]; rfl)
    exact z_vret hx hb hr hlk hW () trivial rfl dX0_forgetFirst_62
  · refine lv_aload_n hx hb dX0_forgetFirst_8 rfl (lv_at hl 1 rfl) ?_
    refine z_get (v := .ref (q 0)) hx hb hts hiX0_forgetFirst_X0 hown hW 0 0 1 rfl rfl rfl (by decide) rfl dX0_forgetFirst_9 ?_
    refine lv_iload_n hx hb dX0_forgetFirst_12 rfl (lv_at hl 0 rfl) ?_
    refine z_iconst (n := 1) hx hb dX0_forgetFirst_13 ?_
    refine z_isub hx hb dX0_forgetFirst_14 ?_
    refine lv_aload_n hx hb dX0_forgetFirst_15 rfl (lv_at hl 1 rfl) ?_
    refine z_get (v := .ref (q 0)) hx hb hts hiX0_forgetFirst_X0 hown hW 0 0 1 rfl rfl rfl (by decide) rfl dX0_forgetFirst_16 ?_
    refine lv_iload_n hx hb dX0_forgetFirst_19 rfl (lv_at hl 0 rfl) ?_
    refine z_iald (f := f0) (i := i1) hx hb hW 1 0 rfl rfl (by decide) ⟨by omega, by omega⟩ dX0_forgetFirst_20 ?_
    refine z_iast (f := f0) (i := i1 - 1) (z := f0 i1) hx hb hW 1 0 rfl rfl (by decide) ⟨by omega, by omega⟩ dX0_forgetFirst_21 (fun H locs hW => ?_)
    have hW : zW G (tyZ cI cJ cO) A s (aW cI cJ h q v (uA (uA (uA a 1 f1) 2 f2) 0 (uI f0 (i1 - 1) (f0 i1)))) H locs := hW
    refine lv_aload_n hx hb dX0_forgetFirst_22 rfl (lv_at hl 1 rfl) ?_
    refine z_get (v := .ref (q 1)) hx hb hts hiX0_forgetFirst_X0 hown hW 0 1 2 rfl rfl rfl (by decide) rfl dX0_forgetFirst_23 ?_
    refine lv_iload_n hx hb dX0_forgetFirst_26 rfl (lv_at hl 0 rfl) ?_
    refine z_iconst (n := 1) hx hb dX0_forgetFirst_27 ?_
    refine z_isub hx hb dX0_forgetFirst_28 ?_
    refine lv_aload_n hx hb dX0_forgetFirst_29 rfl (lv_at hl 1 rfl) ?_
    refine z_get (v := .ref (q 1)) hx hb hts hiX0_forgetFirst_X0 hown hW 0 1 2 rfl rfl rfl (by decide) rfl dX0_forgetFirst_30 ?_
    refine lv_iload_n hx hb dX0_forgetFirst_33 rfl (lv_at hl 0 rfl) ?_
    refine z_iald (f := f1) (i := i1) hx hb hW 2 0 rfl rfl (by decide) ⟨by omega, by omega⟩ dX0_forgetFirst_34 ?_
    refine z_iast (f := f1) (i := i1 - 1) (z := f1 i1) hx hb hW 2 0 rfl rfl (by decide) ⟨by omega, by omega⟩ dX0_forgetFirst_35 (fun H locs hW => ?_)
    have hW : zW G (tyZ cI cJ cO) A s (aW cI cJ h q v (uA (uA (uA a 2 f2) 0 (uI f0 (i1 - 1) (f0 i1))) 1 (uI f1 (i1 - 1) (f1 i1)))) H locs := hW
    refine lv_aload_n hx hb dX0_forgetFirst_36 rfl (lv_at hl 1 rfl) ?_
    refine z_get (v := .ref (q 2)) hx hb hts hiX0_forgetFirst_X0 hown hW 0 2 3 rfl rfl rfl (by decide) rfl dX0_forgetFirst_37 ?_
    refine lv_iload_n hx hb dX0_forgetFirst_40 rfl (lv_at hl 0 rfl) ?_
    refine z_iconst (n := 1) hx hb dX0_forgetFirst_41 ?_
    refine z_isub hx hb dX0_forgetFirst_42 ?_
    refine lv_aload_n hx hb dX0_forgetFirst_43 rfl (lv_at hl 1 rfl) ?_
    refine z_get (v := .ref (q 2)) hx hb hts hiX0_forgetFirst_X0 hown hW 0 2 3 rfl rfl rfl (by decide) rfl dX0_forgetFirst_44 ?_
    refine lv_iload_n hx hb dX0_forgetFirst_47 rfl (lv_at hl 0 rfl) ?_
    refine z_iald (f := f2) (i := i1) hx hb hW 3 0 rfl rfl (by decide) ⟨by omega, by omega⟩ dX0_forgetFirst_48 ?_
    refine z_iast (f := f2) (i := i1 - 1) (z := f2 i1) hx hb hW 3 0 rfl rfl (by decide) ⟨by omega, by omega⟩ dX0_forgetFirst_49 (fun H locs hW => ?_)
    have hW : zW G (tyZ cI cJ cO) A s (aW cI cJ h q v (uA (uA (uA a 0 (uI f0 (i1 - 1) (f0 i1))) 1 (uI f1 (i1 - 1) (f1 i1))) 2 (uI f2 (i1 - 1) (f2 i1)))) H locs := hW
    refine z_iinc (k := 0) (lv' := [(1, .int (iI (i1 + 1))), (0, .ref h)]) hx hb dX0_forgetFirst_50 hl rfl (by decide) rfl (fun ls hl => ?_)
    refine lv_goto (tgt := 2) hx hb dX0_forgetFirst_53 (by decide) ?_
    exact ih (i1 + 1) (uI f0 (i1 - 1) (f0 i1)) (uI f1 (i1 - 1) (f1 i1)) (uI f2 (i1 - 1) (f2 i1)) _ _ _ ⟨(by omega), (fun j j0 j1 => by by_cases je : j = i1 - 1; (subst je; rw [uI_s, k2 i1 (by omega) (by omega), if_neg (by omega), if_pos (by omega), show i1 - 1 + 1 = i1 by omega]); (rw [uI_n je, k2 j j0 j1]; by_cases jl : j < i1 - 1; (rw [if_pos jl, if_pos (by omega)]); (rw [if_neg jl, if_neg (by omega)]))), (fun j j0 j1 => by by_cases je : j = i1 - 1; (subst je; rw [uI_s, k3 i1 (by omega) (by omega), if_neg (by omega), if_pos (by omega), show i1 - 1 + 1 = i1 by omega]); (rw [uI_n je, k3 j j0 j1]; by_cases jl : j < i1 - 1; (rw [if_pos jl, if_pos (by omega)]); (rw [if_neg jl, if_neg (by omega)]))), (fun j j0 j1 => by by_cases je : j = i1 - 1; (subst je; rw [uI_s, k4 i1 (by omega) (by omega), if_neg (by omega), if_pos (by omega), show i1 - 1 + 1 = i1 by omega]); (rw [uI_n je, k4 j j0 j1]; by_cases jl : j < i1 - 1; (rw [if_pos jl, if_pos (by omega)]); (rw [if_neg jl, if_neg (by omega)]))), hW, (lv_sub hl [0, 1] rfl)⟩ (by omega)
theorem hiX0_keep_X0 : ∀ w ∈ wsX00, w ∈ wsX0_keep := fun _ h => List.mem_cons_of_mem _ (List.mem_append_right _ h)
theorem ziX0_keep : yX0_keep.cls = RX0 ∧ yX0_keep.cls ≠ "java/lang/invoke/MethodHandle" ∧ yX0_keep.cls ≠ "java/lang/invoke/VarHandle" ∧ (parseMethodDescriptor yX0_keep.desc).map (fun d => d.parameters.length) = some 3 := by decide +kernel
set_option maxHeartbeats 4000000 in
set_option maxRecDepth 100000 in
theorem c_X0_keep {l : Launch} {G : va_G} {cI cJ cO : ClassId}  (h : Nat) (q : Nat → Nat) (v : Nat → Int) (a : Nat → Int → Int) (k x y : Int)  (h1 : 0 ≤ v 3 ∧ v 3 ≤ 10) : zC l yX0_keep wsX0_keep { frames := 1, cells := 0, slots := 0, locals := 21 } G (tyZ cI cJ cO) (S := (Int → Int) × (Int → Int) × (Int → Int) × Int) [.ref h, .int (iI k), .int (iI x), .int (iI y)] (aW cI cJ h q v a) (zN) (fun u => KEPT (a 0) (v 3) k u.1 ∧ KEPT (a 1) (v 3) x u.2.1 ∧ KEPT (a 2) (v 3) y u.2.2.1 ∧ u.2.2.2 = (if v 3 = 10 then 10 else v 3 + 1)) (fun u => aW cI cJ h q (uV v 3 u.2.2.2) (uA (uA (uA a 0 u.1) 1 u.2.1) 2 u.2.2.1)) 0 0 := by
  refine z_start (cc := cX0_keep) (maxL := 4) (ret := none) (by decide) rfl (Nat.le_of_ble_eq_true rfl) ?_
  intro p e s m below meth c A ls F hr hlk hnm hAe hA hW hl
  have hx := F.1
  have hb := F.2.1
  have hown : s.vm.findClass RX0 = some m.cls := F.2.2.2.1
  have hts := F.2.2.2.2
  have hl : lv_has ls 4 [(0, .ref h), (1, .int (iI k)), (2, .int (iI x)), (3, .int (iI y))] := hl
  refine lv_aload_n hx hb dX0_keep_0 rfl (lv_at hl 0 rfl) ?_
  refine z_get (v := .int (iI (v 3))) hx hb hts hiX0_keep_X0 hown hW 0 3 1 rfl rfl rfl (by decide) rfl dX0_keep_1 ?_
  refine z_bipush hx hb dX0_keep_4 (by decide +kernel) ?_
  refine z_icmp_lt (tgt := 13) hx hb dX0_keep_6 (by decide) ⟨by omega, by omega⟩ (by decide) (fun c6 => ?_) (fun c6 => ?_)
  · refine lv_aload_n hx hb dX0_keep_13 rfl (lv_at hl 0 rfl) ?_
    refine z_get (v := .int (iI (v 3))) hx hb hts hiX0_keep_X0 hown hW 0 3 1 rfl rfl rfl (by decide) rfl dX0_keep_14 ?_
    refine z_if_lt (tgt := 96) hx hb dX0_keep_17 (by decide) ⟨by omega, by omega⟩ (fun c17 => ?_) (fun c17 => ?_)
    · exfalso; omega
    · refine lv_aload_n hx hb dX0_keep_20 rfl (lv_at hl 0 rfl) ?_
      refine z_get (v := .int (iI (v 3))) hx hb hts hiX0_keep_X0 hown hW 0 3 1 rfl rfl rfl (by decide) rfl dX0_keep_21 ?_
      refine lv_aload_n hx hb dX0_keep_24 rfl (lv_at hl 0 rfl) ?_
      refine z_get (v := .ref (q 0)) hx hb hts hiX0_keep_X0 hown hW 0 0 2 rfl rfl rfl (by decide) rfl dX0_keep_25 ?_
      refine z_alen hx hb hW 1 0 rfl rfl dX0_keep_28 ?_
      refine W.eq (g2 := F0 m 29 ls [.int (iI 10), .int (iI (v 3))]) rfl ?_
      refine z_icmp_ge (tgt := 96) hx hb dX0_keep_29 (by decide) ⟨by omega, by omega⟩ (by decide) (fun c29 => ?_) (fun c29 => ?_)
      · exfalso; omega
      · refine lv_aload_n hx hb dX0_keep_32 rfl (lv_at hl 0 rfl) ?_
        refine z_get (v := .int (iI (v 3))) hx hb hts hiX0_keep_X0 hown hW 0 3 1 rfl rfl rfl (by decide) rfl dX0_keep_33 ?_
        refine lv_aload_n hx hb dX0_keep_36 rfl (lv_at hl 0 rfl) ?_
        refine z_get (v := .ref (q 1)) hx hb hts hiX0_keep_X0 hown hW 0 1 3 rfl rfl rfl (by decide) rfl dX0_keep_37 ?_
        refine z_alen hx hb hW 2 0 rfl rfl dX0_keep_40 ?_
        refine W.eq (g2 := F0 m 41 ls [.int (iI 10), .int (iI (v 3))]) rfl ?_
        refine z_icmp_ge (tgt := 96) hx hb dX0_keep_41 (by decide) ⟨by omega, by omega⟩ (by decide) (fun c41 => ?_) (fun c41 => ?_)
        · exfalso; omega
        · refine lv_aload_n hx hb dX0_keep_44 rfl (lv_at hl 0 rfl) ?_
          refine z_get (v := .int (iI (v 3))) hx hb hts hiX0_keep_X0 hown hW 0 3 1 rfl rfl rfl (by decide) rfl dX0_keep_45 ?_
          refine lv_aload_n hx hb dX0_keep_48 rfl (lv_at hl 0 rfl) ?_
          refine z_get (v := .ref (q 2)) hx hb hts hiX0_keep_X0 hown hW 0 2 4 rfl rfl rfl (by decide) rfl dX0_keep_49 ?_
          refine z_alen hx hb hW 3 0 rfl rfl dX0_keep_52 ?_
          refine W.eq (g2 := F0 m 53 ls [.int (iI 10), .int (iI (v 3))]) rfl ?_
          refine z_icmp_ge (tgt := 96) hx hb dX0_keep_53 (by decide) ⟨by omega, by omega⟩ (by decide) (fun c53 => ?_) (fun c53 => ?_)
          · exfalso; omega
          · refine lv_aload_n hx hb dX0_keep_56 rfl (lv_at hl 0 rfl) ?_
            refine z_get (v := .ref (q 0)) hx hb hts hiX0_keep_X0 hown hW 0 0 2 rfl rfl rfl (by decide) rfl dX0_keep_57 ?_
            refine lv_aload_n hx hb dX0_keep_60 rfl (lv_at hl 0 rfl) ?_
            refine z_get (v := .int (iI (v 3))) hx hb hts hiX0_keep_X0 hown hW 0 3 1 rfl rfl rfl (by decide) rfl dX0_keep_61 ?_
            refine lv_iload_n hx hb dX0_keep_64 rfl (lv_at hl 1 rfl) ?_
            refine z_iast (f := a 0) (i := v 3) (z := k) hx hb hW 1 0 rfl rfl (by decide) ⟨by omega, by omega⟩ dX0_keep_65 (fun H locs hW => ?_)
            have hW : zW G (tyZ cI cJ cO) A s (aW cI cJ h q v (uA a 0 (uI (a 0) (v 3) k))) H locs := hW
            refine lv_aload_n hx hb dX0_keep_66 rfl (lv_at hl 0 rfl) ?_
            refine z_get (v := .ref (q 1)) hx hb hts hiX0_keep_X0 hown hW 0 1 3 rfl rfl rfl (by decide) rfl dX0_keep_67 ?_
            refine lv_aload_n hx hb dX0_keep_70 rfl (lv_at hl 0 rfl) ?_
            refine z_get (v := .int (iI (v 3))) hx hb hts hiX0_keep_X0 hown hW 0 3 1 rfl rfl rfl (by decide) rfl dX0_keep_71 ?_
            refine lv_iload_n hx hb dX0_keep_74 rfl (lv_at hl 2 rfl) ?_
            refine z_iast (f := a 1) (i := v 3) (z := x) hx hb hW 2 0 rfl rfl (by decide) ⟨by omega, by omega⟩ dX0_keep_75 (fun H locs hW => ?_)
            have hW : zW G (tyZ cI cJ cO) A s (aW cI cJ h q v (uA (uA a 0 (uI (a 0) (v 3) k)) 1 (uI (a 1) (v 3) x))) H locs := hW
            refine lv_aload_n hx hb dX0_keep_76 rfl (lv_at hl 0 rfl) ?_
            refine z_get (v := .ref (q 2)) hx hb hts hiX0_keep_X0 hown hW 0 2 4 rfl rfl rfl (by decide) rfl dX0_keep_77 ?_
            refine lv_aload_n hx hb dX0_keep_80 rfl (lv_at hl 0 rfl) ?_
            refine z_get (v := .int (iI (v 3))) hx hb hts hiX0_keep_X0 hown hW 0 3 1 rfl rfl rfl (by decide) rfl dX0_keep_81 ?_
            refine lv_iload_n hx hb dX0_keep_84 rfl (lv_at hl 3 rfl) ?_
            refine z_iast (f := a 2) (i := v 3) (z := y) hx hb hW 3 0 rfl rfl (by decide) ⟨by omega, by omega⟩ dX0_keep_85 (fun H locs hW => ?_)
            have hW : zW G (tyZ cI cJ cO) A s (aW cI cJ h q v (uA (uA (uA a 0 (uI (a 0) (v 3) k)) 1 (uI (a 1) (v 3) x)) 2 (uI (a 2) (v 3) y))) H locs := hW
            refine lv_aload_n hx hb dX0_keep_86 rfl (lv_at hl 0 rfl) ?_
            refine lv_dup hx hb dX0_keep_87 rfl ?_
            refine z_get (v := .int (iI (v 3))) hx hb hts hiX0_keep_X0 hown hW 0 3 1 rfl rfl rfl (by decide) rfl dX0_keep_88 ?_
            refine z_iconst (n := 1) hx hb dX0_keep_91 ?_
            refine z_iadd hx hb dX0_keep_92 ?_
            refine z_put hx hb hts hiX0_keep_X0 tyX0 tyX0_ok nmX0 hown hW 0 3 1 rfl rfl (by decide) (Nat.le_of_ble_eq_true rfl) rfl rfl rfl rfl dX0_keep_93 (fun H locs hW => ?_)
            have hW : zW G (tyZ cI cJ cO) A s (aW cI cJ h q (uV v 3 ((v 3) + 1)) (uA (uA (uA a 0 (uI (a 0) (v 3) k)) 1 (uI (a 1) (v 3) x)) 2 (uI (a 2) (v 3) y))) H locs := hW
            exact z_vret hx hb hr hlk hW (⟨uI (a 0) (v 3) k, uI (a 1) (v 3) x, uI (a 2) (v 3) y, (v 3) + 1⟩) (⟨⟨fun q9 => absurd q9 (by omega), fun _ => rfl⟩, ⟨fun q9 => absurd q9 (by omega), fun _ => rfl⟩, ⟨fun q9 => absurd q9 (by omega), fun _ => rfl⟩, (by first | exact (if_pos (by omega)).symm | exact (if_neg (by omega)).symm)⟩) rfl dX0_keep_96
  · refine lv_aload_n hx hb dX0_keep_9 rfl (lv_at hl 0 rfl) ?_
    refine z_callV (As := []) (rest := []) F (c_X0_forgetFirst  h q v a   ) gX0_keep_X0_forgetFirst rfl ziX0_forgetFirst ⟨rfl, rfl, by decide, by decide⟩ rfl hl.1 rfl (Nat.le_of_ble_eq_true rfl) dX0_keep_10 ⟨Nat.zero_le _, Nat.zero_le _⟩ hW hA [0, 1, 2, 3] rfl (by decide) (fun _ => rfl) (fun _ => aW cI cJ h q (uV v 3 9) (uA (uA (uA a 0 (SH ((a 0)))) 1 (SH ((a 1)))) 2 (SH ((a 2))))) (fun _ => rfl) (fun _ => []) (fun _ => rfl) 0 rfl rfl rfl (fun _ H locs hp10 hW => ?_)
    have hW : zW G (tyZ cI cJ cO) A s (aW cI cJ h q (uV v 3 9) (uA (uA (uA a 0 (SH ((a 0)))) 1 (SH ((a 1)))) 2 (SH ((a 2))))) H locs := hW
    refine lv_aload_n hx hb dX0_keep_13 rfl (lv_at hl 0 rfl) ?_
    refine z_get (v := .int (iI 9)) hx hb hts hiX0_keep_X0 hown hW 0 3 1 rfl rfl rfl (by decide) rfl dX0_keep_14 ?_
    refine z_if_lt (tgt := 96) hx hb dX0_keep_17 (by decide) (by decide) (fun c17 => ?_) (fun c17 => ?_)
    · exfalso; omega
    · refine lv_aload_n hx hb dX0_keep_20 rfl (lv_at hl 0 rfl) ?_
      refine z_get (v := .int (iI 9)) hx hb hts hiX0_keep_X0 hown hW 0 3 1 rfl rfl rfl (by decide) rfl dX0_keep_21 ?_
      refine lv_aload_n hx hb dX0_keep_24 rfl (lv_at hl 0 rfl) ?_
      refine z_get (v := .ref (q 0)) hx hb hts hiX0_keep_X0 hown hW 0 0 2 rfl rfl rfl (by decide) rfl dX0_keep_25 ?_
      refine z_alen hx hb hW 1 0 rfl rfl dX0_keep_28 ?_
      refine W.eq (g2 := F0 m 29 ls [.int (iI 10), .int (iI 9)]) rfl ?_
      refine z_icmp_ge (tgt := 96) hx hb dX0_keep_29 (by decide) (by decide) (by decide) (fun c29 => ?_) (fun c29 => ?_)
      · exfalso; omega
      · refine lv_aload_n hx hb dX0_keep_32 rfl (lv_at hl 0 rfl) ?_
        refine z_get (v := .int (iI 9)) hx hb hts hiX0_keep_X0 hown hW 0 3 1 rfl rfl rfl (by decide) rfl dX0_keep_33 ?_
        refine lv_aload_n hx hb dX0_keep_36 rfl (lv_at hl 0 rfl) ?_
        refine z_get (v := .ref (q 1)) hx hb hts hiX0_keep_X0 hown hW 0 1 3 rfl rfl rfl (by decide) rfl dX0_keep_37 ?_
        refine z_alen hx hb hW 2 0 rfl rfl dX0_keep_40 ?_
        refine W.eq (g2 := F0 m 41 ls [.int (iI 10), .int (iI 9)]) rfl ?_
        refine z_icmp_ge (tgt := 96) hx hb dX0_keep_41 (by decide) (by decide) (by decide) (fun c41 => ?_) (fun c41 => ?_)
        · exfalso; omega
        · refine lv_aload_n hx hb dX0_keep_44 rfl (lv_at hl 0 rfl) ?_
          refine z_get (v := .int (iI 9)) hx hb hts hiX0_keep_X0 hown hW 0 3 1 rfl rfl rfl (by decide) rfl dX0_keep_45 ?_
          refine lv_aload_n hx hb dX0_keep_48 rfl (lv_at hl 0 rfl) ?_
          refine z_get (v := .ref (q 2)) hx hb hts hiX0_keep_X0 hown hW 0 2 4 rfl rfl rfl (by decide) rfl dX0_keep_49 ?_
          refine z_alen hx hb hW 3 0 rfl rfl dX0_keep_52 ?_
          refine W.eq (g2 := F0 m 53 ls [.int (iI 10), .int (iI 9)]) rfl ?_
          refine z_icmp_ge (tgt := 96) hx hb dX0_keep_53 (by decide) (by decide) (by decide) (fun c53 => ?_) (fun c53 => ?_)
          · exfalso; omega
          · refine lv_aload_n hx hb dX0_keep_56 rfl (lv_at hl 0 rfl) ?_
            refine z_get (v := .ref (q 0)) hx hb hts hiX0_keep_X0 hown hW 0 0 2 rfl rfl rfl (by decide) rfl dX0_keep_57 ?_
            refine lv_aload_n hx hb dX0_keep_60 rfl (lv_at hl 0 rfl) ?_
            refine z_get (v := .int (iI 9)) hx hb hts hiX0_keep_X0 hown hW 0 3 1 rfl rfl rfl (by decide) rfl dX0_keep_61 ?_
            refine lv_iload_n hx hb dX0_keep_64 rfl (lv_at hl 1 rfl) ?_
            refine z_iast (f := SH ((a 0))) (i := 9) (z := k) hx hb hW 1 0 rfl rfl (by decide) ⟨by omega, by omega⟩ dX0_keep_65 (fun H locs hW => ?_)
            have hW : zW G (tyZ cI cJ cO) A s (aW cI cJ h q (uV v 3 9) (uA (uA (uA a 1 (SH ((a 1)))) 2 (SH ((a 2)))) 0 (uI (SH ((a 0))) 9 k))) H locs := hW
            refine lv_aload_n hx hb dX0_keep_66 rfl (lv_at hl 0 rfl) ?_
            refine z_get (v := .ref (q 1)) hx hb hts hiX0_keep_X0 hown hW 0 1 3 rfl rfl rfl (by decide) rfl dX0_keep_67 ?_
            refine lv_aload_n hx hb dX0_keep_70 rfl (lv_at hl 0 rfl) ?_
            refine z_get (v := .int (iI 9)) hx hb hts hiX0_keep_X0 hown hW 0 3 1 rfl rfl rfl (by decide) rfl dX0_keep_71 ?_
            refine lv_iload_n hx hb dX0_keep_74 rfl (lv_at hl 2 rfl) ?_
            refine z_iast (f := SH ((a 1))) (i := 9) (z := x) hx hb hW 2 0 rfl rfl (by decide) ⟨by omega, by omega⟩ dX0_keep_75 (fun H locs hW => ?_)
            have hW : zW G (tyZ cI cJ cO) A s (aW cI cJ h q (uV v 3 9) (uA (uA (uA a 2 (SH ((a 2)))) 0 (uI (SH ((a 0))) 9 k)) 1 (uI (SH ((a 1))) 9 x))) H locs := hW
            refine lv_aload_n hx hb dX0_keep_76 rfl (lv_at hl 0 rfl) ?_
            refine z_get (v := .ref (q 2)) hx hb hts hiX0_keep_X0 hown hW 0 2 4 rfl rfl rfl (by decide) rfl dX0_keep_77 ?_
            refine lv_aload_n hx hb dX0_keep_80 rfl (lv_at hl 0 rfl) ?_
            refine z_get (v := .int (iI 9)) hx hb hts hiX0_keep_X0 hown hW 0 3 1 rfl rfl rfl (by decide) rfl dX0_keep_81 ?_
            refine lv_iload_n hx hb dX0_keep_84 rfl (lv_at hl 3 rfl) ?_
            refine z_iast (f := SH ((a 2))) (i := 9) (z := y) hx hb hW 3 0 rfl rfl (by decide) ⟨by omega, by omega⟩ dX0_keep_85 (fun H locs hW => ?_)
            have hW : zW G (tyZ cI cJ cO) A s (aW cI cJ h q (uV v 3 9) (uA (uA (uA a 0 (uI (SH ((a 0))) 9 k)) 1 (uI (SH ((a 1))) 9 x)) 2 (uI (SH ((a 2))) 9 y))) H locs := hW
            refine lv_aload_n hx hb dX0_keep_86 rfl (lv_at hl 0 rfl) ?_
            refine lv_dup hx hb dX0_keep_87 rfl ?_
            refine z_get (v := .int (iI 9)) hx hb hts hiX0_keep_X0 hown hW 0 3 1 rfl rfl rfl (by decide) rfl dX0_keep_88 ?_
            refine z_iconst (n := 1) hx hb dX0_keep_91 ?_
            refine z_iadd hx hb dX0_keep_92 ?_
            refine z_put hx hb hts hiX0_keep_X0 tyX0 tyX0_ok nmX0 hown hW 0 3 1 rfl rfl (by decide) (Nat.le_of_ble_eq_true rfl) rfl rfl rfl rfl dX0_keep_93 (fun H locs hW => ?_)
            have hW : zW G (tyZ cI cJ cO) A s (aW cI cJ h q (uV v 3 (9 + 1)) (uA (uA (uA a 0 (uI (SH ((a 0))) 9 k)) 1 (uI (SH ((a 1))) 9 x)) 2 (uI (SH ((a 2))) 9 y))) H locs := hW
            exact z_vret hx hb hr hlk hW (⟨uI (SH ((a 0))) 9 k, uI (SH ((a 1))) 9 x, uI (SH ((a 2))) 9 y, 9 + 1⟩) (⟨⟨fun _ => rfl, fun q9 => absurd (by omega) q9⟩, ⟨fun _ => rfl, fun q9 => absurd (by omega) q9⟩, ⟨fun _ => rfl, fun q9 => absurd (by omega) q9⟩, (by first | exact (if_pos (by omega)).symm | exact (if_neg (by omega)).symm)⟩) rfl dX0_keep_96
theorem hiX0_latestOf_X0 : ∀ w ∈ wsX00, w ∈ wsX0_latestOf := fun _ h => List.mem_cons_of_mem _ (List.mem_append_right _ h)
theorem ziX0_latestOf : yX0_latestOf.cls = RX0 ∧ yX0_latestOf.cls ≠ "java/lang/invoke/MethodHandle" ∧ yX0_latestOf.cls ≠ "java/lang/invoke/VarHandle" ∧ (parseMethodDescriptor yX0_latestOf.desc).map (fun d => d.parameters.length) = some 1 := by decide +kernel
set_option maxHeartbeats 4000000 in
set_option maxRecDepth 100000 in
theorem c_X0_latestOf0 {l : Launch} {G : va_G} {cI cJ cO : ClassId}  (h : Nat) (q : Nat → Nat) (v : Nat → Int) (a : Nat → Int → Int)   (h1 : 0 ≤ v 3 ∧ v 3 ≤ 10) : zC l yX0_latestOf wsX0_latestOf { frames := 0, cells := 0, slots := 0, locals := 0 } G (tyZ cI cJ cO) (S := Unit) [.ref h, .ref (q 0)] (aW cI cJ h q v a) (zI (fun _ => if 0 < v 3 then a 0 (v 3 - 1) else -1)) (fun _ => True) (fun _ => aW cI cJ h q v a) 0 0 := by
  refine z_start (cc := cX0_latestOf) (maxL := 2) (ret := (some .int)) (by decide) rfl (Nat.le_of_ble_eq_true rfl) ?_
  intro p e s m below meth c A ls F hr hlk hnm hAe hA hW hl
  have hx := F.1
  have hb := F.2.1
  have hown : s.vm.findClass RX0 = some m.cls := F.2.2.2.1
  have hts := F.2.2.2.2
  have hl : lv_has ls 2 [(0, .ref h), (1, .ref (q 0))] := hl
  refine lv_aload_n hx hb dX0_latestOf_0 rfl (lv_at hl 0 rfl) ?_
  refine z_get (v := .int (iI (v 3))) hx hb hts hiX0_latestOf_X0 hown hW 0 3 1 rfl rfl rfl (by decide) rfl dX0_latestOf_1 ?_
  refine z_if_le (tgt := 27) hx hb dX0_latestOf_4 (by decide) ⟨by omega, by omega⟩ (fun c4 => ?_) (fun c4 => ?_)
  · refine z_iconst (n := -1) hx hb dX0_latestOf_27 ?_
    exact z_iret hx hb hr hlk hW () (by first | exact if_pos (by omega) | exact if_neg (by omega)) trivial rfl dX0_latestOf_28
  · refine lv_aload_n hx hb dX0_latestOf_7 rfl (lv_at hl 0 rfl) ?_
    refine z_get (v := .int (iI (v 3))) hx hb hts hiX0_latestOf_X0 hown hW 0 3 1 rfl rfl rfl (by decide) rfl dX0_latestOf_8 ?_
    refine lv_aload_n hx hb dX0_latestOf_11 rfl (lv_at hl 1 rfl) ?_
    refine z_alen hx hb hW 1 0 rfl rfl dX0_latestOf_12 ?_
    refine W.eq (g2 := F0 m 13 ls [.int (iI 10), .int (iI (v 3))]) rfl ?_
    refine z_icmp_gt (tgt := 27) hx hb dX0_latestOf_13 (by decide) ⟨by omega, by omega⟩ (by decide) (fun c13 => ?_) (fun c13 => ?_)
    · exfalso; omega
    · refine lv_aload_n hx hb dX0_latestOf_16 rfl (lv_at hl 1 rfl) ?_
      refine lv_aload_n hx hb dX0_latestOf_17 rfl (lv_at hl 0 rfl) ?_
      refine z_get (v := .int (iI (v 3))) hx hb hts hiX0_latestOf_X0 hown hW 0 3 1 rfl rfl rfl (by decide) rfl dX0_latestOf_18 ?_
      refine z_iconst (n := 1) hx hb dX0_latestOf_21 ?_
      refine z_isub hx hb dX0_latestOf_22 ?_
      refine z_iald (f := a 0) (i := (v 3) - 1) hx hb hW 1 0 rfl rfl (by decide) ⟨by omega, by omega⟩ dX0_latestOf_23 ?_
      refine lv_goto (tgt := 28) hx hb dX0_latestOf_24 (by decide) ?_
      exact z_iret hx hb hr hlk hW () (by first | exact if_pos (by omega) | exact if_neg (by omega)) trivial rfl dX0_latestOf_28
set_option maxHeartbeats 4000000 in
set_option maxRecDepth 100000 in
theorem c_X0_latestOf1 {l : Launch} {G : va_G} {cI cJ cO : ClassId}  (h : Nat) (q : Nat → Nat) (v : Nat → Int) (a : Nat → Int → Int)   (h1 : 0 ≤ v 3 ∧ v 3 ≤ 10) : zC l yX0_latestOf wsX0_latestOf { frames := 0, cells := 0, slots := 0, locals := 0 } G (tyZ cI cJ cO) (S := Unit) [.ref h, .ref (q 1)] (aW cI cJ h q v a) (zI (fun _ => if 0 < v 3 then a 1 (v 3 - 1) else -1)) (fun _ => True) (fun _ => aW cI cJ h q v a) 0 0 := by
  refine z_start (cc := cX0_latestOf) (maxL := 2) (ret := (some .int)) (by decide) rfl (Nat.le_of_ble_eq_true rfl) ?_
  intro p e s m below meth c A ls F hr hlk hnm hAe hA hW hl
  have hx := F.1
  have hb := F.2.1
  have hown : s.vm.findClass RX0 = some m.cls := F.2.2.2.1
  have hts := F.2.2.2.2
  have hl : lv_has ls 2 [(0, .ref h), (1, .ref (q 1))] := hl
  refine lv_aload_n hx hb dX0_latestOf_0 rfl (lv_at hl 0 rfl) ?_
  refine z_get (v := .int (iI (v 3))) hx hb hts hiX0_latestOf_X0 hown hW 0 3 1 rfl rfl rfl (by decide) rfl dX0_latestOf_1 ?_
  refine z_if_le (tgt := 27) hx hb dX0_latestOf_4 (by decide) ⟨by omega, by omega⟩ (fun c4 => ?_) (fun c4 => ?_)
  · refine z_iconst (n := -1) hx hb dX0_latestOf_27 ?_
    exact z_iret hx hb hr hlk hW () (by first | exact if_pos (by omega) | exact if_neg (by omega)) trivial rfl dX0_latestOf_28
  · refine lv_aload_n hx hb dX0_latestOf_7 rfl (lv_at hl 0 rfl) ?_
    refine z_get (v := .int (iI (v 3))) hx hb hts hiX0_latestOf_X0 hown hW 0 3 1 rfl rfl rfl (by decide) rfl dX0_latestOf_8 ?_
    refine lv_aload_n hx hb dX0_latestOf_11 rfl (lv_at hl 1 rfl) ?_
    refine z_alen hx hb hW 2 0 rfl rfl dX0_latestOf_12 ?_
    refine W.eq (g2 := F0 m 13 ls [.int (iI 10), .int (iI (v 3))]) rfl ?_
    refine z_icmp_gt (tgt := 27) hx hb dX0_latestOf_13 (by decide) ⟨by omega, by omega⟩ (by decide) (fun c13 => ?_) (fun c13 => ?_)
    · exfalso; omega
    · refine lv_aload_n hx hb dX0_latestOf_16 rfl (lv_at hl 1 rfl) ?_
      refine lv_aload_n hx hb dX0_latestOf_17 rfl (lv_at hl 0 rfl) ?_
      refine z_get (v := .int (iI (v 3))) hx hb hts hiX0_latestOf_X0 hown hW 0 3 1 rfl rfl rfl (by decide) rfl dX0_latestOf_18 ?_
      refine z_iconst (n := 1) hx hb dX0_latestOf_21 ?_
      refine z_isub hx hb dX0_latestOf_22 ?_
      refine z_iald (f := a 1) (i := (v 3) - 1) hx hb hW 2 0 rfl rfl (by decide) ⟨by omega, by omega⟩ dX0_latestOf_23 ?_
      refine lv_goto (tgt := 28) hx hb dX0_latestOf_24 (by decide) ?_
      exact z_iret hx hb hr hlk hW () (by first | exact if_pos (by omega) | exact if_neg (by omega)) trivial rfl dX0_latestOf_28
set_option maxHeartbeats 4000000 in
set_option maxRecDepth 100000 in
theorem c_X0_latestOf2 {l : Launch} {G : va_G} {cI cJ cO : ClassId}  (h : Nat) (q : Nat → Nat) (v : Nat → Int) (a : Nat → Int → Int)   (h1 : 0 ≤ v 3 ∧ v 3 ≤ 10) : zC l yX0_latestOf wsX0_latestOf { frames := 0, cells := 0, slots := 0, locals := 0 } G (tyZ cI cJ cO) (S := Unit) [.ref h, .ref (q 2)] (aW cI cJ h q v a) (zI (fun _ => if 0 < v 3 then a 2 (v 3 - 1) else -1)) (fun _ => True) (fun _ => aW cI cJ h q v a) 0 0 := by
  refine z_start (cc := cX0_latestOf) (maxL := 2) (ret := (some .int)) (by decide) rfl (Nat.le_of_ble_eq_true rfl) ?_
  intro p e s m below meth c A ls F hr hlk hnm hAe hA hW hl
  have hx := F.1
  have hb := F.2.1
  have hown : s.vm.findClass RX0 = some m.cls := F.2.2.2.1
  have hts := F.2.2.2.2
  have hl : lv_has ls 2 [(0, .ref h), (1, .ref (q 2))] := hl
  refine lv_aload_n hx hb dX0_latestOf_0 rfl (lv_at hl 0 rfl) ?_
  refine z_get (v := .int (iI (v 3))) hx hb hts hiX0_latestOf_X0 hown hW 0 3 1 rfl rfl rfl (by decide) rfl dX0_latestOf_1 ?_
  refine z_if_le (tgt := 27) hx hb dX0_latestOf_4 (by decide) ⟨by omega, by omega⟩ (fun c4 => ?_) (fun c4 => ?_)
  · refine z_iconst (n := -1) hx hb dX0_latestOf_27 ?_
    exact z_iret hx hb hr hlk hW () (by first | exact if_pos (by omega) | exact if_neg (by omega)) trivial rfl dX0_latestOf_28
  · refine lv_aload_n hx hb dX0_latestOf_7 rfl (lv_at hl 0 rfl) ?_
    refine z_get (v := .int (iI (v 3))) hx hb hts hiX0_latestOf_X0 hown hW 0 3 1 rfl rfl rfl (by decide) rfl dX0_latestOf_8 ?_
    refine lv_aload_n hx hb dX0_latestOf_11 rfl (lv_at hl 1 rfl) ?_
    refine z_alen hx hb hW 3 0 rfl rfl dX0_latestOf_12 ?_
    refine W.eq (g2 := F0 m 13 ls [.int (iI 10), .int (iI (v 3))]) rfl ?_
    refine z_icmp_gt (tgt := 27) hx hb dX0_latestOf_13 (by decide) ⟨by omega, by omega⟩ (by decide) (fun c13 => ?_) (fun c13 => ?_)
    · exfalso; omega
    · refine lv_aload_n hx hb dX0_latestOf_16 rfl (lv_at hl 1 rfl) ?_
      refine lv_aload_n hx hb dX0_latestOf_17 rfl (lv_at hl 0 rfl) ?_
      refine z_get (v := .int (iI (v 3))) hx hb hts hiX0_latestOf_X0 hown hW 0 3 1 rfl rfl rfl (by decide) rfl dX0_latestOf_18 ?_
      refine z_iconst (n := 1) hx hb dX0_latestOf_21 ?_
      refine z_isub hx hb dX0_latestOf_22 ?_
      refine z_iald (f := a 2) (i := (v 3) - 1) hx hb hW 3 0 rfl rfl (by decide) ⟨by omega, by omega⟩ dX0_latestOf_23 ?_
      refine lv_goto (tgt := 28) hx hb dX0_latestOf_24 (by decide) ?_
      exact z_iret hx hb hr hlk hW () (by first | exact if_pos (by omega) | exact if_neg (by omega)) trivial rfl dX0_latestOf_28
theorem hiX0_latestKind_X0 : ∀ w ∈ wsX00, w ∈ wsX0_latestKind := fun _ h => List.mem_cons_of_mem _ (List.mem_append_right _ h)
theorem ziX0_latestKind : yX0_latestKind.cls = RX0 ∧ yX0_latestKind.cls ≠ "java/lang/invoke/MethodHandle" ∧ yX0_latestKind.cls ≠ "java/lang/invoke/VarHandle" ∧ (parseMethodDescriptor yX0_latestKind.desc).map (fun d => d.parameters.length) = some 0 := by decide +kernel
set_option maxHeartbeats 4000000 in
set_option maxRecDepth 100000 in
theorem c_X0_latestKind {l : Launch} {G : va_G} {cI cJ cO : ClassId}  (h : Nat) (q : Nat → Nat) (v : Nat → Int) (a : Nat → Int → Int)   (h1 : 0 ≤ v 3 ∧ v 3 ≤ 10) : zC l yX0_latestKind wsX0_latestKind { frames := 1, cells := 0, slots := 0, locals := 21 } G (tyZ cI cJ cO) (S := Unit) [.ref h] (aW cI cJ h q v a) (zI (fun _ => if 0 < v 3 then a 0 (v 3 - 1) else -1)) (fun _ => True) (fun _ => aW cI cJ h q v a) 0 0 := by
  refine z_start (cc := cX0_latestKind) (maxL := 1) (ret := (some .int)) (by decide) rfl (Nat.le_of_ble_eq_true rfl) ?_
  intro p e s m below meth c A ls F hr hlk hnm hAe hA hW hl
  have hx := F.1
  have hb := F.2.1
  have hown : s.vm.findClass RX0 = some m.cls := F.2.2.2.1
  have hts := F.2.2.2.2
  have hl : lv_has ls 1 [(0, .ref h)] := hl
  refine lv_aload_n hx hb dX0_latestKind_0 rfl (lv_at hl 0 rfl) ?_
  refine lv_aload_n hx hb dX0_latestKind_1 rfl (lv_at hl 0 rfl) ?_
  refine z_get (v := .ref (q 0)) hx hb hts hiX0_latestKind_X0 hown hW 0 0 1 rfl rfl rfl (by decide) rfl dX0_latestKind_2 ?_
  refine z_callV (As := [.ref (q 0)]) (rest := []) F (c_X0_latestOf0  h q v a   (show 0 ≤ (v 3) ∧ (v 3) ≤ 10 by omega)) gX0_latestKind_X0_latestOf rfl ziX0_latestOf ⟨rfl, rfl, by decide, by decide⟩ rfl hl.1 rfl (Nat.le_of_ble_eq_true rfl) dX0_latestKind_5 ⟨Nat.zero_le _, Nat.zero_le _⟩ hW hA [0, 1, 2, 3] rfl (by decide) (fun _ => rfl) (fun _ => aW cI cJ h q v a) (fun _ => rfl) (fun _ => [.int (iI (if 0 < (v 3) then (a 0) ((v 3) - 1) else -1))]) (fun _ => rfl) 0 rfl rfl rfl (fun _ H locs hp5 hW => ?_)
  exact z_iret hx hb hr hlk hW () (by first | rfl | omega) trivial rfl dX0_latestKind_8
theorem hiX0_latestLease_X0 : ∀ w ∈ wsX00, w ∈ wsX0_latestLease := fun _ h => List.mem_cons_of_mem _ (List.mem_append_right _ h)
theorem ziX0_latestLease : yX0_latestLease.cls = RX0 ∧ yX0_latestLease.cls ≠ "java/lang/invoke/MethodHandle" ∧ yX0_latestLease.cls ≠ "java/lang/invoke/VarHandle" ∧ (parseMethodDescriptor yX0_latestLease.desc).map (fun d => d.parameters.length) = some 0 := by decide +kernel
set_option maxHeartbeats 4000000 in
set_option maxRecDepth 100000 in
theorem c_X0_latestLease {l : Launch} {G : va_G} {cI cJ cO : ClassId}  (h : Nat) (q : Nat → Nat) (v : Nat → Int) (a : Nat → Int → Int)   (h1 : 0 ≤ v 3 ∧ v 3 ≤ 10) : zC l yX0_latestLease wsX0_latestLease { frames := 1, cells := 0, slots := 0, locals := 21 } G (tyZ cI cJ cO) (S := Unit) [.ref h] (aW cI cJ h q v a) (zI (fun _ => if 0 < v 3 then a 1 (v 3 - 1) else -1)) (fun _ => True) (fun _ => aW cI cJ h q v a) 0 0 := by
  refine z_start (cc := cX0_latestLease) (maxL := 1) (ret := (some .int)) (by decide) rfl (Nat.le_of_ble_eq_true rfl) ?_
  intro p e s m below meth c A ls F hr hlk hnm hAe hA hW hl
  have hx := F.1
  have hb := F.2.1
  have hown : s.vm.findClass RX0 = some m.cls := F.2.2.2.1
  have hts := F.2.2.2.2
  have hl : lv_has ls 1 [(0, .ref h)] := hl
  refine lv_aload_n hx hb dX0_latestLease_0 rfl (lv_at hl 0 rfl) ?_
  refine lv_aload_n hx hb dX0_latestLease_1 rfl (lv_at hl 0 rfl) ?_
  refine z_get (v := .ref (q 1)) hx hb hts hiX0_latestLease_X0 hown hW 0 1 1 rfl rfl rfl (by decide) rfl dX0_latestLease_2 ?_
  refine z_callV (As := [.ref (q 1)]) (rest := []) F (c_X0_latestOf1  h q v a   (show 0 ≤ (v 3) ∧ (v 3) ≤ 10 by omega)) gX0_latestLease_X0_latestOf rfl ziX0_latestOf ⟨rfl, rfl, by decide, by decide⟩ rfl hl.1 rfl (Nat.le_of_ble_eq_true rfl) dX0_latestLease_5 ⟨Nat.zero_le _, Nat.zero_le _⟩ hW hA [0, 1, 2, 3] rfl (by decide) (fun _ => rfl) (fun _ => aW cI cJ h q v a) (fun _ => rfl) (fun _ => [.int (iI (if 0 < (v 3) then (a 1) ((v 3) - 1) else -1))]) (fun _ => rfl) 0 rfl rfl rfl (fun _ H locs hp5 hW => ?_)
  exact z_iret hx hb hr hlk hW () (by first | rfl | omega) trivial rfl dX0_latestLease_8
theorem hiX0_latestPlace_X0 : ∀ w ∈ wsX00, w ∈ wsX0_latestPlace := fun _ h => List.mem_cons_of_mem _ (List.mem_append_right _ h)
theorem ziX0_latestPlace : yX0_latestPlace.cls = RX0 ∧ yX0_latestPlace.cls ≠ "java/lang/invoke/MethodHandle" ∧ yX0_latestPlace.cls ≠ "java/lang/invoke/VarHandle" ∧ (parseMethodDescriptor yX0_latestPlace.desc).map (fun d => d.parameters.length) = some 0 := by decide +kernel
set_option maxHeartbeats 4000000 in
set_option maxRecDepth 100000 in
theorem c_X0_latestPlace {l : Launch} {G : va_G} {cI cJ cO : ClassId}  (h : Nat) (q : Nat → Nat) (v : Nat → Int) (a : Nat → Int → Int)   (h1 : 0 ≤ v 3 ∧ v 3 ≤ 10) : zC l yX0_latestPlace wsX0_latestPlace { frames := 1, cells := 0, slots := 0, locals := 21 } G (tyZ cI cJ cO) (S := Unit) [.ref h] (aW cI cJ h q v a) (zI (fun _ => if 0 < v 3 then a 2 (v 3 - 1) else -1)) (fun _ => True) (fun _ => aW cI cJ h q v a) 0 0 := by
  refine z_start (cc := cX0_latestPlace) (maxL := 1) (ret := (some .int)) (by decide) rfl (Nat.le_of_ble_eq_true rfl) ?_
  intro p e s m below meth c A ls F hr hlk hnm hAe hA hW hl
  have hx := F.1
  have hb := F.2.1
  have hown : s.vm.findClass RX0 = some m.cls := F.2.2.2.1
  have hts := F.2.2.2.2
  have hl : lv_has ls 1 [(0, .ref h)] := hl
  refine lv_aload_n hx hb dX0_latestPlace_0 rfl (lv_at hl 0 rfl) ?_
  refine lv_aload_n hx hb dX0_latestPlace_1 rfl (lv_at hl 0 rfl) ?_
  refine z_get (v := .ref (q 2)) hx hb hts hiX0_latestPlace_X0 hown hW 0 2 1 rfl rfl rfl (by decide) rfl dX0_latestPlace_2 ?_
  refine z_callV (As := [.ref (q 2)]) (rest := []) F (c_X0_latestOf2  h q v a   (show 0 ≤ (v 3) ∧ (v 3) ≤ 10 by omega)) gX0_latestPlace_X0_latestOf rfl ziX0_latestOf ⟨rfl, rfl, by decide, by decide⟩ rfl hl.1 rfl (Nat.le_of_ble_eq_true rfl) dX0_latestPlace_5 ⟨Nat.zero_le _, Nat.zero_le _⟩ hW hA [0, 1, 2, 3] rfl (by decide) (fun _ => rfl) (fun _ => aW cI cJ h q v a) (fun _ => rfl) (fun _ => [.int (iI (if 0 < (v 3) then (a 2) ((v 3) - 1) else -1))]) (fun _ => rfl) 0 rfl rfl rfl (fun _ H locs hp5 hW => ?_)
  exact z_iret hx hb hr hlk hW () (by first | rfl | omega) trivial rfl dX0_latestPlace_8
theorem hiX0_dropLatest_X0 : ∀ w ∈ wsX00, w ∈ wsX0_dropLatest := fun _ h => List.mem_cons_of_mem _ (List.mem_append_right _ h)
theorem ziX0_dropLatest : yX0_dropLatest.cls = RX0 ∧ yX0_dropLatest.cls ≠ "java/lang/invoke/MethodHandle" ∧ yX0_dropLatest.cls ≠ "java/lang/invoke/VarHandle" ∧ (parseMethodDescriptor yX0_dropLatest.desc).map (fun d => d.parameters.length) = some 0 := by decide +kernel
set_option maxHeartbeats 4000000 in
set_option maxRecDepth 100000 in
theorem c_X0_dropLatest {l : Launch} {G : va_G} {cI cJ cO : ClassId}  (h : Nat) (q : Nat → Nat) (v : Nat → Int) (a : Nat → Int → Int)   (h1 : 1 ≤ v 3 ∧ v 3 ≤ 10) : zC l yX0_dropLatest wsX0_dropLatest { frames := 0, cells := 0, slots := 0, locals := 0 } G (tyZ cI cJ cO) (S := Unit) [.ref h] (aW cI cJ h q v a) (zN) (fun _ => True) (fun _ => aW cI cJ h q (uV v 3 (v 3 - 1)) a) 0 0 := by
  refine z_start (cc := cX0_dropLatest) (maxL := 1) (ret := none) (by decide) rfl (Nat.le_of_ble_eq_true rfl) ?_
  intro p e s m below meth c A ls F hr hlk hnm hAe hA hW hl
  have hx := F.1
  have hb := F.2.1
  have hown : s.vm.findClass RX0 = some m.cls := F.2.2.2.1
  have hts := F.2.2.2.2
  have hl : lv_has ls 1 [(0, .ref h)] := hl
  refine lv_aload_n hx hb dX0_dropLatest_0 rfl (lv_at hl 0 rfl) ?_
  refine z_get (v := .int (iI (v 3))) hx hb hts hiX0_dropLatest_X0 hown hW 0 3 1 rfl rfl rfl (by decide) rfl dX0_dropLatest_1 ?_
  refine z_if_le (tgt := 17) hx hb dX0_dropLatest_4 (by decide) ⟨by omega, by omega⟩ (fun c4 => ?_) (fun c4 => ?_)
  · exfalso; omega
  · refine lv_aload_n hx hb dX0_dropLatest_7 rfl (lv_at hl 0 rfl) ?_
    refine lv_dup hx hb dX0_dropLatest_8 rfl ?_
    refine z_get (v := .int (iI (v 3))) hx hb hts hiX0_dropLatest_X0 hown hW 0 3 1 rfl rfl rfl (by decide) rfl dX0_dropLatest_9 ?_
    refine z_iconst (n := 1) hx hb dX0_dropLatest_12 ?_
    refine z_isub hx hb dX0_dropLatest_13 ?_
    refine z_put hx hb hts hiX0_dropLatest_X0 tyX0 tyX0_ok nmX0 hown hW 0 3 1 rfl rfl (by decide) (Nat.le_of_ble_eq_true rfl) rfl rfl rfl rfl dX0_dropLatest_14 (fun H locs hW => ?_)
    have hW : zW G (tyZ cI cJ cO) A s (aW cI cJ h q (uV v 3 ((v 3) - 1)) a) H locs := hW
    exact z_vret hx hb hr hlk hW () trivial rfl dX0_dropLatest_17
theorem hiX6_add_X6 : ∀ w ∈ wsX60, w ∈ wsX6_add := fun _ h => List.mem_cons_of_mem _ (List.mem_append_right _ h)
theorem ziX6_add : yX6_add.cls = RX6 ∧ yX6_add.cls ≠ "java/lang/invoke/MethodHandle" ∧ yX6_add.cls ≠ "java/lang/invoke/VarHandle" ∧ (parseMethodDescriptor yX6_add.desc).map (fun d => d.parameters.length) = some 1 := by decide +kernel
set_option maxHeartbeats 4000000 in
set_option maxRecDepth 100000 in
theorem c_X6_add {l : Launch} {G : va_G} {cI cJ cO : ClassId}  (h : Nat) (q : Nat → Nat) (v : Nat → Int) (a : Nat → Int → Int) (w : Int)  (h1 : 0 ≤ v 1 ∧ v 1 + 4 ≤ 640) : zC l yX6_add wsX6_add { frames := 0, cells := 0, slots := 0, locals := 0 } G (tyZ cI cJ cO) (S := (Int → Int)) [.ref h, .int (iI w)] (tW cI cJ h q v a) (zN) (fun u => u = LAY (a 0) (v 1) w) (fun u => tW cI cJ h q (uV v 1 (v 1 + 1 + 1 + 1 + 1)) (uA a 0 u)) 0 0 := by
  refine z_start (cc := cX6_add) (maxL := 3) (ret := none) (by decide) rfl (Nat.le_of_ble_eq_true rfl) ?_
  intro p e s m below meth c A ls F hr hlk hnm hAe hA hW hl
  have hx := F.1
  have hb := F.2.1
  have hown : s.vm.findClass RX6 = some m.cls := F.2.2.2.1
  have hts := F.2.2.2.2
  have hl : lv_has ls 3 [(0, .ref h), (1, .int (iI w))] := hl
  refine z_bipush hx hb dX6_add_0 (by decide +kernel) ?_
  refine lv_istore_n (lv' := [(2, .int (iI 24)), (0, .ref h), (1, .int (iI w))]) hx hb dX6_add_2 rfl hl (by decide) rfl (fun ls hl => ?_)
  refine lv_iload_n hx hb dX6_add_3 rfl (lv_at hl 0 rfl) ?_
  refine z_if_lt (tgt := 51) hx hb dX6_add_4 (by decide) (by decide) (fun c4 => ?_) (fun c4 => ?_)
  · exfalso; omega
  · refine lv_aload_n hx hb dX6_add_7 rfl (lv_at hl 1 rfl) ?_
    refine z_get (v := .int (iI (v 1))) hx hb hts hiX6_add_X6 hown hW 0 1 1 rfl rfl rfl (by decide) rfl dX6_add_8 ?_
    refine lv_aload_n hx hb dX6_add_11 rfl (lv_at hl 1 rfl) ?_
    refine z_get (v := .ref (q 0)) hx hb hts hiX6_add_X6 hown hW 0 0 2 rfl rfl rfl (by decide) rfl dX6_add_12 ?_
    refine z_alen hx hb hW 1 0 rfl rfl dX6_add_15 ?_
    refine W.eq (g2 := F0 m 16 ls [.int (iI 640), .int (iI (v 1))]) rfl ?_
    refine z_icmp_ge (tgt := 51) hx hb dX6_add_16 (by decide) ⟨by omega, by omega⟩ (by decide) (fun c16 => ?_) (fun c16 => ?_)
    · exfalso; omega
    · refine lv_aload_n hx hb dX6_add_19 rfl (lv_at hl 1 rfl) ?_
      refine z_get (v := .ref (q 0)) hx hb hts hiX6_add_X6 hown hW 0 0 2 rfl rfl rfl (by decide) rfl dX6_add_20 ?_
      refine lv_aload_n hx hb dX6_add_23 rfl (lv_at hl 1 rfl) ?_
      refine z_get (v := .int (iI (v 1))) hx hb hts hiX6_add_X6 hown hW 0 1 1 rfl rfl rfl (by decide) rfl dX6_add_24 ?_
      refine lv_iload_n hx hb dX6_add_27 rfl (lv_at hl 2 rfl) ?_
      refine lv_iload_n hx hb dX6_add_28 rfl (lv_at hl 0 rfl) ?_
      refine z_iushr hx hb dX6_add_29 ?_
      refine z_sipush hx hb dX6_add_30 (by decide +kernel) ?_
      refine z_iand hx hb dX6_add_33 ?_
      refine z_name (fun b1 eb1 => ?_)
      refine z_iast (f := a 0) (i := v 1) (z := b1) hx hb hW 1 0 rfl rfl (by decide) ⟨by omega, by omega⟩ dX6_add_34 (fun H locs hW => ?_)
      have hW : zW G (tyZ cI cJ cO) A s (tW cI cJ h q v (uA a 0 (uI (a 0) (v 1) b1))) H locs := hW
      refine lv_aload_n hx hb dX6_add_35 rfl (lv_at hl 1 rfl) ?_
      refine lv_dup hx hb dX6_add_36 rfl ?_
      refine z_get (v := .int (iI (v 1))) hx hb hts hiX6_add_X6 hown hW 0 1 1 rfl rfl rfl (by decide) rfl dX6_add_37 ?_
      refine z_iconst (n := 1) hx hb dX6_add_40 ?_
      refine z_iadd hx hb dX6_add_41 ?_
      refine z_put hx hb hts hiX6_add_X6 tyX6 tyX6_ok nmX6 hown hW 0 1 1 rfl rfl (by decide) (Nat.le_of_ble_eq_true rfl) rfl rfl rfl rfl dX6_add_42 (fun H locs hW => ?_)
      have hW : zW G (tyZ cI cJ cO) A s (tW cI cJ h q (uV v 1 ((v 1) + 1)) (uA a 0 (uI (a 0) (v 1) b1))) H locs := hW
      refine z_iinc (k := 0) (lv' := [(2, .int (iI 16)), (0, .ref h), (1, .int (iI w))]) hx hb dX6_add_45 hl rfl (by decide) rfl (fun ls hl => ?_)
      refine lv_goto (tgt := 3) hx hb dX6_add_48 (by decide) ?_
      refine lv_iload_n hx hb dX6_add_3 rfl (lv_at hl 0 rfl) ?_
      refine z_if_lt (tgt := 51) hx hb dX6_add_4 (by decide) (by decide) (fun c4 => ?_) (fun c4 => ?_)
      · exfalso; omega
      · refine lv_aload_n hx hb dX6_add_7 rfl (lv_at hl 1 rfl) ?_
        refine z_get (v := .int (iI ((v 1) + 1))) hx hb hts hiX6_add_X6 hown hW 0 1 1 rfl rfl rfl (by decide) rfl dX6_add_8 ?_
        refine lv_aload_n hx hb dX6_add_11 rfl (lv_at hl 1 rfl) ?_
        refine z_get (v := .ref (q 0)) hx hb hts hiX6_add_X6 hown hW 0 0 2 rfl rfl rfl (by decide) rfl dX6_add_12 ?_
        refine z_alen hx hb hW 1 0 rfl rfl dX6_add_15 ?_
        refine W.eq (g2 := F0 m 16 ls [.int (iI 640), .int (iI ((v 1) + 1))]) rfl ?_
        refine z_icmp_ge (tgt := 51) hx hb dX6_add_16 (by decide) ⟨by omega, by omega⟩ (by decide) (fun c16 => ?_) (fun c16 => ?_)
        · exfalso; omega
        · refine lv_aload_n hx hb dX6_add_19 rfl (lv_at hl 1 rfl) ?_
          refine z_get (v := .ref (q 0)) hx hb hts hiX6_add_X6 hown hW 0 0 2 rfl rfl rfl (by decide) rfl dX6_add_20 ?_
          refine lv_aload_n hx hb dX6_add_23 rfl (lv_at hl 1 rfl) ?_
          refine z_get (v := .int (iI ((v 1) + 1))) hx hb hts hiX6_add_X6 hown hW 0 1 1 rfl rfl rfl (by decide) rfl dX6_add_24 ?_
          refine lv_iload_n hx hb dX6_add_27 rfl (lv_at hl 2 rfl) ?_
          refine lv_iload_n hx hb dX6_add_28 rfl (lv_at hl 0 rfl) ?_
          refine z_iushr hx hb dX6_add_29 ?_
          refine z_sipush hx hb dX6_add_30 (by decide +kernel) ?_
          refine z_iand hx hb dX6_add_33 ?_
          refine z_name (fun b2 eb2 => ?_)
          refine z_iast (f := uI (a 0) (v 1) b1) (i := (v 1) + 1) (z := b2) hx hb hW 1 0 rfl rfl (by decide) ⟨by omega, by omega⟩ dX6_add_34 (fun H locs hW => ?_)
          have hW : zW G (tyZ cI cJ cO) A s (tW cI cJ h q (uV v 1 ((v 1) + 1)) (uA a 0 (uI (uI (a 0) (v 1) b1) ((v 1) + 1) b2))) H locs := hW
          refine lv_aload_n hx hb dX6_add_35 rfl (lv_at hl 1 rfl) ?_
          refine lv_dup hx hb dX6_add_36 rfl ?_
          refine z_get (v := .int (iI ((v 1) + 1))) hx hb hts hiX6_add_X6 hown hW 0 1 1 rfl rfl rfl (by decide) rfl dX6_add_37 ?_
          refine z_iconst (n := 1) hx hb dX6_add_40 ?_
          refine z_iadd hx hb dX6_add_41 ?_
          refine z_put hx hb hts hiX6_add_X6 tyX6 tyX6_ok nmX6 hown hW 0 1 1 rfl rfl (by decide) (Nat.le_of_ble_eq_true rfl) rfl rfl rfl rfl dX6_add_42 (fun H locs hW => ?_)
          have hW : zW G (tyZ cI cJ cO) A s (tW cI cJ h q (uV v 1 (((v 1) + 1) + 1)) (uA a 0 (uI (uI (a 0) (v 1) b1) ((v 1) + 1) b2))) H locs := hW
          refine z_iinc (k := 0) (lv' := [(2, .int (iI 8)), (0, .ref h), (1, .int (iI w))]) hx hb dX6_add_45 hl rfl (by decide) rfl (fun ls hl => ?_)
          refine lv_goto (tgt := 3) hx hb dX6_add_48 (by decide) ?_
          refine lv_iload_n hx hb dX6_add_3 rfl (lv_at hl 0 rfl) ?_
          refine z_if_lt (tgt := 51) hx hb dX6_add_4 (by decide) (by decide) (fun c4 => ?_) (fun c4 => ?_)
          · exfalso; omega
          · refine lv_aload_n hx hb dX6_add_7 rfl (lv_at hl 1 rfl) ?_
            refine z_get (v := .int (iI (((v 1) + 1) + 1))) hx hb hts hiX6_add_X6 hown hW 0 1 1 rfl rfl rfl (by decide) rfl dX6_add_8 ?_
            refine lv_aload_n hx hb dX6_add_11 rfl (lv_at hl 1 rfl) ?_
            refine z_get (v := .ref (q 0)) hx hb hts hiX6_add_X6 hown hW 0 0 2 rfl rfl rfl (by decide) rfl dX6_add_12 ?_
            refine z_alen hx hb hW 1 0 rfl rfl dX6_add_15 ?_
            refine W.eq (g2 := F0 m 16 ls [.int (iI 640), .int (iI (((v 1) + 1) + 1))]) rfl ?_
            refine z_icmp_ge (tgt := 51) hx hb dX6_add_16 (by decide) ⟨by omega, by omega⟩ (by decide) (fun c16 => ?_) (fun c16 => ?_)
            · exfalso; omega
            · refine lv_aload_n hx hb dX6_add_19 rfl (lv_at hl 1 rfl) ?_
              refine z_get (v := .ref (q 0)) hx hb hts hiX6_add_X6 hown hW 0 0 2 rfl rfl rfl (by decide) rfl dX6_add_20 ?_
              refine lv_aload_n hx hb dX6_add_23 rfl (lv_at hl 1 rfl) ?_
              refine z_get (v := .int (iI (((v 1) + 1) + 1))) hx hb hts hiX6_add_X6 hown hW 0 1 1 rfl rfl rfl (by decide) rfl dX6_add_24 ?_
              refine lv_iload_n hx hb dX6_add_27 rfl (lv_at hl 2 rfl) ?_
              refine lv_iload_n hx hb dX6_add_28 rfl (lv_at hl 0 rfl) ?_
              refine z_iushr hx hb dX6_add_29 ?_
              refine z_sipush hx hb dX6_add_30 (by decide +kernel) ?_
              refine z_iand hx hb dX6_add_33 ?_
              refine z_name (fun b3 eb3 => ?_)
              refine z_iast (f := uI (uI (a 0) (v 1) b1) ((v 1) + 1) b2) (i := ((v 1) + 1) + 1) (z := b3) hx hb hW 1 0 rfl rfl (by decide) ⟨by omega, by omega⟩ dX6_add_34 (fun H locs hW => ?_)
              have hW : zW G (tyZ cI cJ cO) A s (tW cI cJ h q (uV v 1 (((v 1) + 1) + 1)) (uA a 0 (uI (uI (uI (a 0) (v 1) b1) ((v 1) + 1) b2) (((v 1) + 1) + 1) b3))) H locs := hW
              refine lv_aload_n hx hb dX6_add_35 rfl (lv_at hl 1 rfl) ?_
              refine lv_dup hx hb dX6_add_36 rfl ?_
              refine z_get (v := .int (iI (((v 1) + 1) + 1))) hx hb hts hiX6_add_X6 hown hW 0 1 1 rfl rfl rfl (by decide) rfl dX6_add_37 ?_
              refine z_iconst (n := 1) hx hb dX6_add_40 ?_
              refine z_iadd hx hb dX6_add_41 ?_
              refine z_put hx hb hts hiX6_add_X6 tyX6 tyX6_ok nmX6 hown hW 0 1 1 rfl rfl (by decide) (Nat.le_of_ble_eq_true rfl) rfl rfl rfl rfl dX6_add_42 (fun H locs hW => ?_)
              have hW : zW G (tyZ cI cJ cO) A s (tW cI cJ h q (uV v 1 ((((v 1) + 1) + 1) + 1)) (uA a 0 (uI (uI (uI (a 0) (v 1) b1) ((v 1) + 1) b2) (((v 1) + 1) + 1) b3))) H locs := hW
              refine z_iinc (k := 0) (lv' := [(2, .int (iI 0)), (0, .ref h), (1, .int (iI w))]) hx hb dX6_add_45 hl rfl (by decide) rfl (fun ls hl => ?_)
              refine lv_goto (tgt := 3) hx hb dX6_add_48 (by decide) ?_
              refine lv_iload_n hx hb dX6_add_3 rfl (lv_at hl 0 rfl) ?_
              refine z_if_lt (tgt := 51) hx hb dX6_add_4 (by decide) (by decide) (fun c4 => ?_) (fun c4 => ?_)
              · exfalso; omega
              · refine lv_aload_n hx hb dX6_add_7 rfl (lv_at hl 1 rfl) ?_
                refine z_get (v := .int (iI ((((v 1) + 1) + 1) + 1))) hx hb hts hiX6_add_X6 hown hW 0 1 1 rfl rfl rfl (by decide) rfl dX6_add_8 ?_
                refine lv_aload_n hx hb dX6_add_11 rfl (lv_at hl 1 rfl) ?_
                refine z_get (v := .ref (q 0)) hx hb hts hiX6_add_X6 hown hW 0 0 2 rfl rfl rfl (by decide) rfl dX6_add_12 ?_
                refine z_alen hx hb hW 1 0 rfl rfl dX6_add_15 ?_
                refine W.eq (g2 := F0 m 16 ls [.int (iI 640), .int (iI ((((v 1) + 1) + 1) + 1))]) rfl ?_
                refine z_icmp_ge (tgt := 51) hx hb dX6_add_16 (by decide) ⟨by omega, by omega⟩ (by decide) (fun c16 => ?_) (fun c16 => ?_)
                · exfalso; omega
                · refine lv_aload_n hx hb dX6_add_19 rfl (lv_at hl 1 rfl) ?_
                  refine z_get (v := .ref (q 0)) hx hb hts hiX6_add_X6 hown hW 0 0 2 rfl rfl rfl (by decide) rfl dX6_add_20 ?_
                  refine lv_aload_n hx hb dX6_add_23 rfl (lv_at hl 1 rfl) ?_
                  refine z_get (v := .int (iI ((((v 1) + 1) + 1) + 1))) hx hb hts hiX6_add_X6 hown hW 0 1 1 rfl rfl rfl (by decide) rfl dX6_add_24 ?_
                  refine lv_iload_n hx hb dX6_add_27 rfl (lv_at hl 2 rfl) ?_
                  refine lv_iload_n hx hb dX6_add_28 rfl (lv_at hl 0 rfl) ?_
                  refine z_iushr hx hb dX6_add_29 ?_
                  refine z_sipush hx hb dX6_add_30 (by decide +kernel) ?_
                  refine z_iand hx hb dX6_add_33 ?_
                  refine z_name (fun b4 eb4 => ?_)
                  refine z_iast (f := uI (uI (uI (a 0) (v 1) b1) ((v 1) + 1) b2) (((v 1) + 1) + 1) b3) (i := (((v 1) + 1) + 1) + 1) (z := b4) hx hb hW 1 0 rfl rfl (by decide) ⟨by omega, by omega⟩ dX6_add_34 (fun H locs hW => ?_)
                  have hW : zW G (tyZ cI cJ cO) A s (tW cI cJ h q (uV v 1 ((((v 1) + 1) + 1) + 1)) (uA a 0 (uI (uI (uI (uI (a 0) (v 1) b1) ((v 1) + 1) b2) (((v 1) + 1) + 1) b3) ((((v 1) + 1) + 1) + 1) b4))) H locs := hW
                  refine lv_aload_n hx hb dX6_add_35 rfl (lv_at hl 1 rfl) ?_
                  refine lv_dup hx hb dX6_add_36 rfl ?_
                  refine z_get (v := .int (iI ((((v 1) + 1) + 1) + 1))) hx hb hts hiX6_add_X6 hown hW 0 1 1 rfl rfl rfl (by decide) rfl dX6_add_37 ?_
                  refine z_iconst (n := 1) hx hb dX6_add_40 ?_
                  refine z_iadd hx hb dX6_add_41 ?_
                  refine z_put hx hb hts hiX6_add_X6 tyX6 tyX6_ok nmX6 hown hW 0 1 1 rfl rfl (by decide) (Nat.le_of_ble_eq_true rfl) rfl rfl rfl rfl dX6_add_42 (fun H locs hW => ?_)
                  have hW : zW G (tyZ cI cJ cO) A s (tW cI cJ h q (uV v 1 (((((v 1) + 1) + 1) + 1) + 1)) (uA a 0 (uI (uI (uI (uI (a 0) (v 1) b1) ((v 1) + 1) b2) (((v 1) + 1) + 1) b3) ((((v 1) + 1) + 1) + 1) b4))) H locs := hW
                  refine z_iinc (k := 0) (lv' := [(2, .int (iI (-8))), (0, .ref h), (1, .int (iI w))]) hx hb dX6_add_45 hl rfl (by decide) rfl (fun ls hl => ?_)
                  refine lv_goto (tgt := 3) hx hb dX6_add_48 (by decide) ?_
                  refine lv_iload_n hx hb dX6_add_3 rfl (lv_at hl 0 rfl) ?_
                  refine z_if_lt (tgt := 51) hx hb dX6_add_4 (by decide) (by decide) (fun c4 => ?_) (fun c4 => ?_)
                  · exact z_vret hx hb hr hlk hW (uI (uI (uI (uI (a 0) (v 1) b1) ((v 1) + 1) b2) (((v 1) + 1) + 1) b3) ((((v 1) + 1) + 1) + 1) b4) (by rw [eb1, eb2, eb3, eb4]; rfl) rfl dX6_add_51
                  · exfalso; omega
theorem hiX6_byteAt_X6 : ∀ w ∈ wsX60, w ∈ wsX6_byteAt := fun _ h => List.mem_cons_of_mem _ (List.mem_append_right _ h)
theorem ziX6_byteAt : yX6_byteAt.cls = RX6 ∧ yX6_byteAt.cls ≠ "java/lang/invoke/MethodHandle" ∧ yX6_byteAt.cls ≠ "java/lang/invoke/VarHandle" ∧ (parseMethodDescriptor yX6_byteAt.desc).map (fun d => d.parameters.length) = some 1 := by decide +kernel
set_option maxHeartbeats 4000000 in
set_option maxRecDepth 100000 in
theorem c_X6_byteAt {l : Launch} {G : va_G} {cI cJ cO : ClassId}  (h : Nat) (q : Nat → Nat) (v : Nat → Int) (a : Nat → Int → Int) (y : Int)  (h1 : -2147483648 ≤ y ∧ y < 2147483648) (h2 : 0 ≤ v 1 ∧ v 1 ≤ 640) : zC l yX6_byteAt wsX6_byteAt { frames := 0, cells := 0, slots := 0, locals := 0 } G (tyZ cI cJ cO) (S := Unit) [.ref h, .int (iI y)] (tW cI cJ h q v a) (zI (fun _ => if 0 ≤ y ∧ y < v 1 then a 0 y else -1)) (fun _ => True) (fun _ => tW cI cJ h q v a) 0 0 := by
  refine z_start (cc := cX6_byteAt) (maxL := 2) (ret := (some .int)) (by decide) rfl (Nat.le_of_ble_eq_true rfl) ?_
  intro p e s m below meth c A ls F hr hlk hnm hAe hA hW hl
  have hx := F.1
  have hb := F.2.1
  have hown : s.vm.findClass RX6 = some m.cls := F.2.2.2.1
  have hts := F.2.2.2.2
  have hl : lv_has ls 2 [(0, .ref h), (1, .int (iI y))] := hl
  refine lv_iload_n hx hb dX6_byteAt_0 rfl (lv_at hl 1 rfl) ?_
  refine z_if_lt (tgt := 30) hx hb dX6_byteAt_1 (by decide) ⟨by omega, by omega⟩ (fun c1 => ?_) (fun c1 => ?_)
  · refine z_iconst (n := -1) hx hb dX6_byteAt_30 ?_
    exact z_iret hx hb hr hlk hW () (by first | exact if_pos (by omega) | exact if_neg (by omega)) trivial rfl dX6_byteAt_31
  · refine lv_iload_n hx hb dX6_byteAt_4 rfl (lv_at hl 1 rfl) ?_
    refine lv_aload_n hx hb dX6_byteAt_5 rfl (lv_at hl 0 rfl) ?_
    refine z_get (v := .int (iI (v 1))) hx hb hts hiX6_byteAt_X6 hown hW 0 1 1 rfl rfl rfl (by decide) rfl dX6_byteAt_6 ?_
    refine z_icmp_ge (tgt := 30) hx hb dX6_byteAt_9 (by decide) ⟨by omega, by omega⟩ ⟨by omega, by omega⟩ (fun c9 => ?_) (fun c9 => ?_)
    · refine z_iconst (n := -1) hx hb dX6_byteAt_30 ?_
      exact z_iret hx hb hr hlk hW () (by first | exact if_pos (by omega) | exact if_neg (by omega)) trivial rfl dX6_byteAt_31
    · refine lv_iload_n hx hb dX6_byteAt_12 rfl (lv_at hl 1 rfl) ?_
      refine lv_aload_n hx hb dX6_byteAt_13 rfl (lv_at hl 0 rfl) ?_
      refine z_get (v := .ref (q 0)) hx hb hts hiX6_byteAt_X6 hown hW 0 0 2 rfl rfl rfl (by decide) rfl dX6_byteAt_14 ?_
      refine z_alen hx hb hW 1 0 rfl rfl dX6_byteAt_17 ?_
      refine W.eq (g2 := F0 m 18 ls [.int (iI 640), .int (iI y)]) rfl ?_
      refine z_icmp_ge (tgt := 30) hx hb dX6_byteAt_18 (by decide) ⟨by omega, by omega⟩ (by decide) (fun c18 => ?_) (fun c18 => ?_)
      · exfalso; omega
      · refine lv_aload_n hx hb dX6_byteAt_21 rfl (lv_at hl 0 rfl) ?_
        refine z_get (v := .ref (q 0)) hx hb hts hiX6_byteAt_X6 hown hW 0 0 2 rfl rfl rfl (by decide) rfl dX6_byteAt_22 ?_
        refine lv_iload_n hx hb dX6_byteAt_25 rfl (lv_at hl 1 rfl) ?_
        refine z_iald (f := a 0) (i := y) hx hb hW 1 0 rfl rfl (by decide) ⟨by omega, by omega⟩ dX6_byteAt_26 ?_
        refine lv_goto (tgt := 31) hx hb dX6_byteAt_27 (by decide) ?_
        exact z_iret hx hb hr hlk hW () (by first | exact if_pos (by omega) | exact if_neg (by omega)) trivial rfl dX6_byteAt_31
