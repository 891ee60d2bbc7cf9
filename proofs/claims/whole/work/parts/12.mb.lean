/-! the model: index, reviews, rents -/
theorem hiX11_isValue_X11 : ∀ w ∈ wsX110, w ∈ wsX11_isValue := fun _ h => List.mem_cons_of_mem _ (List.mem_append_right _ h)
theorem ziX11_isValue : yX11_isValue.cls = RX11 ∧ yX11_isValue.cls ≠ "java/lang/invoke/MethodHandle" ∧ yX11_isValue.cls ≠ "java/lang/invoke/VarHandle" ∧ (parseMethodDescriptor yX11_isValue.desc).map (fun d => d.parameters.length) = some 2 := by decide +kernel
set_option maxHeartbeats 4000000 in
set_option maxRecDepth 100000 in
theorem c_isValue {l : Launch} {G : va_G} {cI cJ cO : ClassId} (h : Nat) (q : Nat → Nat) (v : Nat → Int) (a : Nat → Int → Int) (y k : Int)  (h1 : -2147483648 ≤ y ∧ y < 2147483648) (h2 : -2147483648 ≤ k ∧ k < 2147483648) (hV : WFv (a 11)) : zC l yX11_isValue wsX11_isValue { frames := 2, cells := 0, slots := 0, locals := 42 } G (tyZ cI cJ cO) (S := Unit) [.ref h, .int (iI y), .int (iI k)] (mW cI cJ h q v a) (zI (fun _ => bI (isV (a 11) y k))) (fun _ => True) (fun _ => mW cI cJ h q v a) 0 0 := by
  refine z_start (cc := cX11_isValue) (maxL := 3) (ret := (some .boolean)) (by decide) rfl (Nat.le_of_ble_eq_true rfl) ?_
  intro p e s m below meth c A ls F hr hlk hnm hAe hA hW hl
  have hx := F.1
  have hb := F.2.1
  have hown : s.vm.findClass RX11 = some m.cls := F.2.2.2.1
  have hts := F.2.2.2.2
  have hl : lv_has ls 3 [(0, .ref h), (1, .int (iI y)), (2, .int (iI k))] := hl
  refine lv_iload_n hx hb dX11_isValue_0 rfl (lv_at hl 1 rfl) ?_
  refine z_callS (As := [.int (iI y)]) (rest := []) F (c_isMonth y  (show -2147483648 ≤ y ∧ y < 2147483648 by omega)) gX11_isValue_X11_isMonth rfl ziX11_isMonth ⟨rfl, rfl, by decide, by decide⟩ rfl hl.1 rfl (Nat.le_of_ble_eq_true rfl) dX11_isValue_1 ⟨Nat.zero_le _, Nat.zero_le _⟩ hW hA [] rfl (by decide) (fun _ => rfl) (fun _ => mW cI cJ h q v a) (fun _ => rfl) (fun _ => [.int (iI (bI (0 ≤ y ∧ y ≤ 239)))]) (fun _ => rfl) (fun _ H locs hp1 hW => ?_)
  refine z_b_eq (tgt := 36) hx hb dX11_isValue_4 (by decide) (fun c4 => ?_) (fun c4 => ?_)
  · refine z_iconst (n := 0) hx hb dX11_isValue_36 ?_
    exact z_zret hx hb hr hlk (by first | exact Or.inl rfl | exact Or.inr rfl | omega) hW () (by first | exact bI_t (by omega) | exact bI_f (by omega) | exact bI_t ⟨by omega, by omega, by omega, by omega⟩ | exact bI_f (fun hq => by obtain ⟨q1, q2, q3, q4⟩ := hq; omega)) trivial rfl dX11_isValue_37
  · have hv := hV y c4.1 c4.2
    refine lv_aload_n hx hb dX11_isValue_7 rfl (lv_at hl 0 rfl) ?_
    refine z_get (v := .ref (q 11)) hx hb hts hiX11_isValue_X11 hown hW 0 11 1 rfl rfl rfl (by decide) rfl dX11_isValue_8 ?_
    refine z_iconst (n := 3) hx hb dX11_isValue_11 ?_
    refine lv_iload_n hx hb dX11_isValue_12 rfl (lv_at hl 1 rfl) ?_
    refine z_iadd hx hb dX11_isValue_13 ?_
    refine z_iald (f := a 11) (i := 3 + y) hx hb hW 2 0 rfl rfl (by decide) ⟨by omega, by omega⟩ dX11_isValue_14 ?_
    refine z_if_le (tgt := 36) hx hb dX11_isValue_15 (by decide) ⟨by omega, by omega⟩ (fun c15 => ?_) (fun c15 => ?_)
    · refine z_iconst (n := 0) hx hb dX11_isValue_36 ?_
      exact z_zret hx hb hr hlk (by first | exact Or.inl rfl | exact Or.inr rfl | omega) hW () (by first | exact bI_t (by omega) | exact bI_f (by omega) | exact bI_t ⟨by omega, by omega, by omega, by omega⟩ | exact bI_f (fun hq => by obtain ⟨q1, q2, q3, q4⟩ := hq; omega)) trivial rfl dX11_isValue_37
    · refine lv_aload_n hx hb dX11_isValue_18 rfl (lv_at hl 0 rfl) ?_
      refine z_get (v := .ref (q 11)) hx hb hts hiX11_isValue_X11 hown hW 0 11 1 rfl rfl rfl (by decide) rfl dX11_isValue_19 ?_
      refine z_sipush hx hb dX11_isValue_22 (by decide +kernel) ?_
      refine lv_iload_n hx hb dX11_isValue_25 rfl (lv_at hl 1 rfl) ?_
      refine z_iadd hx hb dX11_isValue_26 ?_
      refine z_iald (f := a 11) (i := 243 + y) hx hb hW 2 0 rfl rfl (by decide) ⟨by omega, by omega⟩ dX11_isValue_27 ?_
      refine lv_iload_n hx hb dX11_isValue_28 rfl (lv_at hl 2 rfl) ?_
      refine z_icmp_gt (tgt := 36) hx hb dX11_isValue_29 (by decide) ⟨by omega, by omega⟩ ⟨by omega, by omega⟩ (fun c29 => ?_) (fun c29 => ?_)
      · refine z_iconst (n := 0) hx hb dX11_isValue_36 ?_
        exact z_zret hx hb hr hlk (by first | exact Or.inl rfl | exact Or.inr rfl | omega) hW () (by first | exact bI_t (by omega) | exact bI_f (by omega) | exact bI_t ⟨by omega, by omega, by omega, by omega⟩ | exact bI_f (fun hq => by obtain ⟨q1, q2, q3, q4⟩ := hq; omega)) trivial rfl dX11_isValue_37
      · refine z_iconst (n := 1) hx hb dX11_isValue_32 ?_
        refine lv_goto (tgt := 37) hx hb dX11_isValue_33 (by decide) ?_
        exact z_zret hx hb hr hlk (by first | exact Or.inl rfl | exact Or.inr rfl | omega) hW () (by first | exact bI_t (by omega) | exact bI_f (by omega) | exact bI_t ⟨by omega, by omega, by omega, by omega⟩ | exact bI_f (fun hq => by obtain ⟨q1, q2, q3, q4⟩ := hq; omega)) trivial rfl dX11_isValue_37
theorem hiX11_indexOf_X11 : ∀ w ∈ wsX110, w ∈ wsX11_indexOf := fun _ h => List.mem_cons_of_mem _ (List.mem_append_right _ h)
theorem ziX11_indexOf : yX11_indexOf.cls = RX11 ∧ yX11_indexOf.cls ≠ "java/lang/invoke/MethodHandle" ∧ yX11_indexOf.cls ≠ "java/lang/invoke/VarHandle" ∧ (parseMethodDescriptor yX11_indexOf.desc).map (fun d => d.parameters.length) = some 2 := by decide +kernel
set_option maxHeartbeats 4000000 in
set_option maxRecDepth 100000 in
theorem c_indexOf {l : Launch} {G : va_G} {cI cJ cO : ClassId} (h : Nat) (q : Nat → Nat) (v : Nat → Int) (a : Nat → Int → Int) (y k : Int)  (h1 : -2147483648 ≤ y ∧ y < 2147483648) (h2 : -2147483648 ≤ k ∧ k < 2147483648) (hV : WFv (a 11)) : zC l yX11_indexOf wsX11_indexOf { frames := 3, cells := 0, slots := 0, locals := 64 } G (tyZ cI cJ cO) (S := Unit) [.ref h, .int (iI y), .int (iI k)] (mW cI cJ h q v a) (zI (fun _ => IDX (a 11) y k)) (fun _ => True) (fun _ => mW cI cJ h q v a) 0 0 := by
  refine z_start (cc := cX11_indexOf) (maxL := 6) (ret := (some .int)) (by decide) rfl (Nat.le_of_ble_eq_true rfl) ?_
  intro p e s m below meth c A ls F hr hlk hnm hAe hA hW hl
  have hx := F.1
  have hb := F.2.1
  have hown : s.vm.findClass RX11 = some m.cls := F.2.2.2.1
  have hts := F.2.2.2.2
  have hl : lv_has ls 6 [(0, .ref h), (1, .int (iI y)), (2, .int (iI k))] := hl
  refine lv_aload_n hx hb dX11_indexOf_0 rfl (lv_at hl 0 rfl) ?_
  refine lv_iload_n hx hb dX11_indexOf_1 rfl (lv_at hl 1 rfl) ?_
  refine lv_iload_n hx hb dX11_indexOf_2 rfl (lv_at hl 2 rfl) ?_
  refine z_callV (As := [.int (iI y), .int (iI k)]) (rest := []) F (c_isValue h q v a y k  (show -2147483648 ≤ y ∧ y < 2147483648 by omega) (show -2147483648 ≤ k ∧ k < 2147483648 by omega) hV) gX11_indexOf_X11_isValue rfl ziX11_isValue ⟨rfl, rfl, by decide, by decide⟩ rfl hl.1 rfl (Nat.le_of_ble_eq_true rfl) dX11_indexOf_3 ⟨Nat.zero_le _, Nat.zero_le _⟩ hW hA [0, 1, 2, 3, 4, 5, 6, 7, 8, 9, 10] rfl (by decide) (fun _ => rfl) (fun _ => mW cI cJ h q v a) (fun _ => rfl) (fun _ => [.int (iI (bI (isV ((a 11)) y k)))]) (fun _ => rfl) 0 rfl rfl rfl (fun _ H locs hp3 hW => ?_)
  refine z_b_eq (tgt := 18) hx hb dX11_indexOf_6 (by decide) (fun c6 => ?_) (fun c6 => ?_)
  · refine z_join1 (fun (x3 : Int) (ls : Array Slot) (H : Heap) (locs : List Loc) => (x3 ≤ y ∧ x3 ≤ 240 ∧ -2147483648 ≤ x3 ∧ (0 ≤ y → -1 ≤ x3) ∧ (y < 240 → x3 = y) ∧ (240 ≤ y → x3 = 240)) ∧ zW G (tyZ cI cJ cO) A s (mW cI cJ h q v a) H locs ∧ lv_has ls 6 [(0, .ref h), (1, .int (iI y)), (2, .int (iI k))]) 32 (fun x3 => [.int (iI x3)]) ?_ ?_
    · intro x3 ls H locs hJ
      obtain ⟨d0, hW, hl⟩ := hJ
      refine lv_istore_n (lv' := [(3, .int (iI x3)), (0, .ref h), (1, .int (iI y)), (2, .int (iI k))]) hx hb dX11_indexOf_32 rfl hl (by decide) rfl (fun ls hl => ?_)
      refine z_join1 (fun (x3 : Int) (ls : Array Slot) (H : Heap) (locs : List Loc) => (x3 ≤ y ∧ x3 ≤ 240 ∧ -2147483648 ≤ x3 ∧ (0 ≤ y → -1 ≤ x3)) ∧ (∀ j : Int, x3 < j → j ≤ y → ¬ isV (a 11) j k) ∧ (x3 < 0 ∨ isV (a 11) x3 k) ∧ zW G (tyZ cI cJ cO) A s (mW cI cJ h q v a) H locs ∧ lv_has ls 6 [(3, .int (iI x3)), (0, .ref h), (1, .int (iI y)), (2, .int (iI k))]) 52 (fun x3 => []) ?_ ?_
      · intro x3 ls H locs hJ
        obtain ⟨d1, d2, d3, hW, hl⟩ := hJ
        refine z_join1 (fun (x4 : Int) (ls : Array Slot) (H : Heap) (locs : List Loc) => (y ≤ x4 ∧ 0 ≤ x4 ∧ x4 < 2147483648 ∧ (y ≤ 240 → x4 ≤ 240) ∧ (0 < y → x4 = y) ∧ (y ≤ 0 → x4 = 0)) ∧ zW G (tyZ cI cJ cO) A s (mW cI cJ h q v a) H locs ∧ lv_has ls 6 [(3, .int (iI x3)), (0, .ref h), (1, .int (iI y)), (2, .int (iI k))]) 61 (fun x4 => [.int (iI x4)]) ?_ ?_
        · intro x4 ls H locs hJ
          obtain ⟨d4, hW, hl⟩ := hJ
          refine lv_istore (lv' := [(4, .int (iI x4)), (3, .int (iI x3)), (0, .ref h), (1, .int (iI y)), (2, .int (iI k))]) hx hb dX11_indexOf_61 hl (by decide) rfl (fun ls hl => ?_)
          refine z_join1 (fun (x4 : Int) (ls : Array Slot) (H : Heap) (locs : List Loc) => (y ≤ x4 ∧ 0 ≤ x4 ∧ x4 < 2147483648 ∧ (y ≤ 240 → x4 ≤ 240)) ∧ (∀ j : Int, y ≤ j → j < x4 → ¬ isV (a 11) j k) ∧ (240 ≤ x4 ∨ isV (a 11) x4 k) ∧ zW G (tyZ cI cJ cO) A s (mW cI cJ h q v a) H locs ∧ lv_has ls 6 [(4, .int (iI x4)), (3, .int (iI x3)), (0, .ref h), (1, .int (iI y)), (2, .int (iI k))]) 87 (fun x4 => []) ?_ ?_
          · intro x4 ls H locs hJ
            obtain ⟨e1, e2, e3, hW, hl⟩ := hJ
            refine lv_iload_n hx hb dX11_indexOf_87 rfl (lv_at hl 1 rfl) ?_
            refine z_if_lt (tgt := 99) hx hb dX11_indexOf_88 (by decide) ⟨by omega, by omega⟩ (fun c88 => ?_) (fun c88 => ?_)
            · refine z_iconst (n := -1) hx hb dX11_indexOf_99 ?_
              exact z_iret hx hb hr hlk hW () (by by_cases hy0 : 0 ≤ y ∧ y ≤ 239; (rw [IDX_of hy0 ⟨by omega, d1.1⟩ d2 (by rcases d3 with q9 | q9 <;> first | exact Or.inr q9 | exact Or.inl (by omega)) ⟨e1.1, by omega⟩ e2 (by rcases e3 with q9 | q9 <;> first | exact Or.inr q9 | exact Or.inl (by omega)), if_pos (by omega)]); exact IDX_out (by omega)) trivial rfl dX11_indexOf_100
            · refine lv_iload hx hb dX11_indexOf_91 (lv_at hl 0 rfl) ?_
              refine z_sipush hx hb dX11_indexOf_93 (by decide +kernel) ?_
              refine z_icmp_lt (tgt := 101) hx hb dX11_indexOf_96 (by decide) ⟨by omega, by omega⟩ (by decide) (fun c96 => ?_) (fun c96 => ?_)
              · have f1 : isV (a 11) x3 k := by rcases d3 with q9 | q9 <;> first | omega | exact q9
                have f2 : isV (a 11) x4 k := by rcases e3 with q9 | q9 <;> first | omega | exact q9
                have n1 : x3 ≠ y := fun q9 => c6 (q9 ▸ f1)
                have v1 := hV x3 f1.1 f1.2.1
                have v2 := hV x4 f2.1 f2.2.1
                have g1 := f1.1; have g2 := f1.2.1; have g3 := f2.1; have g4 := f2.2.1
                have mr := mul_R (p := (a 11) (3 + x4) - (a 11) (3 + x3)) (q := y - x3) (P := 9999) (Q := 239) (by omega) (by omega)
                refine lv_aload_n hx hb dX11_indexOf_101 rfl (lv_at hl 2 rfl) ?_
                refine z_get (v := .ref (q 11)) hx hb hts hiX11_indexOf_X11 hown hW 0 11 1 rfl rfl rfl (by decide) rfl dX11_indexOf_102 ?_
                refine z_iconst (n := 3) hx hb dX11_indexOf_105 ?_
                refine lv_iload_n hx hb dX11_indexOf_106 rfl (lv_at hl 1 rfl) ?_
                refine z_iadd hx hb dX11_indexOf_107 ?_
                refine z_iald (f := a 11) (i := 3 + x3) hx hb hW 2 0 rfl rfl (by decide) ⟨by omega, by omega⟩ dX11_indexOf_108 ?_
                refine lv_istore (lv' := [(5, .int (iI ((a 11) (3 + x3)))), (4, .int (iI x4)), (3, .int (iI x3)), (0, .ref h), (1, .int (iI y)), (2, .int (iI k))]) hx hb dX11_indexOf_109 hl (by decide) rfl (fun ls hl => ?_)
                refine lv_iload hx hb dX11_indexOf_111 (lv_at hl 0 rfl) ?_
                refine lv_aload_n hx hb dX11_indexOf_113 rfl (lv_at hl 3 rfl) ?_
                refine z_get (v := .ref (q 11)) hx hb hts hiX11_indexOf_X11 hown hW 0 11 1 rfl rfl rfl (by decide) rfl dX11_indexOf_114 ?_
                refine z_iconst (n := 3) hx hb dX11_indexOf_117 ?_
                refine lv_iload hx hb dX11_indexOf_118 (lv_at hl 1 rfl) ?_
                refine z_iadd hx hb dX11_indexOf_120 ?_
                refine z_iald (f := a 11) (i := 3 + x4) hx hb hW 2 0 rfl rfl (by decide) ⟨by omega, by omega⟩ dX11_indexOf_121 ?_
                refine lv_iload hx hb dX11_indexOf_122 (lv_at hl 0 rfl) ?_
                refine z_isub hx hb dX11_indexOf_124 ?_
                refine lv_iload_n hx hb dX11_indexOf_125 rfl (lv_at hl 4 rfl) ?_
                refine lv_iload_n hx hb dX11_indexOf_126 rfl (lv_at hl 2 rfl) ?_
                refine z_isub hx hb dX11_indexOf_127 ?_
                refine z_imul hx hb dX11_indexOf_128 ?_
                refine lv_iload hx hb dX11_indexOf_129 (lv_at hl 1 rfl) ?_
                refine lv_iload_n hx hb dX11_indexOf_131 rfl (lv_at hl 2 rfl) ?_
                refine z_isub hx hb dX11_indexOf_132 ?_
                refine z_idiv hx hb dX11_indexOf_133 ⟨by omega, by omega⟩ ⟨by omega, by omega⟩ (by omega) (by omega) ?_
                refine z_iadd hx hb dX11_indexOf_134 ?_
                exact z_iret hx hb hr hlk hW () (by rw [IDX_of ⟨by omega, by omega⟩ ⟨by omega, d1.1⟩ d2 (Or.inr f1) ⟨e1.1, by omega⟩ e2 (Or.inr f2), if_neg (by omega)]) trivial rfl dX11_indexOf_135
              · refine z_iconst (n := -1) hx hb dX11_indexOf_99 ?_
                exact z_iret hx hb hr hlk hW () (by by_cases hy0 : 0 ≤ y ∧ y ≤ 239; (rw [IDX_of hy0 ⟨by omega, d1.1⟩ d2 (by rcases d3 with q9 | q9 <;> first | exact Or.inr q9 | exact Or.inl (by omega)) ⟨e1.1, by omega⟩ e2 (by rcases e3 with q9 | q9 <;> first | exact Or.inr q9 | exact Or.inl (by omega)), if_pos (by omega)]); exact IDX_out (by omega)) trivial rfl dX11_indexOf_100
          · intro J1
            refine z_loop1 (fun (x4 : Int) (ls : Array Slot) (H : Heap) (locs : List Loc) => (y ≤ x4 ∧ 0 ≤ x4 ∧ x4 < 2147483648 ∧ (y ≤ 240 → x4 ≤ 240)) ∧ (∀ j : Int, y ≤ j → j < x4 → ¬ isV (a 11) j k) ∧ zW G (tyZ cI cJ cO) A s (mW cI cJ h q v a) H locs ∧ lv_has ls 6 [(4, .int (iI x4)), (3, .int (iI x3)), (0, .ref h), (1, .int (iI y)), (2, .int (iI k))]) (fun x4 => (240 - x4).toNat) ?_ x4 _ _ _ ⟨(by omega), (fun j j1 j2 => by intro jv; obtain ⟨j3, j4, j5, j6⟩ := jv; omega), hW, (lv_sub hl [0, 1, 2, 3, 4] rfl)⟩
            intro x4 ls H locs hI ih
            obtain ⟨i3, i4, hW, hl⟩ := hI
            refine lv_iload hx hb dX11_indexOf_63 (lv_at hl 0 rfl) ?_
            refine z_sipush hx hb dX11_indexOf_65 (by decide +kernel) ?_
            refine z_icmp_ge (tgt := 87) hx hb dX11_indexOf_68 (by decide) ⟨by omega, by omega⟩ (by decide) (fun c68 => ?_) (fun c68 => ?_)
            · exact J1 x4 _ _ _ ⟨i3, i4, (by first | exact Or.inl (by omega) | exact Or.inr (by assumption)), hW, (lv_sub hl [0, 1, 2, 3, 4] rfl)⟩
            · refine lv_aload_n hx hb dX11_indexOf_71 rfl (lv_at hl 2 rfl) ?_
              refine lv_iload hx hb dX11_indexOf_72 (lv_at hl 0 rfl) ?_
              refine lv_iload_n hx hb dX11_indexOf_74 rfl (lv_at hl 4 rfl) ?_
              refine z_callV (As := [.int (iI x4), .int (iI k)]) (rest := []) F (c_isValue h q v a x4 k  (show -2147483648 ≤ x4 ∧ x4 < 2147483648 by omega) (show -2147483648 ≤ k ∧ k < 2147483648 by omega) hV) gX11_indexOf_X11_isValue rfl ziX11_isValue ⟨rfl, rfl, by decide, by decide⟩ rfl hl.1 rfl (Nat.le_of_ble_eq_true rfl) dX11_indexOf_75 ⟨Nat.zero_le _, Nat.zero_le _⟩ hW hA [0, 1, 2, 3, 4, 5, 6, 7, 8, 9, 10] rfl (by decide) (fun _ => rfl) (fun _ => mW cI cJ h q v a) (fun _ => rfl) (fun _ => [.int (iI (bI (isV ((a 11)) x4 k)))]) (fun _ => rfl) 0 rfl rfl rfl (fun _ H locs hp75 hW => ?_)
              refine z_b_ne (tgt := 87) hx hb dX11_indexOf_78 (by decide) (fun c78 => ?_) (fun c78 => ?_)
              · exact J1 x4 _ _ _ ⟨i3, i4, (by first | exact Or.inl (by omega) | exact Or.inr (by assumption)), hW, (lv_sub hl [0, 1, 2, 3, 4] rfl)⟩
              · refine z_iinc (k := 0) (lv' := [(4, .int (iI (x4 + 1))), (3, .int (iI x3)), (0, .ref h), (1, .int (iI y)), (2, .int (iI k))]) hx hb dX11_indexOf_81 hl rfl (by decide) rfl (fun ls hl => ?_)
                refine lv_goto (tgt := 63) hx hb dX11_indexOf_84 (by decide) ?_
                exact ih (x4 + 1) _ _ _ ⟨(by omega), (fun j j1 j2 => by by_cases je : j = x4; (subst je; exact c78); exact i4 j j1 (by omega)), hW, (lv_sub hl [0, 1, 2, 3, 4] rfl)⟩ (by omega)
        · intro J2
          refine lv_iload_n hx hb dX11_indexOf_52 rfl (lv_at hl 2 rfl) ?_
          refine z_if_le (tgt := 60) hx hb dX11_indexOf_53 (by decide) ⟨by omega, by omega⟩ (fun c53 => ?_) (fun c53 => ?_)
          · refine z_iconst (n := 0) hx hb dX11_indexOf_60 ?_
            exact J2 0 _ _ _ ⟨(by omega), hW, (lv_sub hl [0, 1, 2, 3] rfl)⟩
          · refine lv_iload_n hx hb dX11_indexOf_56 rfl (lv_at hl 2 rfl) ?_
            refine lv_goto (tgt := 61) hx hb dX11_indexOf_57 (by decide) ?_
            exact J2 y _ _ _ ⟨(by omega), hW, (lv_sub hl [0, 1, 2, 3] rfl)⟩
      · intro J3
        refine z_loop1 (fun (x3 : Int) (ls : Array Slot) (H : Heap) (locs : List Loc) => (x3 ≤ y ∧ x3 ≤ 240 ∧ -2147483648 ≤ x3 ∧ (0 ≤ y → -1 ≤ x3)) ∧ (∀ j : Int, x3 < j → j ≤ y → ¬ isV (a 11) j k) ∧ zW G (tyZ cI cJ cO) A s (mW cI cJ h q v a) H locs ∧ lv_has ls 6 [(3, .int (iI x3)), (0, .ref h), (1, .int (iI y)), (2, .int (iI k))]) (fun x3 => (x3 + 1).toNat) ?_ x3 _ _ _ ⟨(by omega), (fun j j1 j2 => by intro jv; obtain ⟨j3, j4, j5, j6⟩ := jv; omega), hW, (lv_sub hl [0, 1, 2, 3] rfl)⟩
        intro x3 ls H locs hI ih
        obtain ⟨i1, i2, hW, hl⟩ := hI
        refine lv_iload_n hx hb dX11_indexOf_33 rfl (lv_at hl 0 rfl) ?_
        refine z_if_lt (tgt := 52) hx hb dX11_indexOf_34 (by decide) ⟨by omega, by omega⟩ (fun c34 => ?_) (fun c34 => ?_)
        · exact J3 x3 _ _ _ ⟨i1, i2, (by first | exact Or.inl (by omega) | exact Or.inr (by assumption)), hW, (lv_sub hl [0, 1, 2, 3] rfl)⟩
        · refine lv_aload_n hx hb dX11_indexOf_37 rfl (lv_at hl 1 rfl) ?_
          refine lv_iload_n hx hb dX11_indexOf_38 rfl (lv_at hl 0 rfl) ?_
          refine lv_iload_n hx hb dX11_indexOf_39 rfl (lv_at hl 3 rfl) ?_
          refine z_callV (As := [.int (iI x3), .int (iI k)]) (rest := []) F (c_isValue h q v a x3 k  (show -2147483648 ≤ x3 ∧ x3 < 2147483648 by omega) (show -2147483648 ≤ k ∧ k < 2147483648 by omega) hV) gX11_indexOf_X11_isValue rfl ziX11_isValue ⟨rfl, rfl, by decide, by decide⟩ rfl hl.1 rfl (Nat.le_of_ble_eq_true rfl) dX11_indexOf_40 ⟨Nat.zero_le _, Nat.zero_le _⟩ hW hA [0, 1, 2, 3, 4, 5, 6, 7, 8, 9, 10] rfl (by decide) (fun _ => rfl) (fun _ => mW cI cJ h q v a) (fun _ => rfl) (fun _ => [.int (iI (bI (isV ((a 11)) x3 k)))]) (fun _ => rfl) 0 rfl rfl rfl (fun _ H locs hp40 hW => ?_)
          refine z_b_ne (tgt := 52) hx hb dX11_indexOf_43 (by decide) (fun c43 => ?_) (fun c43 => ?_)
          · exact J3 x3 _ _ _ ⟨i1, i2, (by first | exact Or.inl (by omega) | exact Or.inr (by assumption)), hW, (lv_sub hl [0, 1, 2, 3] rfl)⟩
          · refine z_iinc (k := 0) (lv' := [(3, .int (iI (x3 + (-1)))), (0, .ref h), (1, .int (iI y)), (2, .int (iI k))]) hx hb dX11_indexOf_46 hl rfl (by decide) rfl (fun ls hl => ?_)
            refine lv_goto (tgt := 33) hx hb dX11_indexOf_49 (by decide) ?_
            exact ih (x3 + (-1)) _ _ _ ⟨(by omega), (fun j j1 j2 => by by_cases je : j = x3; (subst je; exact c43); exact i2 j (by omega) j2), hW, (lv_sub hl [0, 1, 2, 3] rfl)⟩ (by omega)
    · intro J4
      refine lv_iload_n hx hb dX11_indexOf_18 rfl (lv_at hl 1 rfl) ?_
      refine z_sipush hx hb dX11_indexOf_19 (by decide +kernel) ?_
      refine z_icmp_ge (tgt := 29) hx hb dX11_indexOf_22 (by decide) ⟨by omega, by omega⟩ (by decide) (fun c22 => ?_) (fun c22 => ?_)
      · refine z_sipush hx hb dX11_indexOf_29 (by decide +kernel) ?_
        exact J4 240 _ _ _ ⟨(by omega), hW, (lv_sub hl [0, 1, 2] rfl)⟩
      · refine lv_iload_n hx hb dX11_indexOf_25 rfl (lv_at hl 1 rfl) ?_
        refine lv_goto (tgt := 32) hx hb dX11_indexOf_26 (by decide) ?_
        exact J4 y _ _ _ ⟨(by omega), hW, (lv_sub hl [0, 1, 2] rfl)⟩
  · refine lv_aload_n hx hb dX11_indexOf_9 rfl (lv_at hl 0 rfl) ?_
    refine z_get (v := .ref (q 11)) hx hb hts hiX11_indexOf_X11 hown hW 0 11 1 rfl rfl rfl (by decide) rfl dX11_indexOf_10 ?_
    refine z_iconst (n := 3) hx hb dX11_indexOf_13 ?_
    refine lv_iload_n hx hb dX11_indexOf_14 rfl (lv_at hl 1 rfl) ?_
    refine z_iadd hx hb dX11_indexOf_15 ?_
    refine z_iald (f := a 11) (i := 3 + y) hx hb hW 2 0 rfl rfl (by decide) ⟨by omega, by omega⟩ dX11_indexOf_16 ?_
    exact z_iret hx hb hr hlk hW () (IDX_self c6) trivial rfl dX11_indexOf_17
theorem hiX11_valueMany_X11 : ∀ w ∈ wsX110, w ∈ wsX11_valueMany := fun _ h => List.mem_cons_of_mem _ (List.mem_append_right _ h)
theorem ziX11_valueMany : yX11_valueMany.cls = RX11 ∧ yX11_valueMany.cls ≠ "java/lang/invoke/MethodHandle" ∧ yX11_valueMany.cls ≠ "java/lang/invoke/VarHandle" ∧ (parseMethodDescriptor yX11_valueMany.desc).map (fun d => d.parameters.length) = some 0 := by decide +kernel
set_option maxHeartbeats 4000000 in
set_option maxRecDepth 100000 in
theorem c_valueMany {l : Launch} {G : va_G} {cI cJ cO : ClassId} (h : Nat) (q : Nat → Nat) (v : Nat → Int) (a : Nat → Int → Int)   (hV : WFv (a 11)) : zC l yX11_valueMany wsX11_valueMany { frames := 0, cells := 0, slots := 0, locals := 0 } G (tyZ cI cJ cO) (S := Unit) [.ref h] (mW cI cJ h q v a) (zI (fun _ => CNTV (a 11) 240)) (fun _ => True) (fun _ => mW cI cJ h q v a) 0 0 := by
  refine z_start (cc := cX11_valueMany) (maxL := 3) (ret := (some .int)) (by decide) rfl (Nat.le_of_ble_eq_true rfl) ?_
  intro p e s m below meth c A ls F hr hlk hnm hAe hA hW hl
  have hx := F.1
  have hb := F.2.1
  have hown : s.vm.findClass RX11 = some m.cls := F.2.2.2.1
  have hts := F.2.2.2.2
  have hl : lv_has ls 3 [(0, .ref h)] := hl
  refine z_iconst (n := 0) hx hb dX11_valueMany_0 ?_
  refine lv_istore_n (lv' := [(1, .int (iI 0)), (0, .ref h)]) hx hb dX11_valueMany_1 rfl hl (by decide) rfl (fun ls hl => ?_)
  refine z_iconst (n := 0) hx hb dX11_valueMany_2 ?_
  refine lv_istore_n (lv' := [(2, .int (iI 0)), (1, .int (iI 0)), (0, .ref h)]) hx hb dX11_valueMany_3 rfl hl (by decide) rfl (fun ls hl => ?_)
  refine z_loop2 (fun (x1 : Int) (x2 : Int) (ls : Array Slot) (H : Heap) (locs : List Loc) => (0 ≤ x2 ∧ x2 ≤ 240 ∧ 0 ≤ x1 ∧ x1 ≤ x2) ∧ (x1 = CNTV (a 11) x2.toNat) ∧ zW G (tyZ cI cJ cO) A s (mW cI cJ h q v a) H locs ∧ lv_has ls 3 [(2, .int (iI x2)), (1, .int (iI x1)), (0, .ref h)]) (fun x1 x2 => (240 - x2).toNat) ?_ 0 0 _ _ _ ⟨(by omega), rfl, hW, (lv_sub hl [0, 1, 2] rfl)⟩
  intro x1 x2 ls H locs hI ih
  obtain ⟨i1, i2, hW, hl⟩ := hI
  refine lv_iload_n hx hb dX11_valueMany_4 rfl (lv_at hl 0 rfl) ?_
  refine z_sipush hx hb dX11_valueMany_5 (by decide +kernel) ?_
  refine z_icmp_ge (tgt := 31) hx hb dX11_valueMany_8 (by decide) ⟨by omega, by omega⟩ (by decide) (fun c8 => ?_) (fun c8 => ?_)
  · refine lv_iload_n hx hb dX11_valueMany_31 rfl (lv_at hl 1 rfl) ?_
    exact z_iret hx hb hr hlk hW () (by rw [i2, show x2.toNat = 240 by omega]) trivial rfl dX11_valueMany_32
  · have hv := hV x2 (by omega) (by omega)
    refine lv_aload_n hx hb dX11_valueMany_11 rfl (lv_at hl 2 rfl) ?_
    refine z_get (v := .ref (q 11)) hx hb hts hiX11_valueMany_X11 hown hW 0 11 1 rfl rfl rfl (by decide) rfl dX11_valueMany_12 ?_
    refine z_iconst (n := 3) hx hb dX11_valueMany_15 ?_
    refine lv_iload_n hx hb dX11_valueMany_16 rfl (lv_at hl 0 rfl) ?_
    refine z_iadd hx hb dX11_valueMany_17 ?_
    refine z_iald (f := a 11) (i := 3 + x2) hx hb hW 2 0 rfl rfl (by decide) ⟨by omega, by omega⟩ dX11_valueMany_18 ?_
    refine z_if_le (tgt := 25) hx hb dX11_valueMany_19 (by decide) ⟨by omega, by omega⟩ (fun c19 => ?_) (fun c19 => ?_)
    · refine z_iinc (k := 0) (lv' := [(2, .int (iI (x2 + 1))), (1, .int (iI x1)), (0, .ref h)]) hx hb dX11_valueMany_25 hl rfl (by decide) rfl (fun ls hl => ?_)
      refine lv_goto (tgt := 4) hx hb dX11_valueMany_28 (by decide) ?_
      exact ih x1 (x2 + 1) _ _ _ ⟨(by omega), (by rw [show (x2 + 1).toNat = x2.toNat + 1 by omega]; show _ = CNTV (a 11) x2.toNat + bI (0 < (a 11) (3 + (x2.toNat : Int))); rw [show ((x2.toNat : Nat) : Int) = x2 by omega]; first | (rw [bI_t (by omega)]; omega) | (rw [bI_f (by omega)]; omega)), hW, (lv_sub hl [0, 1, 2] rfl)⟩ (by omega)
    · refine z_iinc (k := 1) (lv' := [(1, .int (iI (x1 + 1))), (2, .int (iI x2)), (0, .ref h)]) hx hb dX11_valueMany_22 hl rfl (by decide) rfl (fun ls hl => ?_)
      refine z_iinc (k := 1) (lv' := [(2, .int (iI (x2 + 1))), (1, .int (iI (x1 + 1))), (0, .ref h)]) hx hb dX11_valueMany_25 hl rfl (by decide) rfl (fun ls hl => ?_)
      refine lv_goto (tgt := 4) hx hb dX11_valueMany_28 (by decide) ?_
      exact ih (x1 + 1) (x2 + 1) _ _ _ ⟨(by omega), (by rw [show (x2 + 1).toNat = x2.toNat + 1 by omega]; show _ = CNTV (a 11) x2.toNat + bI (0 < (a 11) (3 + (x2.toNat : Int))); rw [show ((x2.toNat : Nat) : Int) = x2 by omega]; first | (rw [bI_t (by omega)]; omega) | (rw [bI_f (by omega)]; omega)), hW, (lv_sub hl [0, 1, 2] rfl)⟩ (by omega)
