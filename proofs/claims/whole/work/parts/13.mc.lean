/-! the model: what a review wants, what it makes -/
theorem hiX11_byIndex_X11 : ∀ w ∈ wsX110, w ∈ wsX11_byIndex := fun _ h => List.mem_cons_of_mem _ (List.mem_append_right _ h)
theorem ziX11_byIndex : yX11_byIndex.cls = RX11 ∧ yX11_byIndex.cls ≠ "java/lang/invoke/MethodHandle" ∧ yX11_byIndex.cls ≠ "java/lang/invoke/VarHandle" ∧ (parseMethodDescriptor yX11_byIndex.desc).map (fun d => d.parameters.length) = some 3 := by decide +kernel
set_option maxHeartbeats 4000000 in
set_option maxRecDepth 100000 in
theorem c_byIndex {l : Launch} {G : va_G} {cI cJ cO : ClassId} (h : Nat) (q : Nat → Nat) (v : Nat → Int) (a : Nat → Int → Int) (x t k : Int)  (hx6 : 0 ≤ x ∧ x < 6) (h2 : 0 ≤ t ∧ t ≤ 240) (h3 : -2147483648 ≤ k ∧ k < 2147483648) (hV : WFv (a 11)) (hL : WFl (a 11) x) : zC l yX11_byIndex wsX11_byIndex { frames := 4, cells := 0, slots := 0, locals := 89 } G (tyZ cI cJ cO) (S := Unit) [.ref h, .int (iI x), .int (iI t), .int (iI k)] (mW cI cJ h q v a) (zL (fun _ => BYI (a 11) x t k)) (fun _ => True) (fun _ => mW cI cJ h q v a) 0 0 := by
  refine z_start (cc := cX11_byIndex) (maxL := 6) (ret := (some .long)) (by decide) rfl (Nat.le_of_ble_eq_true rfl) ?_
  intro p e s m below meth c A ls F hr hlk hnm hAe hA hW hl
  have hx := F.1
  have hb := F.2.1
  have hown : s.vm.findClass RX11 = some m.cls := F.2.2.2.1
  have hts := F.2.2.2.2
  have hl : lv_has ls 6 [(0, .ref h), (1, .int (iI x)), (2, .int (iI t)), (3, .int (iI k))] := hl
  obtain ⟨l0, l1, l2, l3, l4, l5, l6, l7, l8, l9, l10, l11, l12, l13, l14, l15⟩ := id hL
  refine lv_aload_n hx hb dX11_byIndex_0 rfl (lv_at hl 0 rfl) ?_
  refine lv_aload_n hx hb dX11_byIndex_1 rfl (lv_at hl 0 rfl) ?_
  refine lv_iload_n hx hb dX11_byIndex_2 rfl (lv_at hl 1 rfl) ?_
  refine z_iconst (n := 0) hx hb dX11_byIndex_3 ?_
  refine z_callV (As := [.int (iI x), .int (iI 0)]) (rest := [.ref h]) F (c_its h q v a x 0  (show 0 ≤ 483 + 500 * x + 0 ∧ 483 + 500 * x + 0 < 3483 by omega)) gX11_byIndex_X11_its rfl ziX11_its ⟨rfl, rfl, by decide, by decide⟩ rfl hl.1 rfl (Nat.le_of_ble_eq_true rfl) dX11_byIndex_4 ⟨Nat.zero_le _, Nat.zero_le _⟩ hW hA [0, 1, 2, 3, 4, 5, 6, 7, 8, 9, 10] rfl (by decide) (fun _ => rfl) (fun _ => mW cI cJ h q v a) (fun _ => rfl) (fun _ => [.int (iI (LF ((a 11)) x 0)), .ref h]) (fun _ => rfl) 0 rfl rfl rfl (fun _ H locs hp4 hW => ?_)
  refine lv_aload_n hx hb dX11_byIndex_7 rfl (lv_at hl 0 rfl) ?_
  refine lv_iload_n hx hb dX11_byIndex_8 rfl (lv_at hl 1 rfl) ?_
  refine z_bipush hx hb dX11_byIndex_9 (by decide +kernel) ?_
  refine z_callV (As := [.int (iI x), .int (iI 6)]) (rest := [.int (iI (LF ((a 11)) x 0)), .ref h]) F (c_its h q v a x 6  (show 0 ≤ 483 + 500 * x + 6 ∧ 483 + 500 * x + 6 < 3483 by omega)) gX11_byIndex_X11_its rfl ziX11_its ⟨rfl, rfl, by decide, by decide⟩ rfl hl.1 rfl (Nat.le_of_ble_eq_true rfl) dX11_byIndex_11 ⟨Nat.zero_le _, Nat.zero_le _⟩ hW hA [0, 1, 2, 3, 4, 5, 6, 7, 8, 9, 10] rfl (by decide) (fun _ => rfl) (fun _ => mW cI cJ h q v a) (fun _ => rfl) (fun _ => [.int (iI (LF ((a 11)) x 6)), .int (iI (LF ((a 11)) x 0)), .ref h]) (fun _ => rfl) 0 rfl rfl rfl (fun _ H locs hp11 hW => ?_)
  refine z_isub hx hb dX11_byIndex_14 ?_
  refine lv_iload_n hx hb dX11_byIndex_15 rfl (lv_at hl 3 rfl) ?_
  refine z_callV (As := [.int (iI ((LF ((a 11)) x 0) - (LF ((a 11)) x 6))), .int (iI k)]) (rest := []) F (c_indexOf h q v a ((LF ((a 11)) x 0) - (LF ((a 11)) x 6)) k  (show -2147483648 ≤ ((LF ((a 11)) x 0) - (LF ((a 11)) x 6)) ∧ ((LF ((a 11)) x 0) - (LF ((a 11)) x 6)) < 2147483648 by omega) (show -2147483648 ≤ k ∧ k < 2147483648 by omega) hV) gX11_byIndex_X11_indexOf rfl ziX11_indexOf ⟨rfl, rfl, by decide, by decide⟩ rfl hl.1 rfl (Nat.le_of_ble_eq_true rfl) dX11_byIndex_16 ⟨Nat.zero_le _, Nat.zero_le _⟩ hW hA [0, 1, 2, 3, 4, 5, 6, 7, 8, 9, 10] rfl (by decide) (fun _ => rfl) (fun _ => mW cI cJ h q v a) (fun _ => rfl) (fun _ => [.int (iI (IDX ((a 11)) ((LF ((a 11)) x 0) - (LF ((a 11)) x 6)) k))]) (fun _ => rfl) 0 rfl rfl rfl (fun _ H locs hp16 hW => ?_)
  refine lv_istore (lv' := [(4, .int (iI (IDX ((a 11)) ((LF ((a 11)) x 0) - (LF ((a 11)) x 6)) k))), (0, .ref h), (1, .int (iI x)), (2, .int (iI t)), (3, .int (iI k))]) hx hb dX11_byIndex_19 hl (by decide) rfl (fun ls hl => ?_)
  refine lv_aload_n hx hb dX11_byIndex_21 rfl (lv_at hl 1 rfl) ?_
  refine lv_iload_n hx hb dX11_byIndex_22 rfl (lv_at hl 3 rfl) ?_
  refine lv_aload_n hx hb dX11_byIndex_23 rfl (lv_at hl 1 rfl) ?_
  refine lv_iload_n hx hb dX11_byIndex_24 rfl (lv_at hl 2 rfl) ?_
  refine z_bipush hx hb dX11_byIndex_25 (by decide +kernel) ?_
  refine z_callV (As := [.int (iI x), .int (iI 6)]) (rest := [.int (iI t), .ref h]) F (c_its h q v a x 6  (show 0 ≤ 483 + 500 * x + 6 ∧ 483 + 500 * x + 6 < 3483 by omega)) gX11_byIndex_X11_its rfl ziX11_its ⟨rfl, rfl, by decide, by decide⟩ rfl hl.1 rfl (Nat.le_of_ble_eq_true rfl) dX11_byIndex_27 ⟨Nat.zero_le _, Nat.zero_le _⟩ hW hA [0, 1, 2, 3, 4, 5, 6, 7, 8, 9, 10] rfl (by decide) (fun _ => rfl) (fun _ => mW cI cJ h q v a) (fun _ => rfl) (fun _ => [.int (iI (LF ((a 11)) x 6)), .int (iI t), .ref h]) (fun _ => rfl) 0 rfl rfl rfl (fun _ H locs hp27 hW => ?_)
  refine z_isub hx hb dX11_byIndex_30 ?_
  refine lv_iload_n hx hb dX11_byIndex_31 rfl (lv_at hl 4 rfl) ?_
  refine z_callV (As := [.int (iI (t - (LF ((a 11)) x 6))), .int (iI k)]) (rest := []) F (c_indexOf h q v a (t - (LF ((a 11)) x 6)) k  (show -2147483648 ≤ (t - (LF ((a 11)) x 6)) ∧ (t - (LF ((a 11)) x 6)) < 2147483648 by omega) (show -2147483648 ≤ k ∧ k < 2147483648 by omega) hV) gX11_byIndex_X11_indexOf rfl ziX11_indexOf ⟨rfl, rfl, by decide, by decide⟩ rfl hl.1 rfl (Nat.le_of_ble_eq_true rfl) dX11_byIndex_32 ⟨Nat.zero_le _, Nat.zero_le _⟩ hW hA [0, 1, 2, 3, 4, 5, 6, 7, 8, 9, 10] rfl (by decide) (fun _ => rfl) (fun _ => mW cI cJ h q v a) (fun _ => rfl) (fun _ => [.int (iI (IDX ((a 11)) (t - (LF ((a 11)) x 6)) k))]) (fun _ => rfl) 0 rfl rfl rfl (fun _ H locs hp32 hW => ?_)
  refine lv_istore (lv' := [(5, .int (iI (IDX ((a 11)) (t - (LF ((a 11)) x 6)) k))), (4, .int (iI (IDX ((a 11)) ((LF ((a 11)) x 0) - (LF ((a 11)) x 6)) k))), (0, .ref h), (1, .int (iI x)), (2, .int (iI t)), (3, .int (iI k))]) hx hb dX11_byIndex_35 hl (by decide) rfl (fun ls hl => ?_)
  have x1 := IDX_R hV (LF (a 11) x 0 - LF (a 11) x 6) k
  have x2 := IDX_R hV (t - LF (a 11) x 6) k
  refine lv_iload hx hb dX11_byIndex_37 (lv_at hl 1 rfl) ?_
  refine z_iconst (n := -1) hx hb dX11_byIndex_39 ?_
  refine z_icmp_eq (tgt := 49) hx hb dX11_byIndex_40 (by decide) ⟨by omega, by omega⟩ (by decide) (fun c40 => ?_) (fun c40 => ?_)
  · refine z_ldc2 hx hb (-1) hown (hts _ (List.mem_of_getElem? (i := 1) rfl)) (by decide +kernel) dX11_byIndex_49 ?_
    refine lv_goto (tgt := 70) hx hb dX11_byIndex_52 (by decide) ?_
    exact z_lret hx hb hr hlk hW () (by unfold BYI; first | exact if_pos (by omega) | exact if_neg (by omega)) trivial rfl dX11_byIndex_70
  · refine lv_iload hx hb dX11_byIndex_43 (lv_at hl 0 rfl) ?_
    refine z_iconst (n := -1) hx hb dX11_byIndex_45 ?_
    refine z_icmp_ne (tgt := 55) hx hb dX11_byIndex_46 (by decide) ⟨by omega, by omega⟩ (by decide) (fun c46 => ?_) (fun c46 => ?_)
    · have x3 := mul_P (p := LF (a 11) x 2) (q := IDX (a 11) (t - LF (a 11) x 6) k) (P := 99999) (Q := 9999) (by omega) (by omega)
      refine lv_aload_n hx hb dX11_byIndex_55 rfl (lv_at hl 2 rfl) ?_
      refine lv_iload_n hx hb dX11_byIndex_56 rfl (lv_at hl 3 rfl) ?_
      refine z_iconst (n := 2) hx hb dX11_byIndex_57 ?_
      refine z_callV (As := [.int (iI x), .int (iI 2)]) (rest := []) F (c_its h q v a x 2  (show 0 ≤ 483 + 500 * x + 2 ∧ 483 + 500 * x + 2 < 3483 by omega)) gX11_byIndex_X11_its rfl ziX11_its ⟨rfl, rfl, by decide, by decide⟩ rfl hl.1 rfl (Nat.le_of_ble_eq_true rfl) dX11_byIndex_58 ⟨Nat.zero_le _, Nat.zero_le _⟩ hW hA [0, 1, 2, 3, 4, 5, 6, 7, 8, 9, 10] rfl (by decide) (fun _ => rfl) (fun _ => mW cI cJ h q v a) (fun _ => rfl) (fun _ => [.int (iI (LF ((a 11)) x 2))]) (fun _ => rfl) 0 rfl rfl rfl (fun _ H locs hp58 hW => ?_)
      refine z_i2l hx hb dX11_byIndex_61 ⟨by omega, by omega⟩ ?_
      refine lv_iload hx hb dX11_byIndex_62 (lv_at hl 0 rfl) ?_
      refine z_i2l hx hb dX11_byIndex_64 ⟨by omega, by omega⟩ ?_
      refine z_lmul hx hb dX11_byIndex_65 ?_
      refine lv_iload hx hb dX11_byIndex_66 (lv_at hl 1 rfl) ?_
      refine z_i2l hx hb dX11_byIndex_68 ⟨by omega, by omega⟩ ?_
      refine z_ldiv hx hb dX11_byIndex_69 ⟨by omega, by omega⟩ ⟨by omega, by omega⟩ (by omega) (by omega) ?_
      exact z_lret hx hb hr hlk hW () (by unfold BYI; first | exact if_pos (by omega) | exact if_neg (by omega)) trivial rfl dX11_byIndex_70
    · refine z_ldc2 hx hb (-1) hown (hts _ (List.mem_of_getElem? (i := 1) rfl)) (by decide +kernel) dX11_byIndex_49 ?_
      refine lv_goto (tgt := 70) hx hb dX11_byIndex_52 (by decide) ?_
      exact z_lret hx hb hr hlk hW () (by unfold BYI; first | exact if_pos (by omega) | exact if_neg (by omega)) trivial rfl dX11_byIndex_70
theorem hiX11_byTurnover_X11 : ∀ w ∈ wsX110, w ∈ wsX11_byTurnover := fun _ h => List.mem_cons_of_mem _ (List.mem_append_right _ h)
theorem ziX11_byTurnover : yX11_byTurnover.cls = RX11 ∧ yX11_byTurnover.cls ≠ "java/lang/invoke/MethodHandle" ∧ yX11_byTurnover.cls ≠ "java/lang/invoke/VarHandle" ∧ (parseMethodDescriptor yX11_byTurnover.desc).map (fun d => d.parameters.length) = some 3 := by decide +kernel
set_option maxHeartbeats 4000000 in
set_option maxRecDepth 100000 in
theorem c_byTurnover {l : Launch} {G : va_G} {cI cJ cO : ClassId} (h : Nat) (q : Nat → Nat) (v : Nat → Int) (a : Nat → Int → Int) (x t k : Int) (r : Int) (hx6 : 0 ≤ x ∧ x < 6) (h2 : t = LF (a 11) x 0 + r * LF (a 11) x 3) (h3 : 1 ≤ r ∧ r ≤ 119 ∧ 0 ≤ r * LF (a 11) x 3 ∧ r * LF (a 11) x 3 ≤ LF (a 11) x 1 - 1) (h4 : -2147483648 ≤ k ∧ k < 2147483648) (hL : WFl (a 11) x) (hT : WFt (a 11) x) : zC l yX11_byTurnover wsX11_byTurnover { frames := 1, cells := 0, slots := 0, locals := 22 } G (tyZ cI cJ cO) (S := Unit) [.ref h, .int (iI x), .int (iI t), .int (iI k)] (mW cI cJ h q v a) (zL (fun _ => BYT (a 11) x r k)) (fun _ => True) (fun _ => mW cI cJ h q v a) 0 0 := by
  refine z_start (cc := cX11_byTurnover) (maxL := 8) (ret := (some .long)) (by decide) rfl (Nat.le_of_ble_eq_true rfl) ?_
  intro p e s m below meth c A ls F hr hlk hnm hAe hA hW hl
  have hx := F.1
  have hb := F.2.1
  have hown : s.vm.findClass RX11 = some m.cls := F.2.2.2.1
  have hts := F.2.2.2.2
  have hl : lv_has ls 8 [(0, .ref h), (1, .int (iI x)), (2, .int (iI t)), (3, .int (iI k))] := hl
  obtain ⟨l0, l1, l2, l3, l4, l5, l6, l7, l8, l9, l10, l11, l12, l13, l14, l15⟩ := id hL
  refine z_lconst (z := 0) hx hb dX11_byTurnover_0 (by decide +kernel) ?_
  refine lv_lstore (lv' := [(4, .long (lI 0)), (0, .ref h), (1, .int (iI x)), (2, .int (iI t)), (3, .int (iI k))]) hx hb dX11_byTurnover_1 hl (by decide) rfl (fun ls hl => ?_)
  refine lv_iload_n hx hb dX11_byTurnover_3 rfl (lv_at hl 3 rfl) ?_
  refine lv_aload_n hx hb dX11_byTurnover_4 rfl (lv_at hl 1 rfl) ?_
  refine lv_iload_n hx hb dX11_byTurnover_5 rfl (lv_at hl 2 rfl) ?_
  refine z_iconst (n := 3) hx hb dX11_byTurnover_6 ?_
  refine z_callV (As := [.int (iI x), .int (iI 3)]) (rest := [.int (iI t)]) F (c_its h q v a x 3  (show 0 ≤ 483 + 500 * x + 3 ∧ 483 + 500 * x + 3 < 3483 by omega)) gX11_byTurnover_X11_its rfl ziX11_its ⟨rfl, rfl, by decide, by decide⟩ rfl hl.1 rfl (Nat.le_of_ble_eq_true rfl) dX11_byTurnover_7 ⟨Nat.zero_le _, Nat.zero_le _⟩ hW hA [0, 1, 2, 3, 4, 5, 6, 7, 8, 9, 10] rfl (by decide) (fun _ => rfl) (fun _ => mW cI cJ h q v a) (fun _ => rfl) (fun _ => [.int (iI (LF ((a 11)) x 3)), .int (iI t)]) (fun _ => rfl) 0 rfl rfl rfl (fun _ H locs hp7 hW => ?_)
  refine z_isub hx hb dX11_byTurnover_10 ?_
  refine lv_istore (lv' := [(6, .int (iI (t - (LF ((a 11)) x 3)))), (4, .long (lI 0)), (0, .ref h), (1, .int (iI x)), (2, .int (iI t)), (3, .int (iI k))]) hx hb dX11_byTurnover_11 hl (by decide) rfl (fun ls hl => ?_)
  have he : (r - 1) * LF (a 11) x 3 = r * LF (a 11) x 3 - LF (a 11) x 3 := by rw [Int.sub_mul, Int.one_mul]
  have hi0 : 0 ≤ (r - 1) * LF (a 11) x 3 := Int.mul_nonneg (by omega) (by omega)
  refine z_loop2 (fun (x4 : Int) (x6 : Int) (ls : Array Slot) (H : Heap) (locs : List Loc) => (t - LF (a 11) x 3 ≤ x6 ∧ x6 ≤ t) ∧ (x4 = tsm (a 11) x k ((r - 1) * LF (a 11) x 3) (x6 - (t - LF (a 11) x 3)).toNat) ∧ (0 ≤ x4 ∧ x4 ≤ 1000000 * (x6 - (t - LF (a 11) x 3))) ∧ zW G (tyZ cI cJ cO) A s (mW cI cJ h q v a) H locs ∧ lv_has ls 8 [(6, .int (iI x6)), (4, .long (lI x4)), (0, .ref h), (1, .int (iI x)), (2, .int (iI t)), (3, .int (iI k))]) (fun x4 x6 => (t - x6).toNat) ?_ 0 (t - (LF ((a 11)) x 3)) _ _ _ ⟨(by omega), (by rw [show (t - LF (a 11) x 3 - (t - LF (a 11) x 3)).toNat = 0 by omega]; rfl), (by omega), hW, (lv_sub hl [0, 1, 2, 3, 4, 5] rfl)⟩
  intro x4 x6 ls H locs hI ih
  obtain ⟨i1, i2, i3, hW, hl⟩ := hI
  refine lv_iload hx hb dX11_byTurnover_13 (lv_at hl 0 rfl) ?_
  refine lv_iload_n hx hb dX11_byTurnover_15 rfl (lv_at hl 4 rfl) ?_
  refine z_icmp_ge (tgt := 88) hx hb dX11_byTurnover_16 (by decide) ⟨by omega, by omega⟩ ⟨by omega, by omega⟩ (fun c16 => ?_) (fun c16 => ?_)
  · have ex : x6 = t := by omega
    have i4 : x4 = tsm (a 11) x k ((r - 1) * LF (a 11) x 3) (LF (a 11) x 3).toNat := by rw [i2, ex, show t - (t - LF (a 11) x 3) = LF (a 11) x 3 by omega]
    have m1 := mul_P (p := x4) (q := LF (a 11) x 6) (P := 60000000) (Q := 999) (by omega) (by omega)
    have m2 := tdiv_P (a := x4 * LF (a 11) x 6) (b := 1000) m1.1 (by decide)
    have m3 := tdiv_P (a := (x4 * LF (a 11) x 6).tdiv 1000) (b := LF (a 11) x 3) m2.1 (by omega)
    refine lv_lload hx hb dX11_byTurnover_88 (lv_at hl 1 rfl) ?_
    refine lv_aload_n hx hb dX11_byTurnover_90 rfl (lv_at hl 2 rfl) ?_
    refine lv_iload_n hx hb dX11_byTurnover_91 rfl (lv_at hl 3 rfl) ?_
    refine z_bipush hx hb dX11_byTurnover_92 (by decide +kernel) ?_
    refine z_callV (As := [.int (iI x), .int (iI 6)]) (rest := [.long (lI x4)]) F (c_its h q v a x 6  (show 0 ≤ 483 + 500 * x + 6 ∧ 483 + 500 * x + 6 < 3483 by omega)) gX11_byTurnover_X11_its rfl ziX11_its ⟨rfl, rfl, by decide, by decide⟩ rfl hl.1 rfl (Nat.le_of_ble_eq_true rfl) dX11_byTurnover_94 ⟨Nat.zero_le _, Nat.zero_le _⟩ hW hA [0, 1, 2, 3, 4, 5, 6, 7, 8, 9, 10] rfl (by decide) (fun _ => rfl) (fun _ => mW cI cJ h q v a) (fun _ => rfl) (fun _ => [.int (iI (LF ((a 11)) x 6)), .long (lI x4)]) (fun _ => rfl) 0 rfl rfl rfl (fun _ H locs hp94 hW => ?_)
    refine z_i2l hx hb dX11_byTurnover_97 ⟨by omega, by omega⟩ ?_
    refine z_lmul hx hb dX11_byTurnover_98 ?_
    refine z_ldc2 hx hb (1000) hown (hts _ (List.mem_of_getElem? (i := 2) rfl)) (by decide +kernel) dX11_byTurnover_99 ?_
    refine z_ldiv hx hb dX11_byTurnover_102 ⟨by omega, by omega⟩ (by decide) (by decide) (by omega) ?_
    refine lv_aload_n hx hb dX11_byTurnover_103 rfl (lv_at hl 2 rfl) ?_
    refine lv_iload_n hx hb dX11_byTurnover_104 rfl (lv_at hl 3 rfl) ?_
    refine z_iconst (n := 3) hx hb dX11_byTurnover_105 ?_
    refine z_callV (As := [.int (iI x), .int (iI 3)]) (rest := [.long (lI ((x4 * (LF ((a 11)) x 6)).tdiv 1000))]) F (c_its h q v a x 3  (show 0 ≤ 483 + 500 * x + 3 ∧ 483 + 500 * x + 3 < 3483 by omega)) gX11_byTurnover_X11_its rfl ziX11_its ⟨rfl, rfl, by decide, by decide⟩ rfl hl.1 rfl (Nat.le_of_ble_eq_true rfl) dX11_byTurnover_106 ⟨Nat.zero_le _, Nat.zero_le _⟩ hW hA [0, 1, 2, 3, 4, 5, 6, 7, 8, 9, 10] rfl (by decide) (fun _ => rfl) (fun _ => mW cI cJ h q v a) (fun _ => rfl) (fun _ => [.int (iI (LF ((a 11)) x 3)), .long (lI ((x4 * (LF ((a 11)) x 6)).tdiv 1000))]) (fun _ => rfl) 0 rfl rfl rfl (fun _ H locs hp106 hW => ?_)
    refine z_i2l hx hb dX11_byTurnover_109 ⟨by omega, by omega⟩ ?_
    refine z_ldiv hx hb dX11_byTurnover_110 ⟨by omega, by omega⟩ ⟨by omega, by omega⟩ (by omega) (by omega) ?_
    refine lv_lstore (lv' := [(6, .long (lI (((x4 * (LF ((a 11)) x 6)).tdiv 1000).tdiv (LF ((a 11)) x 3)))), (4, .long (lI x4)), (0, .ref h), (1, .int (iI x)), (2, .int (iI t)), (3, .int (iI k))]) hx hb dX11_byTurnover_111 hl (by decide) rfl (fun ls hl => ?_)
    refine lv_lload hx hb dX11_byTurnover_113 (lv_at hl 0 rfl) ?_
    refine lv_aload_n hx hb dX11_byTurnover_115 rfl (lv_at hl 2 rfl) ?_
    refine lv_iload_n hx hb dX11_byTurnover_116 rfl (lv_at hl 3 rfl) ?_
    refine z_iconst (n := 2) hx hb dX11_byTurnover_117 ?_
    refine z_callV (As := [.int (iI x), .int (iI 2)]) (rest := [.long (lI (((x4 * (LF ((a 11)) x 6)).tdiv 1000).tdiv (LF ((a 11)) x 3)))]) F (c_its h q v a x 2  (show 0 ≤ 483 + 500 * x + 2 ∧ 483 + 500 * x + 2 < 3483 by omega)) gX11_byTurnover_X11_its rfl ziX11_its ⟨rfl, rfl, by decide, by decide⟩ rfl hl.1 rfl (Nat.le_of_ble_eq_true rfl) dX11_byTurnover_118 ⟨Nat.zero_le _, Nat.zero_le _⟩ hW hA [0, 1, 2, 3, 4, 5, 6, 7, 8, 9, 10] rfl (by decide) (fun _ => rfl) (fun _ => mW cI cJ h q v a) (fun _ => rfl) (fun _ => [.int (iI (LF ((a 11)) x 2)), .long (lI (((x4 * (LF ((a 11)) x 6)).tdiv 1000).tdiv (LF ((a 11)) x 3)))]) (fun _ => rfl) 0 rfl rfl rfl (fun _ H locs hp118 hW => ?_)
    refine z_i2l hx hb dX11_byTurnover_121 ⟨by omega, by omega⟩ ?_
    refine z_lcmp_ge (tgt := 136) hx hb dX11_byTurnover_122 dX11_byTurnover_123 (by decide) ⟨by omega, by omega⟩ ⟨by omega, by omega⟩ (fun c122 => ?_) (fun c122 => ?_)
    · refine lv_lload hx hb dX11_byTurnover_136 (lv_at hl 0 rfl) ?_
      exact z_lret hx hb hr hlk hW () (by unfold BYT; rw [← i4, if_neg (by omega)]; first | exact if_pos (by omega) | exact if_neg (by omega)) trivial rfl dX11_byTurnover_138
    · refine lv_aload_n hx hb dX11_byTurnover_126 rfl (lv_at hl 2 rfl) ?_
      refine lv_iload_n hx hb dX11_byTurnover_127 rfl (lv_at hl 3 rfl) ?_
      refine z_iconst (n := 2) hx hb dX11_byTurnover_128 ?_
      refine z_callV (As := [.int (iI x), .int (iI 2)]) (rest := []) F (c_its h q v a x 2  (show 0 ≤ 483 + 500 * x + 2 ∧ 483 + 500 * x + 2 < 3483 by omega)) gX11_byTurnover_X11_its rfl ziX11_its ⟨rfl, rfl, by decide, by decide⟩ rfl hl.1 rfl (Nat.le_of_ble_eq_true rfl) dX11_byTurnover_129 ⟨Nat.zero_le _, Nat.zero_le _⟩ hW hA [0, 1, 2, 3, 4, 5, 6, 7, 8, 9, 10] rfl (by decide) (fun _ => rfl) (fun _ => mW cI cJ h q v a) (fun _ => rfl) (fun _ => [.int (iI (LF ((a 11)) x 2))]) (fun _ => rfl) 0 rfl rfl rfl (fun _ H locs hp129 hW => ?_)
      refine z_i2l hx hb dX11_byTurnover_132 ⟨by omega, by omega⟩ ?_
      refine lv_goto (tgt := 138) hx hb dX11_byTurnover_133 (by decide) ?_
      exact z_lret hx hb hr hlk hW () (by unfold BYT; rw [← i4, if_neg (by omega)]; first | exact if_pos (by omega) | exact if_neg (by omega)) trivial rfl dX11_byTurnover_138
  · refine lv_iload hx hb dX11_byTurnover_19 (lv_at hl 0 rfl) ?_
    refine lv_aload_n hx hb dX11_byTurnover_21 rfl (lv_at hl 2 rfl) ?_
    refine lv_iload_n hx hb dX11_byTurnover_22 rfl (lv_at hl 3 rfl) ?_
    refine z_iconst (n := 0) hx hb dX11_byTurnover_23 ?_
    refine z_callV (As := [.int (iI x), .int (iI 0)]) (rest := [.int (iI x6)]) F (c_its h q v a x 0  (show 0 ≤ 483 + 500 * x + 0 ∧ 483 + 500 * x + 0 < 3483 by omega)) gX11_byTurnover_X11_its rfl ziX11_its ⟨rfl, rfl, by decide, by decide⟩ rfl hl.1 rfl (Nat.le_of_ble_eq_true rfl) dX11_byTurnover_24 ⟨Nat.zero_le _, Nat.zero_le _⟩ hW hA [0, 1, 2, 3, 4, 5, 6, 7, 8, 9, 10] rfl (by decide) (fun _ => rfl) (fun _ => mW cI cJ h q v a) (fun _ => rfl) (fun _ => [.int (iI (LF ((a 11)) x 0)), .int (iI x6)]) (fun _ => rfl) 0 rfl rfl rfl (fun _ H locs hp24 hW => ?_)
    refine z_isub hx hb dX11_byTurnover_27 ?_
    refine lv_istore (lv' := [(7, .int (iI (x6 - (LF ((a 11)) x 0)))), (6, .int (iI x6)), (4, .long (lI x4)), (0, .ref h), (1, .int (iI x)), (2, .int (iI t)), (3, .int (iI k))]) hx hb dX11_byTurnover_28 hl (by decide) rfl (fun ls hl => ?_)
    have hn : x6 - LF (a 11) x 0 = (r - 1) * LF (a 11) x 3 + ((x6 - (t - LF (a 11) x 3)).toNat : Int) := by omega
    have ht2 := hT (x6 - LF (a 11) x 0) (by omega) (by omega)
    refine lv_aload_n hx hb dX11_byTurnover_30 rfl (lv_at hl 3 rfl) ?_
    refine lv_iload_n hx hb dX11_byTurnover_31 rfl (lv_at hl 4 rfl) ?_
    refine z_sipush hx hb dX11_byTurnover_32 (by decide +kernel) ?_
    refine lv_iload hx hb dX11_byTurnover_35 (lv_at hl 0 rfl) ?_
    refine z_iadd hx hb dX11_byTurnover_37 ?_
    refine z_callV (As := [.int (iI x), .int (iI (260 + (x6 - (LF ((a 11)) x 0))))]) (rest := []) F (c_its h q v a x (260 + (x6 - (LF ((a 11)) x 0)))  (show 0 ≤ 483 + 500 * x + (260 + (x6 - (LF ((a 11)) x 0))) ∧ 483 + 500 * x + (260 + (x6 - (LF ((a 11)) x 0))) < 3483 by omega)) gX11_byTurnover_X11_its rfl ziX11_its ⟨rfl, rfl, by decide, by decide⟩ rfl hl.1 rfl (Nat.le_of_ble_eq_true rfl) dX11_byTurnover_38 ⟨Nat.zero_le _, Nat.zero_le _⟩ hW hA [0, 1, 2, 3, 4, 5, 6, 7, 8, 9, 10] rfl (by decide) (fun _ => rfl) (fun _ => mW cI cJ h q v a) (fun _ => rfl) (fun _ => [.int (iI (LF ((a 11)) x (260 + (x6 - (LF ((a 11)) x 0)))))]) (fun _ => rfl) 0 rfl rfl rfl (fun _ H locs hp38 hW => ?_)
    refine z_if_eq (tgt := 59) hx hb dX11_byTurnover_41 (by decide) ⟨by omega, by omega⟩ (fun c41 => ?_) (fun c41 => ?_)
    · refine z_ldc2 hx hb (-1) hown (hts _ (List.mem_of_getElem? (i := 1) rfl)) (by decide +kernel) dX11_byTurnover_59 ?_
      exact z_lret hx hb hr hlk hW () (by unfold BYT; rw [if_pos]; have hh : tsm (a 11) x k ((r - 1) * LF (a 11) x 3) ((x6 - (t - LF (a 11) x 3)).toNat + 1) < 0 := (by unfold tsm; rw [← i2, ← hn, if_neg (by omega), if_pos (by omega)]; decide); rw [show (LF (a 11) x 3).toNat = (x6 - (t - LF (a 11) x 3)).toNat + 1 + (t - x6 - 1).toNat by omega]; exact tsm_neg hh _) trivial rfl dX11_byTurnover_62
    · refine lv_aload_n hx hb dX11_byTurnover_44 rfl (lv_at hl 3 rfl) ?_
      refine lv_iload_n hx hb dX11_byTurnover_45 rfl (lv_at hl 4 rfl) ?_
      refine z_sipush hx hb dX11_byTurnover_46 (by decide +kernel) ?_
      refine lv_iload hx hb dX11_byTurnover_49 (lv_at hl 0 rfl) ?_
      refine z_iadd hx hb dX11_byTurnover_51 ?_
      refine z_callV (As := [.int (iI x), .int (iI (380 + (x6 - (LF ((a 11)) x 0))))]) (rest := []) F (c_its h q v a x (380 + (x6 - (LF ((a 11)) x 0)))  (show 0 ≤ 483 + 500 * x + (380 + (x6 - (LF ((a 11)) x 0))) ∧ 483 + 500 * x + (380 + (x6 - (LF ((a 11)) x 0))) < 3483 by omega)) gX11_byTurnover_X11_its rfl ziX11_its ⟨rfl, rfl, by decide, by decide⟩ rfl hl.1 rfl (Nat.le_of_ble_eq_true rfl) dX11_byTurnover_52 ⟨Nat.zero_le _, Nat.zero_le _⟩ hW hA [0, 1, 2, 3, 4, 5, 6, 7, 8, 9, 10] rfl (by decide) (fun _ => rfl) (fun _ => mW cI cJ h q v a) (fun _ => rfl) (fun _ => [.int (iI (LF ((a 11)) x (380 + (x6 - (LF ((a 11)) x 0)))))]) (fun _ => rfl) 0 rfl rfl rfl (fun _ H locs hp52 hW => ?_)
      refine lv_iload_n hx hb dX11_byTurnover_55 rfl (lv_at hl 6 rfl) ?_
      refine z_icmp_le (tgt := 63) hx hb dX11_byTurnover_56 (by decide) ⟨by omega, by omega⟩ ⟨by omega, by omega⟩ (fun c56 => ?_) (fun c56 => ?_)
      · refine lv_lload hx hb dX11_byTurnover_63 (lv_at hl 2 rfl) ?_
        refine lv_aload_n hx hb dX11_byTurnover_65 rfl (lv_at hl 3 rfl) ?_
        refine lv_iload_n hx hb dX11_byTurnover_66 rfl (lv_at hl 4 rfl) ?_
        refine z_sipush hx hb dX11_byTurnover_67 (by decide +kernel) ?_
        refine lv_iload hx hb dX11_byTurnover_70 (lv_at hl 0 rfl) ?_
        refine z_iadd hx hb dX11_byTurnover_72 ?_
        refine z_callV (As := [.int (iI x), .int (iI (260 + (x6 - (LF ((a 11)) x 0))))]) (rest := [.long (lI x4)]) F (c_its h q v a x (260 + (x6 - (LF ((a 11)) x 0)))  (show 0 ≤ 483 + 500 * x + (260 + (x6 - (LF ((a 11)) x 0))) ∧ 483 + 500 * x + (260 + (x6 - (LF ((a 11)) x 0))) < 3483 by omega)) gX11_byTurnover_X11_its rfl ziX11_its ⟨rfl, rfl, by decide, by decide⟩ rfl hl.1 rfl (Nat.le_of_ble_eq_true rfl) dX11_byTurnover_73 ⟨Nat.zero_le _, Nat.zero_le _⟩ hW hA [0, 1, 2, 3, 4, 5, 6, 7, 8, 9, 10] rfl (by decide) (fun _ => rfl) (fun _ => mW cI cJ h q v a) (fun _ => rfl) (fun _ => [.int (iI (LF ((a 11)) x (260 + (x6 - (LF ((a 11)) x 0))))), .long (lI x4)]) (fun _ => rfl) 0 rfl rfl rfl (fun _ H locs hp73 hW => ?_)
        refine z_i2l hx hb dX11_byTurnover_76 ⟨by omega, by omega⟩ ?_
        refine z_lconst (z := 1) hx hb dX11_byTurnover_77 (by decide +kernel) ?_
        refine z_lsub hx hb dX11_byTurnover_78 ?_
        refine z_ladd hx hb dX11_byTurnover_79 ?_
        refine lv_lstore (lv' := [(4, .long (lI (x4 + ((LF ((a 11)) x (260 + (x6 - (LF ((a 11)) x 0)))) - 1)))), (7, .int (iI (x6 - (LF ((a 11)) x 0)))), (6, .int (iI x6)), (0, .ref h), (1, .int (iI x)), (2, .int (iI t)), (3, .int (iI k))]) hx hb dX11_byTurnover_80 hl (by decide) rfl (fun ls hl => ?_)
        refine z_iinc (k := 2) (lv' := [(6, .int (iI (x6 + 1))), (4, .long (lI (x4 + ((LF ((a 11)) x (260 + (x6 - (LF ((a 11)) x 0)))) - 1)))), (7, .int (iI (x6 - (LF ((a 11)) x 0)))), (0, .ref h), (1, .int (iI x)), (2, .int (iI t)), (3, .int (iI k))]) hx hb dX11_byTurnover_82 hl rfl (by decide) rfl (fun ls hl => ?_)
        refine lv_goto (tgt := 13) hx hb dX11_byTurnover_85 (by decide) ?_
        exact ih (x4 + ((LF ((a 11)) x (260 + (x6 - (LF ((a 11)) x 0)))) - 1)) (x6 + 1) _ _ _ ⟨(by omega), (by rw [show (x6 + 1 - (t - LF (a 11) x 3)).toNat = (x6 - (t - LF (a 11) x 3)).toNat + 1 by omega]; unfold tsm; rw [← i2, ← hn, if_neg (by omega), if_neg (by omega)]), (by omega), hW, (lv_sub hl [0, 1, 3, 4, 5, 6] rfl)⟩ (by omega)
      · refine z_ldc2 hx hb (-1) hown (hts _ (List.mem_of_getElem? (i := 1) rfl)) (by decide +kernel) dX11_byTurnover_59 ?_
        exact z_lret hx hb hr hlk hW () (by unfold BYT; rw [if_pos]; have hh : tsm (a 11) x k ((r - 1) * LF (a 11) x 3) ((x6 - (t - LF (a 11) x 3)).toNat + 1) < 0 := (by unfold tsm; rw [← i2, ← hn, if_neg (by omega), if_pos (by omega)]; decide); rw [show (LF (a 11) x 3).toNat = (x6 - (t - LF (a 11) x 3)).toNat + 1 + (t - x6 - 1).toNat by omega]; exact tsm_neg hh _) trivial rfl dX11_byTurnover_62
theorem hiX11_wants_X11 : ∀ w ∈ wsX110, w ∈ wsX11_wants := fun _ h => List.mem_cons_of_mem _ (List.mem_append_right _ h)
theorem ziX11_wants : yX11_wants.cls = RX11 ∧ yX11_wants.cls ≠ "java/lang/invoke/MethodHandle" ∧ yX11_wants.cls ≠ "java/lang/invoke/VarHandle" ∧ (parseMethodDescriptor yX11_wants.desc).map (fun d => d.parameters.length) = some 3 := by decide +kernel
set_option maxHeartbeats 4000000 in
set_option maxRecDepth 100000 in
theorem c_wants {l : Launch} {G : va_G} {cI cJ cO : ClassId} (h : Nat) (q : Nat → Nat) (v : Nat → Int) (a : Nat → Int → Int) (x r k : Int)  (hx6 : 0 ≤ x ∧ x < 6) (h2 : 1 ≤ r ∧ r ≤ 119 ∧ 0 ≤ r * LF (a 11) x 3 ∧ r * LF (a 11) x 3 ≤ LF (a 11) x 1 - 1) (h3 : -2147483648 ≤ k ∧ k < 2147483648) (h4 : 1 ≤ a 17 (r - 1) ∧ a 17 (r - 1) ≤ 999999) (hV : WFv (a 11)) (hL : WFl (a 11) x) (hT : WFt (a 11) x) : zC l yX11_wants wsX11_wants { frames := 5, cells := 0, slots := 0, locals := 114 } G (tyZ cI cJ cO) (S := Unit) [.ref h, .int (iI x), .int (iI r), .int (iI k)] (mW cI cJ h q v a) (zL (fun _ => WNT (a 11) x k (a 17 (r - 1)) r)) (fun _ => True) (fun _ => mW cI cJ h q v a) 0 0 := by
  refine z_start (cc := cX11_wants) (maxL := 4) (ret := (some .long)) (by decide) rfl (Nat.le_of_ble_eq_true rfl) ?_
  intro p e s m below meth c A ls F hr hlk hnm hAe hA hW hl
  have hx := F.1
  have hb := F.2.1
  have hown : s.vm.findClass RX11 = some m.cls := F.2.2.2.1
  have hts := F.2.2.2.2
  have hl : lv_has ls 4 [(0, .ref h), (1, .int (iI x)), (2, .int (iI r)), (3, .int (iI k))] := hl
  obtain ⟨l0, l1, l2, l3, l4, l5, l6, l7, l8, l9, l10, l11, l12, l13, l14, l15⟩ := id hL
  refine lv_aload_n hx hb dX11_wants_0 rfl (lv_at hl 0 rfl) ?_
  refine lv_iload_n hx hb dX11_wants_1 rfl (lv_at hl 1 rfl) ?_
  refine z_iconst (n := 5) hx hb dX11_wants_2 ?_
  refine z_callV (As := [.int (iI x), .int (iI 5)]) (rest := []) F (c_its h q v a x 5  (show 0 ≤ 483 + 500 * x + 5 ∧ 483 + 500 * x + 5 < 3483 by omega)) gX11_wants_X11_its rfl ziX11_its ⟨rfl, rfl, by decide, by decide⟩ rfl hl.1 rfl (Nat.le_of_ble_eq_true rfl) dX11_wants_3 ⟨Nat.zero_le _, Nat.zero_le _⟩ hW hA [0, 1, 2, 3, 4, 5, 6, 7, 8, 9, 10] rfl (by decide) (fun _ => rfl) (fun _ => mW cI cJ h q v a) (fun _ => rfl) (fun _ => [.int (iI (LF ((a 11)) x 5))]) (fun _ => rfl) 0 rfl rfl rfl (fun _ H locs hp3 hW => ?_)
  by_cases c6_1 : LF ((a 11)) x 5 = 1
  · refine z_tabIn (z := 1) (tgt := 32) hx hb dX11_wants_6 c6_1 (by decide) (by decide) (by decide) rfl (by decide) ?_
    refine lv_aload_n hx hb dX11_wants_32 rfl (lv_at hl 0 rfl) ?_
    refine lv_iload_n hx hb dX11_wants_33 rfl (lv_at hl 1 rfl) ?_
    refine lv_aload_n hx hb dX11_wants_34 rfl (lv_at hl 0 rfl) ?_
    refine lv_iload_n hx hb dX11_wants_35 rfl (lv_at hl 1 rfl) ?_
    refine lv_iload_n hx hb dX11_wants_36 rfl (lv_at hl 2 rfl) ?_
    refine z_callV (As := [.int (iI x), .int (iI r)]) (rest := [.int (iI x), .ref h]) F (c_monthOf h q v a x r  (show 0 ≤ x ∧ x < 6 by omega)) gX11_wants_X11_monthOf rfl ziX11_monthOf ⟨rfl, rfl, by decide, by decide⟩ rfl hl.1 rfl (Nat.le_of_ble_eq_true rfl) dX11_wants_37 ⟨Nat.zero_le _, Nat.zero_le _⟩ hW hA [0, 1, 2, 3, 4, 5, 6, 7, 8, 9, 10] rfl (by decide) (fun _ => rfl) (fun _ => mW cI cJ h q v a) (fun _ => rfl) (fun _ => [.int (iI (LF ((a 11)) x 0 + r * LF ((a 11)) x 3)), .int (iI x), .ref h]) (fun _ => rfl) 0 rfl rfl rfl (fun _ H locs hp37 hW => ?_)
    refine lv_iload_n hx hb dX11_wants_40 rfl (lv_at hl 3 rfl) ?_
    refine z_callV (As := [.int (iI x), .int (iI (LF ((a 11)) x 0 + r * LF ((a 11)) x 3)), .int (iI k)]) (rest := []) F (c_byIndex h q v a x (LF ((a 11)) x 0 + r * LF ((a 11)) x 3) k  (show 0 ≤ x ∧ x < 6 by omega) (show 0 ≤ (LF ((a 11)) x 0 + r * LF ((a 11)) x 3) ∧ (LF ((a 11)) x 0 + r * LF ((a 11)) x 3) ≤ 240 by omega) (show -2147483648 ≤ k ∧ k < 2147483648 by omega) hV hL) gX11_wants_X11_byIndex rfl ziX11_byIndex ⟨rfl, rfl, by decide, by decide⟩ rfl hl.1 rfl (Nat.le_of_ble_eq_true rfl) dX11_wants_41 ⟨Nat.zero_le _, Nat.zero_le _⟩ hW hA [0, 1, 2, 3, 4, 5, 6, 7, 8, 9, 10] rfl (by decide) (fun _ => rfl) (fun _ => mW cI cJ h q v a) (fun _ => rfl) (fun _ => [.long (lI (BYI ((a 11)) x (LF ((a 11)) x 0 + r * LF ((a 11)) x 3) k))]) (fun _ => rfl) 0 rfl rfl rfl (fun _ H locs hp41 hW => ?_)
    exact z_lret hx hb hr hlk hW () (by unfold WNT; rw [if_pos c6_1]) trivial rfl dX11_wants_44
  by_cases c6_2 : LF ((a 11)) x 5 = 2
  · refine z_tabIn (z := 2) (tgt := 45) hx hb dX11_wants_6 c6_2 (by decide) (by decide) (by decide) rfl (by decide) ?_
    have ht2 := hT r (by omega) (by omega)
    refine lv_aload_n hx hb dX11_wants_45 rfl (lv_at hl 0 rfl) ?_
    refine lv_iload_n hx hb dX11_wants_46 rfl (lv_at hl 1 rfl) ?_
    refine z_bipush hx hb dX11_wants_47 (by decide +kernel) ?_
    refine lv_iload_n hx hb dX11_wants_49 rfl (lv_at hl 2 rfl) ?_
    refine z_iadd hx hb dX11_wants_50 ?_
    refine z_callV (As := [.int (iI x), .int (iI (20 + r))]) (rest := []) F (c_its h q v a x (20 + r)  (show 0 ≤ 483 + 500 * x + (20 + r) ∧ 483 + 500 * x + (20 + r) < 3483 by omega)) gX11_wants_X11_its rfl ziX11_its ⟨rfl, rfl, by decide, by decide⟩ rfl hl.1 rfl (Nat.le_of_ble_eq_true rfl) dX11_wants_51 ⟨Nat.zero_le _, Nat.zero_le _⟩ hW hA [0, 1, 2, 3, 4, 5, 6, 7, 8, 9, 10] rfl (by decide) (fun _ => rfl) (fun _ => mW cI cJ h q v a) (fun _ => rfl) (fun _ => [.int (iI (LF ((a 11)) x (20 + r)))]) (fun _ => rfl) 0 rfl rfl rfl (fun _ H locs hp51 hW => ?_)
    refine z_if_le (tgt := 84) hx hb dX11_wants_54 (by decide) ⟨by omega, by omega⟩ (fun c54 => ?_) (fun c54 => ?_)
    · refine z_ldc2 hx hb (-1) hown (hts _ (List.mem_of_getElem? (i := 1) rfl)) (by decide +kernel) dX11_wants_84 ?_
      exact z_lret hx hb hr hlk hW () (by unfold WNT; rw [if_neg c6_1, if_pos c6_2]; first | exact if_pos (by omega) | exact if_neg (by omega)) trivial rfl dX11_wants_87
    · refine lv_aload_n hx hb dX11_wants_57 rfl (lv_at hl 0 rfl) ?_
      refine lv_iload_n hx hb dX11_wants_58 rfl (lv_at hl 1 rfl) ?_
      refine z_sipush hx hb dX11_wants_59 (by decide +kernel) ?_
      refine lv_iload_n hx hb dX11_wants_62 rfl (lv_at hl 2 rfl) ?_
      refine z_iadd hx hb dX11_wants_63 ?_
      refine z_callV (As := [.int (iI x), .int (iI (140 + r))]) (rest := []) F (c_its h q v a x (140 + r)  (show 0 ≤ 483 + 500 * x + (140 + r) ∧ 483 + 500 * x + (140 + r) < 3483 by omega)) gX11_wants_X11_its rfl ziX11_its ⟨rfl, rfl, by decide, by decide⟩ rfl hl.1 rfl (Nat.le_of_ble_eq_true rfl) dX11_wants_64 ⟨Nat.zero_le _, Nat.zero_le _⟩ hW hA [0, 1, 2, 3, 4, 5, 6, 7, 8, 9, 10] rfl (by decide) (fun _ => rfl) (fun _ => mW cI cJ h q v a) (fun _ => rfl) (fun _ => [.int (iI (LF ((a 11)) x (140 + r)))]) (fun _ => rfl) 0 rfl rfl rfl (fun _ H locs hp64 hW => ?_)
      refine lv_iload_n hx hb dX11_wants_67 rfl (lv_at hl 3 rfl) ?_
      refine z_icmp_gt (tgt := 84) hx hb dX11_wants_68 (by decide) ⟨by omega, by omega⟩ ⟨by omega, by omega⟩ (fun c68 => ?_) (fun c68 => ?_)
      · refine z_ldc2 hx hb (-1) hown (hts _ (List.mem_of_getElem? (i := 1) rfl)) (by decide +kernel) dX11_wants_84 ?_
        exact z_lret hx hb hr hlk hW () (by unfold WNT; rw [if_neg c6_1, if_pos c6_2]; first | exact if_pos (by omega) | exact if_neg (by omega)) trivial rfl dX11_wants_87
      · refine lv_aload_n hx hb dX11_wants_71 rfl (lv_at hl 0 rfl) ?_
        refine lv_iload_n hx hb dX11_wants_72 rfl (lv_at hl 1 rfl) ?_
        refine z_bipush hx hb dX11_wants_73 (by decide +kernel) ?_
        refine lv_iload_n hx hb dX11_wants_75 rfl (lv_at hl 2 rfl) ?_
        refine z_iadd hx hb dX11_wants_76 ?_
        refine z_callV (As := [.int (iI x), .int (iI (20 + r))]) (rest := []) F (c_its h q v a x (20 + r)  (show 0 ≤ 483 + 500 * x + (20 + r) ∧ 483 + 500 * x + (20 + r) < 3483 by omega)) gX11_wants_X11_its rfl ziX11_its ⟨rfl, rfl, by decide, by decide⟩ rfl hl.1 rfl (Nat.le_of_ble_eq_true rfl) dX11_wants_77 ⟨Nat.zero_le _, Nat.zero_le _⟩ hW hA [0, 1, 2, 3, 4, 5, 6, 7, 8, 9, 10] rfl (by decide) (fun _ => rfl) (fun _ => mW cI cJ h q v a) (fun _ => rfl) (fun _ => [.int (iI (LF ((a 11)) x (20 + r)))]) (fun _ => rfl) 0 rfl rfl rfl (fun _ H locs hp77 hW => ?_)
        refine z_i2l hx hb dX11_wants_80 ⟨by omega, by omega⟩ ?_
        refine lv_goto (tgt := 87) hx hb dX11_wants_81 (by decide) ?_
        exact z_lret hx hb hr hlk hW () (by unfold WNT; rw [if_neg c6_1, if_pos c6_2]; first | exact if_pos (by omega) | exact if_neg (by omega)) trivial rfl dX11_wants_87
  by_cases c6_3 : LF ((a 11)) x 5 = 3
  · refine z_tabIn (z := 3) (tgt := 88) hx hb dX11_wants_6 c6_3 (by decide) (by decide) (by decide) rfl (by decide) ?_
    refine lv_aload_n hx hb dX11_wants_88 rfl (lv_at hl 0 rfl) ?_
    refine lv_iload_n hx hb dX11_wants_89 rfl (lv_at hl 1 rfl) ?_
    refine lv_aload_n hx hb dX11_wants_90 rfl (lv_at hl 0 rfl) ?_
    refine lv_iload_n hx hb dX11_wants_91 rfl (lv_at hl 1 rfl) ?_
    refine lv_iload_n hx hb dX11_wants_92 rfl (lv_at hl 2 rfl) ?_
    refine z_callV (As := [.int (iI x), .int (iI r)]) (rest := [.int (iI x), .ref h]) F (c_monthOf h q v a x r  (show 0 ≤ x ∧ x < 6 by omega)) gX11_wants_X11_monthOf rfl ziX11_monthOf ⟨rfl, rfl, by decide, by decide⟩ rfl hl.1 rfl (Nat.le_of_ble_eq_true rfl) dX11_wants_93 ⟨Nat.zero_le _, Nat.zero_le _⟩ hW hA [0, 1, 2, 3, 4, 5, 6, 7, 8, 9, 10] rfl (by decide) (fun _ => rfl) (fun _ => mW cI cJ h q v a) (fun _ => rfl) (fun _ => [.int (iI (LF ((a 11)) x 0 + r * LF ((a 11)) x 3)), .int (iI x), .ref h]) (fun _ => rfl) 0 rfl rfl rfl (fun _ H locs hp93 hW => ?_)
    refine lv_iload_n hx hb dX11_wants_96 rfl (lv_at hl 3 rfl) ?_
    refine z_callV (As := [.int (iI x), .int (iI (LF ((a 11)) x 0 + r * LF ((a 11)) x 3)), .int (iI k)]) (rest := []) F (c_byTurnover h q v a x (LF ((a 11)) x 0 + r * LF ((a 11)) x 3) k r (show 0 ≤ x ∧ x < 6 by omega) rfl (show 1 ≤ r ∧ r ≤ 119 ∧ 0 ≤ r * LF ((a 11)) x 3 ∧ r * LF ((a 11)) x 3 ≤ LF ((a 11)) x 1 - 1 by omega) (show -2147483648 ≤ k ∧ k < 2147483648 by omega) hL hT) gX11_wants_X11_byTurnover rfl ziX11_byTurnover ⟨rfl, rfl, by decide, by decide⟩ rfl hl.1 rfl (Nat.le_of_ble_eq_true rfl) dX11_wants_97 ⟨Nat.zero_le _, Nat.zero_le _⟩ hW hA [0, 1, 2, 3, 4, 5, 6, 7, 8, 9, 10] rfl (by decide) (fun _ => rfl) (fun _ => mW cI cJ h q v a) (fun _ => rfl) (fun _ => [.long (lI (BYT ((a 11)) x r k))]) (fun _ => rfl) 0 rfl rfl rfl (fun _ H locs hp97 hW => ?_)
    exact z_lret hx hb hr hlk hW () (by unfold WNT; rw [if_neg c6_1, if_neg c6_2, if_pos c6_3]) trivial rfl dX11_wants_100
  refine z_tabOut (tgt := 101) hx hb dX11_wants_6 ⟨by omega, by omega⟩ (by omega) (by decide) ?_
  have m1 := thou_P (a := a 17 (r - 1)) (f := 1000 + LF (a 11) x 6) (by omega) (by omega)
  refine lv_aload_n hx hb dX11_wants_101 rfl (lv_at hl 0 rfl) ?_
  refine z_get (v := .ref (q 17)) hx hb hts hiX11_wants_X11 hown hW 0 17 2 rfl rfl rfl (by decide) rfl dX11_wants_102 ?_
  refine lv_iload_n hx hb dX11_wants_105 rfl (lv_at hl 2 rfl) ?_
  refine z_iconst (n := 1) hx hb dX11_wants_106 ?_
  refine z_isub hx hb dX11_wants_107 ?_
  refine z_lald (f := a 17) (i := r - 1) hx hb hW 6 1 rfl rfl (by decide) ⟨by omega, by omega⟩ dX11_wants_108 ?_
  refine z_ldc2 hx hb (1000) hown (hts _ (List.mem_of_getElem? (i := 3) rfl)) (by decide +kernel) dX11_wants_109 ?_
  refine lv_aload_n hx hb dX11_wants_112 rfl (lv_at hl 0 rfl) ?_
  refine lv_iload_n hx hb dX11_wants_113 rfl (lv_at hl 1 rfl) ?_
  refine z_bipush hx hb dX11_wants_114 (by decide +kernel) ?_
  refine z_callV (As := [.int (iI x), .int (iI 6)]) (rest := [.long (lI 1000), .long (lI ((a 17) (r - 1)))]) F (c_its h q v a x 6  (show 0 ≤ 483 + 500 * x + 6 ∧ 483 + 500 * x + 6 < 3483 by omega)) gX11_wants_X11_its rfl ziX11_its ⟨rfl, rfl, by decide, by decide⟩ rfl hl.1 rfl (Nat.le_of_ble_eq_true rfl) dX11_wants_116 ⟨Nat.zero_le _, Nat.zero_le _⟩ hW hA [0, 1, 2, 3, 4, 5, 6, 7, 8, 9, 10] rfl (by decide) (fun _ => rfl) (fun _ => mW cI cJ h q v a) (fun _ => rfl) (fun _ => [.int (iI (LF ((a 11)) x 6)), .long (lI 1000), .long (lI ((a 17) (r - 1)))]) (fun _ => rfl) 0 rfl rfl rfl (fun _ H locs hp116 hW => ?_)
  refine z_i2l hx hb dX11_wants_119 ⟨by omega, by omega⟩ ?_
  refine z_ladd hx hb dX11_wants_120 ?_
  refine z_lmul hx hb dX11_wants_121 ?_
  refine z_ldc2 hx hb (1000) hown (hts _ (List.mem_of_getElem? (i := 3) rfl)) (by decide +kernel) dX11_wants_122 ?_
  refine z_ldiv hx hb dX11_wants_125 ⟨by omega, by omega⟩ (by decide) (by decide) (by omega) ?_
  exact z_lret hx hb hr hlk hW () (by unfold WNT; rw [if_neg c6_1, if_neg c6_2, if_neg c6_3]) trivial rfl dX11_wants_126
theorem hiX11_held_X11 : ∀ w ∈ wsX110, w ∈ wsX11_held := fun _ h => List.mem_cons_of_mem _ (List.mem_append_right _ h)
theorem ziX11_held : yX11_held.cls = RX11 ∧ yX11_held.cls ≠ "java/lang/invoke/MethodHandle" ∧ yX11_held.cls ≠ "java/lang/invoke/VarHandle" ∧ (parseMethodDescriptor yX11_held.desc).map (fun d => d.parameters.length) = some 2 := by decide +kernel
set_option maxHeartbeats 4000000 in
set_option maxRecDepth 100000 in
theorem c_held {l : Launch} {G : va_G} {cI cJ cO : ClassId} (h : Nat) (q : Nat → Nat) (v : Nat → Int) (a : Nat → Int → Int) (x r : Int)  (hx6 : 0 ≤ x ∧ x < 6) (h2 : 1 ≤ r ∧ r ≤ 119) (h3 : 0 ≤ a 16 r ∧ a 16 r ≤ 999890001) (h4 : 1 ≤ a 17 (r - 1) ∧ a 17 (r - 1) ≤ 999999) (h5 : 0 ≤ a 18 r ∧ a 18 r ≤ 1998999) (h6 : 0 ≤ a 19 r ∧ a 19 r ≤ 999999) (hL : WFl (a 11) x) : zC l yX11_held wsX11_held { frames := 2, cells := 0, slots := 0, locals := 44 } G (tyZ cI cJ cO) (S := Unit) [.ref h, .int (iI x), .int (iI r)] (mW cI cJ h q v a) (zL (fun _ => HLD (a 11) x (a 16 r) (a 17 (r - 1)) (a 18 r) (a 19 r))) (fun _ => True) (fun _ => mW cI cJ h q v a) 0 0 := by
  refine z_start (cc := cX11_held) (maxL := 11) (ret := (some .long)) (by decide) rfl (Nat.le_of_ble_eq_true rfl) ?_
  intro p e s m below meth c A ls F hr hlk hnm hAe hA hW hl
  have hx := F.1
  have hb := F.2.1
  have hown : s.vm.findClass RX11 = some m.cls := F.2.2.2.1
  have hts := F.2.2.2.2
  have hl : lv_has ls 11 [(0, .ref h), (1, .int (iI x)), (2, .int (iI r))] := hl
  obtain ⟨l0, l1, l2, l3, l4, l5, l6, l7, l8, l9, l10, l11, l12, l13, l14, l15⟩ := id hL
  refine lv_aload_n hx hb dX11_held_0 rfl (lv_at hl 0 rfl) ?_
  refine z_get (v := .ref (q 16)) hx hb hts hiX11_held_X11 hown hW 0 16 1 rfl rfl rfl (by decide) rfl dX11_held_1 ?_
  refine lv_iload_n hx hb dX11_held_4 rfl (lv_at hl 2 rfl) ?_
  refine z_lald (f := a 16) (i := r) hx hb hW 5 1 rfl rfl (by decide) ⟨by omega, by omega⟩ dX11_held_5 ?_
  refine lv_lstore_n (lv' := [(3, .long (lI ((a 16) r))), (0, .ref h), (1, .int (iI x)), (2, .int (iI r))]) hx hb dX11_held_6 rfl hl (by decide) rfl (fun ls hl => ?_)
  refine lv_aload_n hx hb dX11_held_7 rfl (lv_at hl 1 rfl) ?_
  refine z_get (v := .ref (q 17)) hx hb hts hiX11_held_X11 hown hW 0 17 2 rfl rfl rfl (by decide) rfl dX11_held_8 ?_
  refine lv_iload_n hx hb dX11_held_11 rfl (lv_at hl 3 rfl) ?_
  refine z_iconst (n := 1) hx hb dX11_held_12 ?_
  refine z_isub hx hb dX11_held_13 ?_
  refine z_lald (f := a 17) (i := r - 1) hx hb hW 6 1 rfl rfl (by decide) ⟨by omega, by omega⟩ dX11_held_14 ?_
  refine lv_lstore (lv' := [(5, .long (lI ((a 17) (r - 1)))), (3, .long (lI ((a 16) r))), (0, .ref h), (1, .int (iI x)), (2, .int (iI r))]) hx hb dX11_held_15 hl (by decide) rfl (fun ls hl => ?_)
  refine z_join1 (fun (v1 : Int) (ls : Array Slot) (H : Heap) (locs : List Loc) => (v1 = HLD1 (a 11) x (a 16 r) (a 17 (r - 1))) ∧ (0 ≤ v1 ∧ v1 ≤ 999890001) ∧ zW G (tyZ cI cJ cO) A s (mW cI cJ h q v a) H locs ∧ lv_has ls 11 [(5, .long (lI ((a 17) (r - 1)))), (3, .long (lI v1)), (0, .ref h), (1, .int (iI x)), (2, .int (iI r))]) 94 (fun v1 => []) ?_ ?_
  · intro v1 ls H locs hJ
    obtain ⟨j1, j2, hW, hl⟩ := hJ
    refine z_join1 (fun (v2 : Int) (ls : Array Slot) (H : Heap) (locs : List Loc) => (v2 = HLD2 (a 11) x v1 (a 18 r) (a 19 r)) ∧ (0 ≤ v2 ∧ v2 ≤ 999890001) ∧ zW G (tyZ cI cJ cO) A s (mW cI cJ h q v a) H locs ∧ lv_has ls 11 [(5, .long (lI ((a 17) (r - 1)))), (3, .long (lI v2)), (0, .ref h), (1, .int (iI x)), (2, .int (iI r))]) 145 (fun v2 => []) ?_ ?_
    · intro v2 ls H locs hJ
      obtain ⟨j3, j4, hW, hl⟩ := hJ
      refine z_join1 (fun (v3 : Int) (ls : Array Slot) (H : Heap) (locs : List Loc) => (v3 = HLD3 (a 11) x v2 (a 17 (r - 1))) ∧ (0 ≤ v3 ∧ v3 ≤ 999890001) ∧ zW G (tyZ cI cJ cO) A s (mW cI cJ h q v a) H locs ∧ lv_has ls 11 [(5, .long (lI ((a 17) (r - 1)))), (3, .long (lI v3)), (0, .ref h), (1, .int (iI x)), (2, .int (iI r))]) 165 (fun v3 => []) ?_ ?_
      · intro v3 ls H locs hJ
        obtain ⟨j5, j6, hW, hl⟩ := hJ
        refine lv_lload_n hx hb dX11_held_165 rfl (lv_at hl 1 rfl) ?_
        refine z_lconst (z := 1) hx hb dX11_held_166 (by decide +kernel) ?_
        refine z_lcmp_ge (tgt := 175) hx hb dX11_held_167 dX11_held_168 (by decide) ⟨by omega, by omega⟩ (by decide) (fun c167 => ?_) (fun c167 => ?_)
        · refine lv_lload_n hx hb dX11_held_175 rfl (lv_at hl 1 rfl) ?_
          refine z_ldc2 hx hb (999999) hown (hts _ (List.mem_of_getElem? (i := 6) rfl)) (by decide +kernel) dX11_held_176 ?_
          refine z_lcmp_le (tgt := 189) hx hb dX11_held_179 dX11_held_180 (by decide) ⟨by omega, by omega⟩ (by decide) (fun c179 => ?_) (fun c179 => ?_)
          · refine lv_lload_n hx hb dX11_held_189 rfl (lv_at hl 1 rfl) ?_
            exact z_lret hx hb hr hlk hW () (by unfold HLD; rw [← j1, ← j3, ← j5]; unfold clampZ; first | exact if_pos (by omega) | (rw [if_neg (by omega), if_pos (by omega)]; done) | (rw [if_neg (by omega), if_neg (by omega)]; done)) trivial rfl dX11_held_190
          · refine z_ldc2 hx hb (999999) hown (hts _ (List.mem_of_getElem? (i := 6) rfl)) (by decide +kernel) dX11_held_183 ?_
            refine lv_goto (tgt := 190) hx hb dX11_held_186 (by decide) ?_
            exact z_lret hx hb hr hlk hW () (by unfold HLD; rw [← j1, ← j3, ← j5]; unfold clampZ; first | exact if_pos (by omega) | (rw [if_neg (by omega), if_pos (by omega)]; done) | (rw [if_neg (by omega), if_neg (by omega)]; done)) trivial rfl dX11_held_190
        · refine z_lconst (z := 1) hx hb dX11_held_171 (by decide +kernel) ?_
          refine lv_goto (tgt := 190) hx hb dX11_held_172 (by decide) ?_
          exact z_lret hx hb hr hlk hW () (by unfold HLD; rw [← j1, ← j3, ← j5]; unfold clampZ; first | exact if_pos (by omega) | (rw [if_neg (by omega), if_pos (by omega)]; done) | (rw [if_neg (by omega), if_neg (by omega)]; done)) trivial rfl dX11_held_190
      · intro J1
        refine lv_aload_n hx hb dX11_held_145 rfl (lv_at hl 2 rfl) ?_
        refine lv_iload_n hx hb dX11_held_146 rfl (lv_at hl 3 rfl) ?_
        refine z_bipush hx hb dX11_held_147 (by decide +kernel) ?_
        refine z_callV (As := [.int (iI x), .int (iI 8)]) (rest := []) F (c_hasPart h q v a x 8  (show 0 ≤ x ∧ x < 6 by omega)) gX11_held_X11_hasPart rfl ziX11_hasPart ⟨rfl, rfl, by decide, by decide⟩ rfl hl.1 rfl (Nat.le_of_ble_eq_true rfl) dX11_held_149 ⟨Nat.zero_le _, Nat.zero_le _⟩ hW hA [0, 1, 2, 3, 4, 5, 6, 7, 8, 9, 10] rfl (by decide) (fun _ => rfl) (fun _ => mW cI cJ h q v a) (fun _ => rfl) (fun _ => [.int (iI (bI (zand (LF ((a 11)) x 7) 8 ≠ 0)))]) (fun _ => rfl) 0 rfl rfl rfl (fun _ H locs hp149 hW => ?_)
        refine z_b_eq (tgt := 165) hx hb dX11_held_152 (by decide) (fun c152 => ?_) (fun c152 => ?_)
        · exact J1 v2 _ _ _ ⟨(by unfold HLD3; first | exact (if_pos ⟨c152, by omega⟩).symm | exact (if_neg (fun q9 => by have q8 := q9.2; omega)).symm | exact (if_neg (fun q9 => absurd q9.1 c152)).symm), (by omega), hW, (lv_sub hl [0, 1, 2, 3, 4] rfl)⟩
        · refine lv_lload_n hx hb dX11_held_155 rfl (lv_at hl 1 rfl) ?_
          refine lv_lload hx hb dX11_held_156 (lv_at hl 0 rfl) ?_
          refine z_lcmp_ge (tgt := 165) hx hb dX11_held_158 dX11_held_159 (by decide) ⟨by omega, by omega⟩ ⟨by omega, by omega⟩ (fun c158 => ?_) (fun c158 => ?_)
          · exact J1 v2 _ _ _ ⟨(by unfold HLD3; first | exact (if_pos ⟨c152, by omega⟩).symm | exact (if_neg (fun q9 => by have q8 := q9.2; omega)).symm | exact (if_neg (fun q9 => absurd q9.1 c152)).symm), (by omega), hW, (lv_sub hl [0, 1, 2, 3, 4] rfl)⟩
          · refine lv_lload hx hb dX11_held_162 (lv_at hl 0 rfl) ?_
            refine lv_lstore_n (lv' := [(3, .long (lI ((a 17) (r - 1)))), (5, .long (lI ((a 17) (r - 1)))), (0, .ref h), (1, .int (iI x)), (2, .int (iI r))]) hx hb dX11_held_164 rfl hl (by decide) rfl (fun ls hl => ?_)
            exact J1 ((a 17) (r - 1)) _ _ _ ⟨(by unfold HLD3; first | exact (if_pos ⟨c152, by omega⟩).symm | exact (if_neg (fun q9 => by have q8 := q9.2; omega)).symm | exact (if_neg (fun q9 => absurd q9.1 c152)).symm), (by omega), hW, (lv_sub hl [1, 0, 2, 3, 4] rfl)⟩
    · intro J2
      refine lv_aload_n hx hb dX11_held_94 rfl (lv_at hl 2 rfl) ?_
      refine lv_iload_n hx hb dX11_held_95 rfl (lv_at hl 3 rfl) ?_
      refine z_iconst (n := 4) hx hb dX11_held_96 ?_
      refine z_callV (As := [.int (iI x), .int (iI 4)]) (rest := []) F (c_hasPart h q v a x 4  (show 0 ≤ x ∧ x < 6 by omega)) gX11_held_X11_hasPart rfl ziX11_hasPart ⟨rfl, rfl, by decide, by decide⟩ rfl hl.1 rfl (Nat.le_of_ble_eq_true rfl) dX11_held_97 ⟨Nat.zero_le _, Nat.zero_le _⟩ hW hA [0, 1, 2, 3, 4, 5, 6, 7, 8, 9, 10] rfl (by decide) (fun _ => rfl) (fun _ => mW cI cJ h q v a) (fun _ => rfl) (fun _ => [.int (iI (bI (zand (LF ((a 11)) x 7) 4 ≠ 0)))]) (fun _ => rfl) 0 rfl rfl rfl (fun _ H locs hp97 hW => ?_)
      refine z_b_eq (tgt := 145) hx hb dX11_held_100 (by decide) (fun c100 => ?_) (fun c100 => ?_)
      · exact J2 v1 _ _ _ ⟨(by unfold HLD2; first | (rw [if_neg c100]; done) | (rw [if_pos c100]; unfold clampZ; first | exact (if_pos (by omega)).symm | (rw [if_neg (by omega), if_pos (by omega)]; done) | (rw [if_neg (by omega), if_neg (by omega)]; done))), (by omega), hW, (lv_sub hl [0, 1, 2, 3, 4] rfl)⟩
      · refine lv_lload_n hx hb dX11_held_103 rfl (lv_at hl 1 rfl) ?_
        refine lv_aload_n hx hb dX11_held_104 rfl (lv_at hl 2 rfl) ?_
        refine z_get (v := .ref (q 18)) hx hb hts hiX11_held_X11 hown hW 0 18 4 rfl rfl rfl (by decide) rfl dX11_held_105 ?_
        refine lv_iload_n hx hb dX11_held_108 rfl (lv_at hl 4 rfl) ?_
        refine z_lald (f := a 18) (i := r) hx hb hW 7 1 rfl rfl (by decide) ⟨by omega, by omega⟩ dX11_held_109 ?_
        refine z_lcmp_ge (tgt := 123) hx hb dX11_held_110 dX11_held_111 (by decide) ⟨by omega, by omega⟩ ⟨by omega, by omega⟩ (fun c110 => ?_) (fun c110 => ?_)
        · refine lv_lload_n hx hb dX11_held_123 rfl (lv_at hl 1 rfl) ?_
          refine lv_aload_n hx hb dX11_held_124 rfl (lv_at hl 2 rfl) ?_
          refine z_get (v := .ref (q 19)) hx hb hts hiX11_held_X11 hown hW 0 19 5 rfl rfl rfl (by decide) rfl dX11_held_125 ?_
          refine lv_iload_n hx hb dX11_held_128 rfl (lv_at hl 4 rfl) ?_
          refine z_lald (f := a 19) (i := r) hx hb hW 8 1 rfl rfl (by decide) ⟨by omega, by omega⟩ dX11_held_129 ?_
          refine z_lcmp_le (tgt := 143) hx hb dX11_held_130 dX11_held_131 (by decide) ⟨by omega, by omega⟩ ⟨by omega, by omega⟩ (fun c130 => ?_) (fun c130 => ?_)
          · refine lv_lload_n hx hb dX11_held_143 rfl (lv_at hl 1 rfl) ?_
            refine lv_lstore_n (lv' := [(3, .long (lI v1)), (5, .long (lI ((a 17) (r - 1)))), (0, .ref h), (1, .int (iI x)), (2, .int (iI r))]) hx hb dX11_held_144 rfl hl (by decide) rfl (fun ls hl => ?_)
            exact J2 v1 _ _ _ ⟨(by unfold HLD2; first | (rw [if_neg c100]; done) | (rw [if_pos c100]; unfold clampZ; first | exact (if_pos (by omega)).symm | (rw [if_neg (by omega), if_pos (by omega)]; done) | (rw [if_neg (by omega), if_neg (by omega)]; done))), (by omega), hW, (lv_sub hl [1, 0, 2, 3, 4] rfl)⟩
          · refine lv_aload_n hx hb dX11_held_134 rfl (lv_at hl 2 rfl) ?_
            refine z_get (v := .ref (q 19)) hx hb hts hiX11_held_X11 hown hW 0 19 5 rfl rfl rfl (by decide) rfl dX11_held_135 ?_
            refine lv_iload_n hx hb dX11_held_138 rfl (lv_at hl 4 rfl) ?_
            refine z_lald (f := a 19) (i := r) hx hb hW 8 1 rfl rfl (by decide) ⟨by omega, by omega⟩ dX11_held_139 ?_
            refine lv_goto (tgt := 144) hx hb dX11_held_140 (by decide) ?_
            refine lv_lstore_n (lv' := [(3, .long (lI ((a 19) r))), (5, .long (lI ((a 17) (r - 1)))), (0, .ref h), (1, .int (iI x)), (2, .int (iI r))]) hx hb dX11_held_144 rfl hl (by decide) rfl (fun ls hl => ?_)
            exact J2 ((a 19) r) _ _ _ ⟨(by unfold HLD2; first | (rw [if_neg c100]; done) | (rw [if_pos c100]; unfold clampZ; first | exact (if_pos (by omega)).symm | (rw [if_neg (by omega), if_pos (by omega)]; done) | (rw [if_neg (by omega), if_neg (by omega)]; done))), (by omega), hW, (lv_sub hl [1, 0, 2, 3, 4] rfl)⟩
        · refine lv_aload_n hx hb dX11_held_114 rfl (lv_at hl 2 rfl) ?_
          refine z_get (v := .ref (q 18)) hx hb hts hiX11_held_X11 hown hW 0 18 4 rfl rfl rfl (by decide) rfl dX11_held_115 ?_
          refine lv_iload_n hx hb dX11_held_118 rfl (lv_at hl 4 rfl) ?_
          refine z_lald (f := a 18) (i := r) hx hb hW 7 1 rfl rfl (by decide) ⟨by omega, by omega⟩ dX11_held_119 ?_
          refine lv_goto (tgt := 144) hx hb dX11_held_120 (by decide) ?_
          refine lv_lstore_n (lv' := [(3, .long (lI ((a 18) r))), (5, .long (lI ((a 17) (r - 1)))), (0, .ref h), (1, .int (iI x)), (2, .int (iI r))]) hx hb dX11_held_144 rfl hl (by decide) rfl (fun ls hl => ?_)
          exact J2 ((a 18) r) _ _ _ ⟨(by unfold HLD2; first | (rw [if_neg c100]; done) | (rw [if_pos c100]; unfold clampZ; first | exact (if_pos (by omega)).symm | (rw [if_neg (by omega), if_pos (by omega)]; done) | (rw [if_neg (by omega), if_neg (by omega)]; done))), (by omega), hW, (lv_sub hl [1, 0, 2, 3, 4] rfl)⟩
  · intro J3
    refine lv_aload_n hx hb dX11_held_17 rfl (lv_at hl 2 rfl) ?_
    refine lv_iload_n hx hb dX11_held_18 rfl (lv_at hl 3 rfl) ?_
    refine z_iconst (n := 2) hx hb dX11_held_19 ?_
    refine z_callV (As := [.int (iI x), .int (iI 2)]) (rest := []) F (c_hasPart h q v a x 2  (show 0 ≤ x ∧ x < 6 by omega)) gX11_held_X11_hasPart rfl ziX11_hasPart ⟨rfl, rfl, by decide, by decide⟩ rfl hl.1 rfl (Nat.le_of_ble_eq_true rfl) dX11_held_20 ⟨Nat.zero_le _, Nat.zero_le _⟩ hW hA [0, 1, 2, 3, 4, 5, 6, 7, 8, 9, 10] rfl (by decide) (fun _ => rfl) (fun _ => mW cI cJ h q v a) (fun _ => rfl) (fun _ => [.int (iI (bI (zand (LF ((a 11)) x 7) 2 ≠ 0)))]) (fun _ => rfl) 0 rfl rfl rfl (fun _ H locs hp20 hW => ?_)
    refine z_b_eq (tgt := 94) hx hb dX11_held_23 (by decide) (fun c23 => ?_) (fun c23 => ?_)
    · exact J3 ((a 16) r) _ _ _ ⟨(by unfold HLD1; first | (rw [if_neg c23]; done) | (rw [if_pos c23]; unfold clampZ; first | exact (if_pos (by omega)).symm | (rw [if_neg (by omega), if_pos (by omega)]; done) | (rw [if_neg (by omega), if_neg (by omega)]; done))), (by omega), hW, (lv_sub hl [0, 1, 2, 3, 4] rfl)⟩
    · have t1 := thou_P (a := a 17 (r - 1)) (f := 1000 - LF (a 11) x 8) (by omega) (by omega)
      have t2 := thou_P (a := a 17 (r - 1)) (f := 1000 + LF (a 11) x 9) (by omega) (by omega)
      refine lv_lload hx hb dX11_held_26 (lv_at hl 0 rfl) ?_
      refine z_ldc2 hx hb (1000) hown (hts _ (List.mem_of_getElem? (i := 3) rfl)) (by decide +kernel) dX11_held_28 ?_
      refine lv_aload_n hx hb dX11_held_31 rfl (lv_at hl 2 rfl) ?_
      refine lv_iload_n hx hb dX11_held_32 rfl (lv_at hl 3 rfl) ?_
      refine z_bipush hx hb dX11_held_33 (by decide +kernel) ?_
      refine z_callV (As := [.int (iI x), .int (iI 8)]) (rest := [.long (lI 1000), .long (lI ((a 17) (r - 1)))]) F (c_its h q v a x 8  (show 0 ≤ 483 + 500 * x + 8 ∧ 483 + 500 * x + 8 < 3483 by omega)) gX11_held_X11_its rfl ziX11_its ⟨rfl, rfl, by decide, by decide⟩ rfl hl.1 rfl (Nat.le_of_ble_eq_true rfl) dX11_held_35 ⟨Nat.zero_le _, Nat.zero_le _⟩ hW hA [0, 1, 2, 3, 4, 5, 6, 7, 8, 9, 10] rfl (by decide) (fun _ => rfl) (fun _ => mW cI cJ h q v a) (fun _ => rfl) (fun _ => [.int (iI (LF ((a 11)) x 8)), .long (lI 1000), .long (lI ((a 17) (r - 1)))]) (fun _ => rfl) 0 rfl rfl rfl (fun _ H locs hp35 hW => ?_)
      refine z_i2l hx hb dX11_held_38 ⟨by omega, by omega⟩ ?_
      refine z_lsub hx hb dX11_held_39 ?_
      refine z_lmul hx hb dX11_held_40 ?_
      refine z_ldc2 hx hb (1000) hown (hts _ (List.mem_of_getElem? (i := 3) rfl)) (by decide +kernel) dX11_held_41 ?_
      refine z_ldiv hx hb dX11_held_44 ⟨by omega, by omega⟩ (by decide) (by decide) (by omega) ?_
      refine lv_lstore (lv' := [(7, .long (lI ((((a 17) (r - 1)) * (1000 - (LF ((a 11)) x 8))).tdiv 1000))), (5, .long (lI ((a 17) (r - 1)))), (3, .long (lI ((a 16) r))), (0, .ref h), (1, .int (iI x)), (2, .int (iI r))]) hx hb dX11_held_45 hl (by decide) rfl (fun ls hl => ?_)
      refine lv_lload hx hb dX11_held_47 (lv_at hl 1 rfl) ?_
      refine z_ldc2 hx hb (1000) hown (hts _ (List.mem_of_getElem? (i := 3) rfl)) (by decide +kernel) dX11_held_49 ?_
      refine lv_aload_n hx hb dX11_held_52 rfl (lv_at hl 3 rfl) ?_
      refine lv_iload_n hx hb dX11_held_53 rfl (lv_at hl 4 rfl) ?_
      refine z_bipush hx hb dX11_held_54 (by decide +kernel) ?_
      refine z_callV (As := [.int (iI x), .int (iI 9)]) (rest := [.long (lI 1000), .long (lI ((a 17) (r - 1)))]) F (c_its h q v a x 9  (show 0 ≤ 483 + 500 * x + 9 ∧ 483 + 500 * x + 9 < 3483 by omega)) gX11_held_X11_its rfl ziX11_its ⟨rfl, rfl, by decide, by decide⟩ rfl hl.1 rfl (Nat.le_of_ble_eq_true rfl) dX11_held_56 ⟨Nat.zero_le _, Nat.zero_le _⟩ hW hA [0, 1, 2, 3, 4, 5, 6, 7, 8, 9, 10] rfl (by decide) (fun _ => rfl) (fun _ => mW cI cJ h q v a) (fun _ => rfl) (fun _ => [.int (iI (LF ((a 11)) x 9)), .long (lI 1000), .long (lI ((a 17) (r - 1)))]) (fun _ => rfl) 0 rfl rfl rfl (fun _ H locs hp56 hW => ?_)
      refine z_i2l hx hb dX11_held_59 ⟨by omega, by omega⟩ ?_
      refine z_ladd hx hb dX11_held_60 ?_
      refine z_lmul hx hb dX11_held_61 ?_
      refine z_ldc2 hx hb (1000) hown (hts _ (List.mem_of_getElem? (i := 3) rfl)) (by decide +kernel) dX11_held_62 ?_
      refine z_ldiv hx hb dX11_held_65 ⟨by omega, by omega⟩ (by decide) (by decide) (by omega) ?_
      refine lv_lstore (lv' := [(9, .long (lI ((((a 17) (r - 1)) * (1000 + (LF ((a 11)) x 9))).tdiv 1000))), (7, .long (lI ((((a 17) (r - 1)) * (1000 - (LF ((a 11)) x 8))).tdiv 1000))), (5, .long (lI ((a 17) (r - 1)))), (3, .long (lI ((a 16) r))), (0, .ref h), (1, .int (iI x)), (2, .int (iI r))]) hx hb dX11_held_66 hl (by decide) rfl (fun ls hl => ?_)
      refine lv_lload_n hx hb dX11_held_68 rfl (lv_at hl 3 rfl) ?_
      refine lv_lload hx hb dX11_held_69 (lv_at hl 1 rfl) ?_
      refine z_lcmp_ge (tgt := 80) hx hb dX11_held_71 dX11_held_72 (by decide) ⟨by omega, by omega⟩ ⟨by omega, by omega⟩ (fun c71 => ?_) (fun c71 => ?_)
      · refine lv_lload_n hx hb dX11_held_80 rfl (lv_at hl 3 rfl) ?_
        refine lv_lload hx hb dX11_held_81 (lv_at hl 0 rfl) ?_
        refine z_lcmp_le (tgt := 92) hx hb dX11_held_83 dX11_held_84 (by decide) ⟨by omega, by omega⟩ ⟨by omega, by omega⟩ (fun c83 => ?_) (fun c83 => ?_)
        · refine lv_lload_n hx hb dX11_held_92 rfl (lv_at hl 3 rfl) ?_
          refine lv_lstore_n (lv' := [(3, .long (lI ((a 16) r))), (9, .long (lI ((((a 17) (r - 1)) * (1000 + (LF ((a 11)) x 9))).tdiv 1000))), (7, .long (lI ((((a 17) (r - 1)) * (1000 - (LF ((a 11)) x 8))).tdiv 1000))), (5, .long (lI ((a 17) (r - 1)))), (0, .ref h), (1, .int (iI x)), (2, .int (iI r))]) hx hb dX11_held_93 rfl hl (by decide) rfl (fun ls hl => ?_)
          exact J3 ((a 16) r) _ _ _ ⟨(by unfold HLD1; first | (rw [if_neg c23]; done) | (rw [if_pos c23]; unfold clampZ; first | exact (if_pos (by omega)).symm | (rw [if_neg (by omega), if_pos (by omega)]; done) | (rw [if_neg (by omega), if_neg (by omega)]; done))), (by omega), hW, (lv_sub hl [3, 0, 4, 5, 6] rfl)⟩
        · refine lv_lload hx hb dX11_held_87 (lv_at hl 0 rfl) ?_
          refine lv_goto (tgt := 93) hx hb dX11_held_89 (by decide) ?_
          refine lv_lstore_n (lv' := [(3, .long (lI ((((a 17) (r - 1)) * (1000 + (LF ((a 11)) x 9))).tdiv 1000))), (9, .long (lI ((((a 17) (r - 1)) * (1000 + (LF ((a 11)) x 9))).tdiv 1000))), (7, .long (lI ((((a 17) (r - 1)) * (1000 - (LF ((a 11)) x 8))).tdiv 1000))), (5, .long (lI ((a 17) (r - 1)))), (0, .ref h), (1, .int (iI x)), (2, .int (iI r))]) hx hb dX11_held_93 rfl hl (by decide) rfl (fun ls hl => ?_)
          exact J3 ((((a 17) (r - 1)) * (1000 + (LF ((a 11)) x 9))).tdiv 1000) _ _ _ ⟨(by unfold HLD1; first | (rw [if_neg c23]; done) | (rw [if_pos c23]; unfold clampZ; first | exact (if_pos (by omega)).symm | (rw [if_neg (by omega), if_pos (by omega)]; done) | (rw [if_neg (by omega), if_neg (by omega)]; done))), (by omega), hW, (lv_sub hl [3, 0, 4, 5, 6] rfl)⟩
      · refine lv_lload hx hb dX11_held_75 (lv_at hl 1 rfl) ?_
        refine lv_goto (tgt := 93) hx hb dX11_held_77 (by decide) ?_
        refine lv_lstore_n (lv' := [(3, .long (lI ((((a 17) (r - 1)) * (1000 - (LF ((a 11)) x 8))).tdiv 1000))), (9, .long (lI ((((a 17) (r - 1)) * (1000 + (LF ((a 11)) x 9))).tdiv 1000))), (7, .long (lI ((((a 17) (r - 1)) * (1000 - (LF ((a 11)) x 8))).tdiv 1000))), (5, .long (lI ((a 17) (r - 1)))), (0, .ref h), (1, .int (iI x)), (2, .int (iI r))]) hx hb dX11_held_93 rfl hl (by decide) rfl (fun ls hl => ?_)
        exact J3 ((((a 17) (r - 1)) * (1000 - (LF ((a 11)) x 8))).tdiv 1000) _ _ _ ⟨(by unfold HLD1; first | (rw [if_neg c23]; done) | (rw [if_pos c23]; unfold clampZ; first | exact (if_pos (by omega)).symm | (rw [if_neg (by omega), if_pos (by omega)]; done) | (rw [if_neg (by omega), if_neg (by omega)]; done))), (by omega), hW, (lv_sub hl [3, 0, 4, 5, 6] rfl)⟩
