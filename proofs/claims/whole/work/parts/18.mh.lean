/-! the model: acts -/
theorem hiX11_publish_X11 : ∀ w ∈ wsX110, w ∈ wsX11_publish := fun _ h => List.mem_cons_of_mem _ (List.mem_append_right _ h)
theorem ziX11_publish : yX11_publish.cls = RX11 ∧ yX11_publish.cls ≠ "java/lang/invoke/MethodHandle" ∧ yX11_publish.cls ≠ "java/lang/invoke/VarHandle" ∧ (parseMethodDescriptor yX11_publish.desc).map (fun d => d.parameters.length) = some 2 := by decide +kernel
set_option maxHeartbeats 4000000 in
set_option maxRecDepth 100000 in
theorem c_publish {l : Launch} {G : va_G} {cI cJ cO : ClassId} (h : Nat) (q : Nat → Nat) (v : Nat → Int) (a : Nat → Int → Int) (y z : Int)  (h1 : -2147483648 ≤ y ∧ y < 2147483648) (h2 : -2147483648 ≤ z ∧ z < 2147483648) (h14 : 0 ≤ v 14 ∧ v 14 ≤ 10) (hWF : WF (a 11)) : zC l yX11_publish wsX11_publish { frames := 3, cells := 0, slots := 0, locals := 64 } G (tyZ cI cJ cO) (S := (Int → Int) × Int × (Int → Int)) [.ref h, .int (iI y), .int (iI z)] (mW cI cJ h q v a) (zI (fun _ => A_publish (a 11) y z)) (fun u => ((¬ WHY (a 11) y z < 0) → u.1 = PUB (a 11) y z ∧ SNAPPED (a 13) (a 11) (v 14) u.2.2 u.2.1) ∧ (¬ (¬ WHY (a 11) y z < 0) → u.1 = a 11 ∧ u.2.2 = a 13 ∧ u.2.1 = v 14)) (fun u => mW cI cJ h q (uV (uV v 0 0) 14 u.2.1) (uA (uA a 11 u.1) 13 u.2.2)) 0 0 := by
  refine z_start (cc := cX11_publish) (maxL := 3) (ret := (some .int)) (by decide) rfl (Nat.le_of_ble_eq_true rfl) ?_
  intro p e s m below meth c A ls F hr hlk hnm hAe hA hW hl
  have hx := F.1
  have hb := F.2.1
  have hown : s.vm.findClass RX11 = some m.cls := F.2.2.2.1
  have hts := F.2.2.2.2
  have hl : lv_has ls 3 [(0, .ref h), (1, .int (iI y)), (2, .int (iI z))] := hl
  obtain ⟨w0, w1, w2, hV, hls⟩ := id hWF
  refine lv_aload_n hx hb dX11_publish_0 rfl (lv_at hl 0 rfl) ?_
  refine z_iconst (n := 0) hx hb dX11_publish_1 ?_
  refine z_put hx hb hts hiX11_publish_X11 tyX11 tyX11_ok nmX11 hown hW 0 0 1 rfl rfl (by decide) (Nat.le_of_ble_eq_true rfl) rfl rfl rfl rfl dX11_publish_2 (fun H locs hW => ?_)
  have hW : zW G (tyZ cI cJ cO) A s (mW cI cJ h q (uV v 0 0) a) H locs := hW
  refine lv_aload_n hx hb dX11_publish_5 rfl (lv_at hl 0 rfl) ?_
  refine lv_iload_n hx hb dX11_publish_6 rfl (lv_at hl 1 rfl) ?_
  refine lv_iload_n hx hb dX11_publish_7 rfl (lv_at hl 2 rfl) ?_
  refine z_callV (As := [.int (iI y), .int (iI z)]) (rest := []) F (c_whyNot h q (uV v 0 0) a y z  (show -2147483648 ≤ y ∧ y < 2147483648 by omega) (show -2147483648 ≤ z ∧ z < 2147483648 by omega) hV) gX11_publish_X11_whyNot rfl ziX11_whyNot ⟨rfl, rfl, by decide, by decide⟩ rfl hl.1 rfl (Nat.le_of_ble_eq_true rfl) dX11_publish_8 ⟨Nat.zero_le _, Nat.zero_le _⟩ hW hA [0, 1, 2, 3, 4, 5, 6, 7, 8, 9, 10] rfl (by decide) (fun _ => rfl) (fun _ => mW cI cJ h q (uV v 0 0) a) (fun _ => rfl) (fun _ => [.int (iI (WHY ((a 11)) y z))]) (fun _ => rfl) 0 rfl rfl rfl (fun _ H locs hp8 hW => ?_)
  have wr : WHY (a 11) y z = -1 ∨ WHY (a 11) y z = -2 ∨ WHY (a 11) y z = 0 := by unfold WHY; split <;> first | (split <;> omega) | omega
  refine z_if_ge (tgt := 21) hx hb dX11_publish_11 (by decide) ⟨by omega, by omega⟩ (fun c11 => ?_) (fun c11 => ?_)
  · have w9 : ((0 ≤ y ∧ y ≤ 239) ∧ (1 ≤ z ∧ z ≤ 9999) ∧ ¬ 0 < a 11 (3 + y)) := by unfold WHY at c11; split at c11; (rename_i q9; exact q9); omega
    refine lv_aload_n hx hb dX11_publish_21 rfl (lv_at hl 0 rfl) ?_
    refine z_callV (As := []) (rest := []) F (c_snap h q (uV v 0 0) a   (show 0 ≤ (v 14) ∧ (v 14) ≤ 10 by omega)) gX11_publish_X11_snap rfl ziX11_snap ⟨rfl, rfl, by decide, by decide⟩ rfl hl.1 rfl (Nat.le_of_ble_eq_true rfl) dX11_publish_22 ⟨Nat.zero_le _, Nat.zero_le _⟩ hW hA [0, 1, 2, 3, 4, 5, 6, 7, 8, 9, 10] rfl (by decide) (fun _ => rfl) (fun u => mW cI cJ h q (uV (uV v 0 0) 14 u.1) (uA a 13 u.2)) (fun _ => rfl) (fun u => []) (fun _ => rfl) 0 rfl rfl rfl (fun u H locs hp22 hW => ?_)
    obtain ⟨sm2_1, p13_2⟩ := u
    have hp22 : SNAPPED ((a 13)) ((a 11)) ((v 14)) p13_2 sm2_1 := hp22
    have hW : zW G (tyZ cI cJ cO) A s (mW cI cJ h q (uV (uV v 0 0) 14 sm2_1) (uA a 13 p13_2)) H locs := hW
    refine lv_aload_n hx hb dX11_publish_25 rfl (lv_at hl 0 rfl) ?_
    refine lv_iload_n hx hb dX11_publish_26 rfl (lv_at hl 1 rfl) ?_
    refine lv_iload_n hx hb dX11_publish_27 rfl (lv_at hl 2 rfl) ?_
    refine z_callV (As := [.int (iI y), .int (iI z)]) (rest := []) F (c_tells h q (uV (uV v 0 0) 14 sm2_1) (uA a 13 p13_2) y z  (show 0 ≤ y ∧ y ≤ 239 by omega) (show -2147483648 ≤ z ∧ z < 2147483648 by omega)) gX11_publish_X11_tells rfl ziX11_tells ⟨rfl, rfl, by decide, by decide⟩ rfl hl.1 rfl (Nat.le_of_ble_eq_true rfl) dX11_publish_28 ⟨Nat.zero_le _, Nat.zero_le _⟩ hW hA [0, 1, 2, 3, 4, 5, 6, 7, 8, 9, 10] rfl (by decide) (fun _ => rfl) (fun u => mW cI cJ h q (uV (uV v 0 0) 14 sm2_1) (uA (uA a 13 p13_2) 11 u)) (fun _ => rfl) (fun u => []) (fun _ => rfl) 0 rfl rfl rfl (fun u H locs hp28 hW => ?_)
    obtain ⟨n11_3, rfl⟩ : ∃ z, z = u := ⟨_, rfl⟩
    have hp28 : n11_3 = uI (uI ((a 11)) (3 + y) z) (243 + y) (if z = 0 then 0 else (a 11) 0) := hp28
    subst hp28
    have hW : zW G (tyZ cI cJ cO) A s (mW cI cJ h q (uV (uV v 0 0) 14 sm2_1) (uA (uA a 13 p13_2) 11 (uI (uI ((a 11)) (3 + y) z) (243 + y) (if z = 0 then 0 else (a 11) 0)))) H locs := hW
    rw [if_neg (show ¬ z = 0 by omega)] at hW
    have hP := PUB_WF (y := y) (z := z) hWF (by omega) (by omega)
    have hW : zW G (tyZ cI cJ cO) A s (mW cI cJ h q (uV (uV v 0 0) 14 sm2_1) (uA (uA a 13 p13_2) 11 (PUB (a 11) y z))) H locs := hW
    refine lv_aload_n hx hb dX11_publish_31 rfl (lv_at hl 0 rfl) ?_
    refine z_callV (As := []) (rest := []) F (c_valueMany h q (uV (uV v 0 0) 14 sm2_1) (uA (uA a 13 p13_2) 11 (PUB (a 11) y z))   hP.2.2.2.1) gX11_publish_X11_valueMany rfl ziX11_valueMany ⟨rfl, rfl, by decide, by decide⟩ rfl hl.1 rfl (Nat.le_of_ble_eq_true rfl) dX11_publish_32 ⟨Nat.zero_le _, Nat.zero_le _⟩ hW hA [0, 1, 2, 3, 4, 5, 6, 7, 8, 9, 10] rfl (by decide) (fun _ => rfl) (fun _ => mW cI cJ h q (uV (uV v 0 0) 14 sm2_1) (uA (uA a 13 p13_2) 11 (PUB (a 11) y z))) (fun _ => rfl) (fun _ => [.int (iI (CNTV ((PUB (a 11) y z)) 240))]) (fun _ => rfl) 0 rfl rfl rfl (fun _ H locs hp32 hW => ?_)
    exact z_iret hx hb hr hlk hW (⟨PUB (a 11) y z, sm2_1, p13_2⟩) (by unfold A_publish; exact if_neg (by omega)) (show (_ → _) ∧ (_ → _) from ⟨fun _ => ⟨rfl, hp22⟩, fun q9 => absurd (by omega) q9⟩) rfl dX11_publish_35
  · refine lv_aload_n hx hb dX11_publish_14 rfl (lv_at hl 0 rfl) ?_
    refine lv_iload_n hx hb dX11_publish_15 rfl (lv_at hl 1 rfl) ?_
    refine lv_iload_n hx hb dX11_publish_16 rfl (lv_at hl 2 rfl) ?_
    refine z_callV (As := [.int (iI y), .int (iI z)]) (rest := []) F (c_whyNot h q (uV v 0 0) a y z  (show -2147483648 ≤ y ∧ y < 2147483648 by omega) (show -2147483648 ≤ z ∧ z < 2147483648 by omega) hV) gX11_publish_X11_whyNot rfl ziX11_whyNot ⟨rfl, rfl, by decide, by decide⟩ rfl hl.1 rfl (Nat.le_of_ble_eq_true rfl) dX11_publish_17 ⟨Nat.zero_le _, Nat.zero_le _⟩ hW hA [0, 1, 2, 3, 4, 5, 6, 7, 8, 9, 10] rfl (by decide) (fun _ => rfl) (fun _ => mW cI cJ h q (uV v 0 0) a) (fun _ => rfl) (fun _ => [.int (iI (WHY ((a 11)) y z))]) (fun _ => rfl) 0 rfl rfl rfl (fun _ H locs hp17 hW => ?_)
    exact z_iret hx hb hr hlk hW (⟨a 11, v 14, a 13⟩) (by unfold A_publish; exact if_pos (by omega)) (show (_ → _) ∧ (_ → _) from ⟨fun q9 => absurd q9 (by omega), fun _ => ⟨rfl, rfl, rfl⟩⟩) rfl dX11_publish_20
theorem hiX11_would_X11 : ∀ w ∈ wsX110, w ∈ wsX11_would := fun _ h => List.mem_cons_of_mem _ (List.mem_append_right _ h)
theorem ziX11_would : yX11_would.cls = RX11 ∧ yX11_would.cls ≠ "java/lang/invoke/MethodHandle" ∧ yX11_would.cls ≠ "java/lang/invoke/VarHandle" ∧ (parseMethodDescriptor yX11_would.desc).map (fun d => d.parameters.length) = some 3 := by decide +kernel
set_option maxHeartbeats 4000000 in
set_option maxRecDepth 100000 in
theorem c_would {l : Launch} {G : va_G} {cI cJ cO : ClassId} (h : Nat) (q : Nat → Nat) (v : Nat → Int) (a : Nat → Int → Int) (x y z : Int)  (h1 : -2147483648 ≤ x ∧ x < 2147483648) (h2 : -2147483648 ≤ y ∧ y < 2147483648) (h3 : -2147483648 ≤ z ∧ z < 2147483648) (hWF : WF (a 11)) : zC l yX11_would wsX11_would { frames := 7, cells := 0, slots := 0, locals := 160 } G (tyZ cI cJ cO) (S := (Int → Int) × (Int → Int) × (Int → Int) × (Int → Int)) [.ref h, .int (iI x), .int (iI y), .int (iI z)] (mW cI cJ h q v a) (zI (fun _ => A_would (a 11) x y z)) (fun u => True) (fun u => mW cI cJ h q (uV v 0 0) (uA (uA (uA (uA a 16 u.1) 17 u.2.1) 18 u.2.2.1) 19 u.2.2.2)) 0 0 := by
  refine z_start (cc := cX11_would) (maxL := 4) (ret := (some .int)) (by decide) rfl (Nat.le_of_ble_eq_true rfl) ?_
  intro p e s m below meth c A ls F hr hlk hnm hAe hA hW hl
  have hx := F.1
  have hb := F.2.1
  have hown : s.vm.findClass RX11 = some m.cls := F.2.2.2.1
  have hts := F.2.2.2.2
  have hl : lv_has ls 4 [(0, .ref h), (1, .int (iI x)), (2, .int (iI y)), (3, .int (iI z))] := hl
  obtain ⟨w0, w1, w2, hV, hls⟩ := id hWF
  refine lv_aload_n hx hb dX11_would_0 rfl (lv_at hl 0 rfl) ?_
  refine z_iconst (n := 0) hx hb dX11_would_1 ?_
  refine z_put hx hb hts hiX11_would_X11 tyX11 tyX11_ok nmX11 hown hW 0 0 1 rfl rfl (by decide) (Nat.le_of_ble_eq_true rfl) rfl rfl rfl rfl dX11_would_2 (fun H locs hW => ?_)
  have hW : zW G (tyZ cI cJ cO) A s (mW cI cJ h q (uV v 0 0) a) H locs := hW
  refine lv_aload_n hx hb dX11_would_5 rfl (lv_at hl 0 rfl) ?_
  refine lv_iload_n hx hb dX11_would_6 rfl (lv_at hl 1 rfl) ?_
  refine lv_aload_n hx hb dX11_would_7 rfl (lv_at hl 0 rfl) ?_
  refine z_get (v := .ref (q 11)) hx hb hts hiX11_would_X11 hown hW 0 11 2 rfl rfl rfl (by decide) rfl dX11_would_8 ?_
  refine z_iconst (n := 0) hx hb dX11_would_11 ?_
  refine z_iald (f := a 11) (i := 0) hx hb hW 2 0 rfl rfl (by decide) ⟨by omega, by omega⟩ dX11_would_12 ?_
  refine z_callV (As := [.int (iI x), .int (iI ((a 11) 0))]) (rest := []) F (c_isOf h q (uV v 0 0) a x ((a 11) 0)  (show -2147483648 ≤ x ∧ x < 2147483648 by omega) (show -2147483648 ≤ ((a 11) 0) ∧ ((a 11) 0) < 2147483648 by omega) hWF) gX11_would_X11_isOf rfl ziX11_isOf ⟨rfl, rfl, by decide, by decide⟩ rfl hl.1 rfl (Nat.le_of_ble_eq_true rfl) dX11_would_13 ⟨Nat.zero_le _, Nat.zero_le _⟩ hW hA [0, 1, 2, 3, 4, 5, 6, 7, 8, 9, 10] rfl (by decide) (fun _ => rfl) (fun _ => mW cI cJ h q (uV v 0 0) a) (fun _ => rfl) (fun _ => [.int (iI (bI (isO ((a 11)) x ((a 11) 0))))]) (fun _ => rfl) 0 rfl rfl rfl (fun _ H locs hp13 hW => ?_)
  refine z_b_ne (tgt := 21) hx hb dX11_would_16 (by decide) (fun c16 => ?_) (fun c16 => ?_)
  · refine lv_aload_n hx hb dX11_would_21 rfl (lv_at hl 0 rfl) ?_
    refine lv_iload_n hx hb dX11_would_22 rfl (lv_at hl 2 rfl) ?_
    refine lv_iload_n hx hb dX11_would_23 rfl (lv_at hl 3 rfl) ?_
    refine z_callV (As := [.int (iI y), .int (iI z)]) (rest := []) F (c_whyNot h q (uV v 0 0) a y z  (show -2147483648 ≤ y ∧ y < 2147483648 by omega) (show -2147483648 ≤ z ∧ z < 2147483648 by omega) hV) gX11_would_X11_whyNot rfl ziX11_whyNot ⟨rfl, rfl, by decide, by decide⟩ rfl hl.1 rfl (Nat.le_of_ble_eq_true rfl) dX11_would_24 ⟨Nat.zero_le _, Nat.zero_le _⟩ hW hA [0, 1, 2, 3, 4, 5, 6, 7, 8, 9, 10] rfl (by decide) (fun _ => rfl) (fun _ => mW cI cJ h q (uV v 0 0) a) (fun _ => rfl) (fun _ => [.int (iI (WHY ((a 11)) y z))]) (fun _ => rfl) 0 rfl rfl rfl (fun _ H locs hp24 hW => ?_)
    have wr : WHY (a 11) y z = -1 ∨ WHY (a 11) y z = -2 ∨ WHY (a 11) y z = 0 := by unfold WHY; split <;> first | (split <;> omega) | omega
    refine z_if_ge (tgt := 37) hx hb dX11_would_27 (by decide) ⟨by omega, by omega⟩ (fun c27 => ?_) (fun c27 => ?_)
    · have w9 : ((0 ≤ y ∧ y ≤ 239) ∧ (1 ≤ z ∧ z ≤ 9999) ∧ ¬ 0 < a 11 (3 + y)) := by unfold WHY at c27; split at c27; (rename_i q9; exact q9); omega
      have hv := hV y (by omega) (by omega)
      obtain ⟨hL, hT⟩ := hls x (by omega) (by omega)
      obtain ⟨l0, l1, l2, l3, l4, l5, l6, l7, l8, l9, l10, l11, l12, l13, l14, l15⟩ := id hL
      have hP := PUB_WF (y := y) (z := z) hWF (by omega) (by omega)
      have eL : ∀ w : Int, 0 ≤ w → LF (PUB (a 11) y z) x w = LF (a 11) x w := fun w hw => by unfold PUB; rw [LF_uI (by omega), LF_uI (by omega)]
      have e0 : PUB (a 11) y z 0 = a 11 0 := by unfold PUB; rw [uI_n (by omega), uI_n (by omega)]
      have e2 : PUB (a 11) y z 2 = a 11 2 := by unfold PUB; rw [uI_n (by omega), uI_n (by omega)]
      obtain ⟨hL2, hT2⟩ := hP.2.2.2.2 x (by omega) (by omega)
      refine lv_aload_n hx hb dX11_would_37 rfl (lv_at hl 0 rfl) ?_
      refine lv_iload_n hx hb dX11_would_38 rfl (lv_at hl 2 rfl) ?_
      refine lv_iload_n hx hb dX11_would_39 rfl (lv_at hl 3 rfl) ?_
      refine z_callV (As := [.int (iI y), .int (iI z)]) (rest := []) F (c_tells h q (uV v 0 0) a y z  (show 0 ≤ y ∧ y ≤ 239 by omega) (show -2147483648 ≤ z ∧ z < 2147483648 by omega)) gX11_would_X11_tells rfl ziX11_tells ⟨rfl, rfl, by decide, by decide⟩ rfl hl.1 rfl (Nat.le_of_ble_eq_true rfl) dX11_would_40 ⟨Nat.zero_le _, Nat.zero_le _⟩ hW hA [0, 1, 2, 3, 4, 5, 6, 7, 8, 9, 10] rfl (by decide) (fun _ => rfl) (fun u => mW cI cJ h q (uV v 0 0) (uA a 11 u)) (fun _ => rfl) (fun u => []) (fun _ => rfl) 0 rfl rfl rfl (fun u H locs hp40 hW => ?_)
      obtain ⟨n11_1, rfl⟩ : ∃ z, z = u := ⟨_, rfl⟩
      have hp40 : n11_1 = uI (uI ((a 11)) (3 + y) z) (243 + y) (if z = 0 then 0 else (a 11) 0) := hp40
      subst hp40
      have hW : zW G (tyZ cI cJ cO) A s (mW cI cJ h q (uV v 0 0) (uA a 11 (uI (uI ((a 11)) (3 + y) z) (243 + y) (if z = 0 then 0 else (a 11) 0)))) H locs := hW
      rw [if_neg (show ¬ z = 0 by omega)] at hW
      have hW : zW G (tyZ cI cJ cO) A s (mW cI cJ h q (uV v 0 0) (uA a 11 (PUB (a 11) y z))) H locs := hW
      refine lv_aload_n hx hb dX11_would_43 rfl (lv_at hl 0 rfl) ?_
      refine lv_iload_n hx hb dX11_would_44 rfl (lv_at hl 1 rfl) ?_
      refine lv_aload_n hx hb dX11_would_45 rfl (lv_at hl 0 rfl) ?_
      refine z_get (v := .ref (q 11)) hx hb hts hiX11_would_X11 hown hW 0 11 2 rfl rfl rfl (by decide) rfl dX11_would_46 ?_
      refine z_iconst (n := 0) hx hb dX11_would_49 ?_
      refine z_iald (f := PUB (a 11) y z) (i := 0) hx hb hW 2 0 rfl rfl (by decide) ⟨by omega, by omega⟩ dX11_would_50 ?_
      rw [e0]
      refine z_callV (As := [.int (iI x), .int (iI ((a 11) 0))]) (rest := []) F (c_laysRents h q (uV v 0 0) (uA a 11 (PUB (a 11) y z)) x ((a 11) 0)  (show 0 ≤ x ∧ x < 6 by omega) (show -2147483648 ≤ ((a 11) 0) ∧ ((a 11) 0) < 2147483648 by omega) hP.2.2.2.1 hL2 hT2) gX11_would_X11_laysRents rfl ziX11_laysRents ⟨rfl, rfl, by decide, by decide⟩ rfl hl.1 rfl (Nat.le_of_ble_eq_true rfl) dX11_would_51 ⟨Nat.zero_le _, Nat.zero_le _⟩ hW hA [0, 1, 2, 3, 4, 5, 6, 7, 8, 9, 10] rfl (by decide) (fun _ => rfl) (fun u => mW cI cJ h q (uV v 0 0) (uA (uA (uA (uA (uA a 11 (PUB (a 11) y z)) 16 u.1) 17 u.2.1) 18 u.2.2.1) 19 u.2.2.2)) (fun _ => rfl) (fun u => []) (fun _ => rfl) 0 rfl rfl rfl (fun u H locs hp51 hW => ?_)
      obtain ⟨f16_2, f17_3, f18_4, f19_5⟩ := u
      have hp51 : LD ((PUB (a 11) y z)) x ((a 11) 0) (REV ((PUB (a 11) y z)) x + 1) f16_2 f17_3 f18_4 f19_5 := hp51
      have hW : zW G (tyZ cI cJ cO) A s (mW cI cJ h q (uV v 0 0) (uA (uA (uA (uA (uA a 11 (PUB (a 11) y z)) 16 f16_2) 17 f17_3) 18 f18_4) 19 f19_5)) H locs := hW
      refine lv_aload_n hx hb dX11_would_54 rfl (lv_at hl 0 rfl) ?_
      refine lv_iload_n hx hb dX11_would_55 rfl (lv_at hl 2 rfl) ?_
      refine z_iconst (n := 0) hx hb dX11_would_56 ?_
      refine z_callV (As := [.int (iI y), .int (iI 0)]) (rest := []) F (c_tells h q (uV v 0 0) (uA (uA (uA (uA (uA a 11 (PUB (a 11) y z)) 16 f16_2) 17 f17_3) 18 f18_4) 19 f19_5) y 0  (show 0 ≤ y ∧ y ≤ 239 by omega) (show -2147483648 ≤ 0 ∧ 0 < 2147483648 by omega)) gX11_would_X11_tells rfl ziX11_tells ⟨rfl, rfl, by decide, by decide⟩ rfl hl.1 rfl (Nat.le_of_ble_eq_true rfl) dX11_would_57 ⟨Nat.zero_le _, Nat.zero_le _⟩ hW hA [0, 1, 2, 3, 4, 5, 6, 7, 8, 9, 10] rfl (by decide) (fun _ => rfl) (fun u => mW cI cJ h q (uV v 0 0) (uA (uA (uA (uA (uA a 16 f16_2) 17 f17_3) 18 f18_4) 19 f19_5) 11 u)) (fun _ => rfl) (fun u => []) (fun _ => rfl) 0 rfl rfl rfl (fun u H locs hp57 hW => ?_)
      obtain ⟨n11_6, rfl⟩ : ∃ z, z = u := ⟨_, rfl⟩
      have hp57 : n11_6 = uI (uI ((PUB (a 11) y z)) (3 + y) 0) (243 + y) (if 0 = 0 then 0 else (PUB (a 11) y z) 0) := hp57
      subst hp57
      have hW : zW G (tyZ cI cJ cO) A s (mW cI cJ h q (uV v 0 0) (uA (uA (uA (uA (uA a 16 f16_2) 17 f17_3) 18 f18_4) 19 f19_5) 11 (uI (uI ((PUB (a 11) y z)) (3 + y) 0) (243 + y) (if 0 = 0 then 0 else (PUB (a 11) y z) 0)))) H locs := hW
      have eb : uI (uI (PUB (a 11) y z) (3 + y) 0) (243 + y) (if (0 : Nat) = 0 then 0 else (PUB (a 11) y z) 0) = a 11 := by rw [if_pos rfl]; exact PUB_back (by omega) (hv.2.2.2.2 (by omega))
      rw [eb] at hW
      have hW : zW G (tyZ cI cJ cO) A s (mW cI cJ h q (uV v 0 0) (uA (uA (uA (uA a 16 f16_2) 17 f17_3) 18 f18_4) 19 f19_5)) H locs := hW
      refine lv_aload_n hx hb dX11_would_60 rfl (lv_at hl 0 rfl) ?_
      refine lv_iload_n hx hb dX11_would_61 rfl (lv_at hl 1 rfl) ?_
      refine lv_aload_n hx hb dX11_would_62 rfl (lv_at hl 0 rfl) ?_
      refine z_get (v := .ref (q 11)) hx hb hts hiX11_would_X11 hown hW 0 11 2 rfl rfl rfl (by decide) rfl dX11_would_63 ?_
      refine z_iconst (n := 0) hx hb dX11_would_66 ?_
      refine z_iald (f := a 11) (i := 0) hx hb hW 2 0 rfl rfl (by decide) ⟨by omega, by omega⟩ dX11_would_67 ?_
      refine z_callV (As := [.int (iI x), .int (iI ((a 11) 0))]) (rest := []) F (c_rentLaid h q (uV v 0 0) (uA (uA (uA (uA a 16 f16_2) 17 f17_3) 18 f18_4) 19 f19_5) x ((a 11) 0)  (show 0 ≤ x ∧ x < 6 by omega) (show LF ((a 11)) x 0 ≤ ((a 11) 0) ∧ ((a 11) 0) ≤ LF ((a 11)) x 0 + 239 by omega) hL) gX11_would_X11_rentLaid rfl ziX11_rentLaid ⟨rfl, rfl, by decide, by decide⟩ rfl hl.1 rfl (Nat.le_of_ble_eq_true rfl) dX11_would_68 ⟨Nat.zero_le _, Nat.zero_le _⟩ hW hA [0, 1, 2, 3, 4, 5, 6, 7, 8, 9, 10] rfl (by decide) (fun _ => rfl) (fun _ => mW cI cJ h q (uV v 0 0) (uA (uA (uA (uA a 16 f16_2) 17 f17_3) 18 f18_4) 19 f19_5)) (fun _ => rfl) (fun _ => [.int (iI (f17_3 (RVW ((a 11)) x ((a 11) 0))))]) (fun _ => rfl) 0 rfl rfl rfl (fun _ H locs hp68 hW => ?_)
      have hvr := RVW_R (y := a 11 0) hL (by omega) (by omega)
      have er : RVW (PUB (a 11) y z) x (a 11 0) = RVW (a 11) x (a 11 0) := by unfold RVW REV; rw [eL 0 (by decide), eL 1 (by decide), eL 3 (by decide), eL 5 (by decide)]
      have eR : REV (PUB (a 11) y z) x = REV (a 11) x := by unfold REV; rw [eL 1 (by decide), eL 3 (by decide), eL 5 (by decide)]
      exact z_iret hx hb hr hlk hW (⟨f16_2, f17_3, f18_4, f19_5⟩) (by unfold A_would; rw [if_pos c16, if_neg (by omega)]; unfold RNTm; rw [er]; exact ((hp51 _ hvr.1 (by omega)).1).symm) trivial rfl dX11_would_71
    · refine lv_aload_n hx hb dX11_would_30 rfl (lv_at hl 0 rfl) ?_
      refine lv_iload_n hx hb dX11_would_31 rfl (lv_at hl 2 rfl) ?_
      refine lv_iload_n hx hb dX11_would_32 rfl (lv_at hl 3 rfl) ?_
      refine z_callV (As := [.int (iI y), .int (iI z)]) (rest := []) F (c_whyNot h q (uV v 0 0) a y z  (show -2147483648 ≤ y ∧ y < 2147483648 by omega) (show -2147483648 ≤ z ∧ z < 2147483648 by omega) hV) gX11_would_X11_whyNot rfl ziX11_whyNot ⟨rfl, rfl, by decide, by decide⟩ rfl hl.1 rfl (Nat.le_of_ble_eq_true rfl) dX11_would_33 ⟨Nat.zero_le _, Nat.zero_le _⟩ hW hA [0, 1, 2, 3, 4, 5, 6, 7, 8, 9, 10] rfl (by decide) (fun _ => rfl) (fun _ => mW cI cJ h q (uV v 0 0) a) (fun _ => rfl) (fun _ => [.int (iI (WHY ((a 11)) y z))]) (fun _ => rfl) 0 rfl rfl rfl (fun _ H locs hp33 hW => ?_)
      exact z_iret hx hb hr hlk hW (⟨a 16, a 17, a 18, a 19⟩) (by unfold A_would; rw [if_pos c16]; exact if_pos (by omega)) trivial rfl dX11_would_36
  · refine z_iconst (n := -1) hx hb dX11_would_19 ?_
    exact z_iret hx hb hr hlk hW (⟨a 16, a 17, a 18, a 19⟩) (by unfold A_would; exact if_neg c16) trivial rfl dX11_would_20
theorem hiX11_market_X11 : ∀ w ∈ wsX110, w ∈ wsX11_market := fun _ h => List.mem_cons_of_mem _ (List.mem_append_right _ h)
theorem ziX11_market : yX11_market.cls = RX11 ∧ yX11_market.cls ≠ "java/lang/invoke/MethodHandle" ∧ yX11_market.cls ≠ "java/lang/invoke/VarHandle" ∧ (parseMethodDescriptor yX11_market.desc).map (fun d => d.parameters.length) = some 3 := by decide +kernel
set_option maxHeartbeats 4000000 in
set_option maxRecDepth 100000 in
theorem c_market {l : Launch} {G : va_G} {cI cJ cO : ClassId} (h : Nat) (q : Nat → Nat) (v : Nat → Int) (a : Nat → Int → Int) (x r z : Int)  (h1 : -2147483648 ≤ x ∧ x < 2147483648) (h2 : -2147483648 ≤ r ∧ r < 2147483648) (h3 : -2147483648 ≤ z ∧ z < 2147483648) (h14 : 0 ≤ v 14 ∧ v 14 ≤ 10) (hWF : WF (a 11)) : zC l yX11_market wsX11_market { frames := 2, cells := 0, slots := 0, locals := 44 } G (tyZ cI cJ cO) (S := (Int → Int) × Int × (Int → Int)) [.ref h, .int (iI x), .int (iI r), .int (iI z)] (mW cI cJ h q v a) (zI (fun _ => if okM (a 11) x r z then LF (a 11) x 0 + r * LF (a 11) x 3 else -1)) (fun u => ((okM (a 11) x r z) → u.1 = MKT (a 11) x r z ∧ SNAPPED (a 13) (a 11) (v 14) u.2.2 u.2.1) ∧ (¬ (okM (a 11) x r z) → u.1 = a 11 ∧ u.2.2 = a 13 ∧ u.2.1 = v 14)) (fun u => mW cI cJ h q (uV (uV v 0 0) 14 u.2.1) (uA (uA a 11 u.1) 13 u.2.2)) 0 0 := by
  refine z_start (cc := cX11_market) (maxL := 4) (ret := (some .int)) (by decide) rfl (Nat.le_of_ble_eq_true rfl) ?_
  intro p e s m below meth c A ls F hr hlk hnm hAe hA hW hl
  have hx := F.1
  have hb := F.2.1
  have hown : s.vm.findClass RX11 = some m.cls := F.2.2.2.1
  have hts := F.2.2.2.2
  have hl : lv_has ls 4 [(0, .ref h), (1, .int (iI x)), (2, .int (iI r)), (3, .int (iI z))] := hl
  obtain ⟨w0, w1, w2, hV, hls⟩ := id hWF
  refine lv_aload_n hx hb dX11_market_0 rfl (lv_at hl 0 rfl) ?_
  refine z_iconst (n := 0) hx hb dX11_market_1 ?_
  refine z_put hx hb hts hiX11_market_X11 tyX11 tyX11_ok nmX11 hown hW 0 0 1 rfl rfl (by decide) (Nat.le_of_ble_eq_true rfl) rfl rfl rfl rfl dX11_market_2 (fun H locs hW => ?_)
  have hW : zW G (tyZ cI cJ cO) A s (mW cI cJ h q (uV v 0 0) a) H locs := hW
  refine lv_aload_n hx hb dX11_market_5 rfl (lv_at hl 0 rfl) ?_
  refine lv_iload_n hx hb dX11_market_6 rfl (lv_at hl 1 rfl) ?_
  refine z_callV (As := [.int (iI x)]) (rest := []) F (c_isLease h q (uV v 0 0) a x  (show -2147483648 ≤ x ∧ x < 2147483648 by omega) (show 0 ≤ (a 11) 2 ∧ (a 11) 2 ≤ 6 by omega)) gX11_market_X11_isLease rfl ziX11_isLease ⟨rfl, rfl, by decide, by decide⟩ rfl hl.1 rfl (Nat.le_of_ble_eq_true rfl) dX11_market_7 ⟨Nat.zero_le _, Nat.zero_le _⟩ hW hA [0, 1, 2, 3, 4, 5, 6, 7, 8, 9, 10] rfl (by decide) (fun _ => rfl) (fun _ => mW cI cJ h q (uV v 0 0) a) (fun _ => rfl) (fun _ => [.int (iI (bI (0 ≤ x ∧ x ≤ (a 11) 2 - 1)))]) (fun _ => rfl) 0 rfl rfl rfl (fun _ H locs hp7 hW => ?_)
  refine z_b_eq (tgt := 58) hx hb dX11_market_10 (by decide) (fun c10 => ?_) (fun c10 => ?_)
  · refine z_iconst (n := -1) hx hb dX11_market_58 ?_
    exact z_iret hx hb hr hlk hW (⟨a 11, v 14, a 13⟩) (by exact if_neg (fun q9 => by first | exact c10 q9.1 | exact c20 q9.2.1 | exact c33 q9.2.2.1 | exact c43 q9.2.2.2.1 | (have q8 := q9.2.2.2.2; omega))) (show (_ → _) ∧ (_ → _) from ⟨fun q9 => absurd q9 (fun q9 => by first | exact c10 q9.1 | exact c20 q9.2.1 | exact c33 q9.2.2.1 | exact c43 q9.2.2.2.1 | (have q8 := q9.2.2.2.2; omega)), fun _ => ⟨rfl, rfl, rfl⟩⟩) rfl dX11_market_59
  · obtain ⟨hL, hT⟩ := hls x (by omega) (by omega)
    obtain ⟨l0, l1, l2, l3, l4, l5, l6, l7, l8, l9, l10, l11, l12, l13, l14, l15⟩ := id hL
    have hR := REV_R hL
    refine lv_aload_n hx hb dX11_market_13 rfl (lv_at hl 0 rfl) ?_
    refine lv_iload_n hx hb dX11_market_14 rfl (lv_at hl 1 rfl) ?_
    refine z_iconst (n := 5) hx hb dX11_market_15 ?_
    refine z_callV (As := [.int (iI x), .int (iI 5)]) (rest := []) F (c_its h q (uV v 0 0) a x 5  (show 0 ≤ 483 + 500 * x + 5 ∧ 483 + 500 * x + 5 < 3483 by omega)) gX11_market_X11_its rfl ziX11_its ⟨rfl, rfl, by decide, by decide⟩ rfl hl.1 rfl (Nat.le_of_ble_eq_true rfl) dX11_market_16 ⟨Nat.zero_le _, Nat.zero_le _⟩ hW hA [0, 1, 2, 3, 4, 5, 6, 7, 8, 9, 10] rfl (by decide) (fun _ => rfl) (fun _ => mW cI cJ h q (uV v 0 0) a) (fun _ => rfl) (fun _ => [.int (iI (LF ((a 11)) x 5))]) (fun _ => rfl) 0 rfl rfl rfl (fun _ H locs hp16 hW => ?_)
    refine z_iconst (n := 2) hx hb dX11_market_19 ?_
    refine z_icmp_ne (tgt := 58) hx hb dX11_market_20 (by decide) ⟨by omega, by omega⟩ (by decide) (fun c20 => ?_) (fun c20 => ?_)
    · refine z_iconst (n := -1) hx hb dX11_market_58 ?_
      exact z_iret hx hb hr hlk hW (⟨a 11, v 14, a 13⟩) (by exact if_neg (fun q9 => by first | exact c10 q9.1 | exact c20 q9.2.1 | exact c33 q9.2.2.1 | exact c43 q9.2.2.2.1 | (have q8 := q9.2.2.2.2; omega))) (show (_ → _) ∧ (_ → _) from ⟨fun q9 => absurd q9 (fun q9 => by first | exact c10 q9.1 | exact c20 q9.2.1 | exact c33 q9.2.2.1 | exact c43 q9.2.2.2.1 | (have q8 := q9.2.2.2.2; omega)), fun _ => ⟨rfl, rfl, rfl⟩⟩) rfl dX11_market_59
    · refine lv_iload_n hx hb dX11_market_23 rfl (lv_at hl 2 rfl) ?_
      refine z_iconst (n := 1) hx hb dX11_market_24 ?_
      refine lv_aload_n hx hb dX11_market_25 rfl (lv_at hl 0 rfl) ?_
      refine lv_iload_n hx hb dX11_market_26 rfl (lv_at hl 1 rfl) ?_
      refine z_callV (As := [.int (iI x)]) (rest := [.int (iI 1), .int (iI r)]) F (c_reviewsOf h q (uV v 0 0) a x  (show 0 ≤ x ∧ x < 6 by omega) (show 0 ≤ LF ((a 11)) x 5 ∧ LF ((a 11)) x 5 ≤ 4 by omega) (show 1 ≤ LF ((a 11)) x 1 ∧ LF ((a 11)) x 1 ≤ 120 by omega) (show 1 ≤ LF ((a 11)) x 3 ∧ LF ((a 11)) x 3 ≤ 60 by omega)) gX11_market_X11_reviewsOf rfl ziX11_reviewsOf ⟨rfl, rfl, by decide, by decide⟩ rfl hl.1 rfl (Nat.le_of_ble_eq_true rfl) dX11_market_27 ⟨Nat.zero_le _, Nat.zero_le _⟩ hW hA [0, 1, 2, 3, 4, 5, 6, 7, 8, 9, 10] rfl (by decide) (fun _ => rfl) (fun _ => mW cI cJ h q (uV v 0 0) a) (fun _ => rfl) (fun _ => [.int (iI (REV ((a 11)) x)), .int (iI 1), .int (iI r)]) (fun _ => rfl) 0 rfl rfl rfl (fun _ H locs hp27 hW => ?_)
      refine z_callS (As := [.int (iI r), .int (iI 1), .int (iI (REV ((a 11)) x))]) (rest := []) F (c_isIn r 1 (REV ((a 11)) x)  (show -2147483648 ≤ r ∧ r < 2147483648 by omega) (show -2147483648 ≤ 1 ∧ 1 < 2147483648 by omega) (show -2147483648 ≤ (REV ((a 11)) x) ∧ (REV ((a 11)) x) < 2147483648 by omega)) gX11_market_X11_isIn rfl ziX11_isIn ⟨rfl, rfl, by decide, by decide⟩ rfl hl.1 rfl (Nat.le_of_ble_eq_true rfl) dX11_market_30 ⟨Nat.zero_le _, Nat.zero_le _⟩ hW hA [] rfl (by decide) (fun _ => rfl) (fun _ => mW cI cJ h q (uV v 0 0) a) (fun _ => rfl) (fun _ => [.int (iI (bI (1 ≤ r ∧ r ≤ (REV ((a 11)) x))))]) (fun _ => rfl) (fun _ H locs hp30 hW => ?_)
      refine z_b_eq (tgt := 58) hx hb dX11_market_33 (by decide) (fun c33 => ?_) (fun c33 => ?_)
      · refine z_iconst (n := -1) hx hb dX11_market_58 ?_
        exact z_iret hx hb hr hlk hW (⟨a 11, v 14, a 13⟩) (by exact if_neg (fun q9 => by first | exact c10 q9.1 | exact c20 q9.2.1 | exact c33 q9.2.2.1 | exact c43 q9.2.2.2.1 | (have q8 := q9.2.2.2.2; omega))) (show (_ → _) ∧ (_ → _) from ⟨fun q9 => absurd q9 (fun q9 => by first | exact c10 q9.1 | exact c20 q9.2.1 | exact c33 q9.2.2.1 | exact c43 q9.2.2.2.1 | (have q8 := q9.2.2.2.2; omega)), fun _ => ⟨rfl, rfl, rfl⟩⟩) rfl dX11_market_59
      · refine lv_iload_n hx hb dX11_market_36 rfl (lv_at hl 3 rfl) ?_
        refine z_iconst (n := 1) hx hb dX11_market_37 ?_
        refine z_ldc hx hb (99999) hown (hts _ (List.mem_of_getElem? (i := 2) rfl)) (by decide +kernel) dX11_market_38 ?_
        refine z_callS (As := [.int (iI z), .int (iI 1), .int (iI 99999)]) (rest := []) F (c_isIn z 1 99999  (show -2147483648 ≤ z ∧ z < 2147483648 by omega) (show -2147483648 ≤ 1 ∧ 1 < 2147483648 by omega) (show -2147483648 ≤ 99999 ∧ 99999 < 2147483648 by omega)) gX11_market_X11_isIn rfl ziX11_isIn ⟨rfl, rfl, by decide, by decide⟩ rfl hl.1 rfl (Nat.le_of_ble_eq_true rfl) dX11_market_40 ⟨Nat.zero_le _, Nat.zero_le _⟩ hW hA [] rfl (by decide) (fun _ => rfl) (fun _ => mW cI cJ h q (uV v 0 0) a) (fun _ => rfl) (fun _ => [.int (iI (bI (1 ≤ z ∧ z ≤ 99999)))]) (fun _ => rfl) (fun _ H locs hp40 hW => ?_)
        refine z_b_eq (tgt := 58) hx hb dX11_market_43 (by decide) (fun c43 => ?_) (fun c43 => ?_)
        · refine z_iconst (n := -1) hx hb dX11_market_58 ?_
          exact z_iret hx hb hr hlk hW (⟨a 11, v 14, a 13⟩) (by exact if_neg (fun q9 => by first | exact c10 q9.1 | exact c20 q9.2.1 | exact c33 q9.2.2.1 | exact c43 q9.2.2.2.1 | (have q8 := q9.2.2.2.2; omega))) (show (_ → _) ∧ (_ → _) from ⟨fun q9 => absurd q9 (fun q9 => by first | exact c10 q9.1 | exact c20 q9.2.1 | exact c33 q9.2.2.1 | exact c43 q9.2.2.2.1 | (have q8 := q9.2.2.2.2; omega)), fun _ => ⟨rfl, rfl, rfl⟩⟩) rfl dX11_market_59
        · have ht := hT r (by omega) (by omega)
          refine lv_aload_n hx hb dX11_market_46 rfl (lv_at hl 0 rfl) ?_
          refine lv_iload_n hx hb dX11_market_47 rfl (lv_at hl 1 rfl) ?_
          refine z_bipush hx hb dX11_market_48 (by decide +kernel) ?_
          refine lv_iload_n hx hb dX11_market_50 rfl (lv_at hl 2 rfl) ?_
          refine z_iadd hx hb dX11_market_51 ?_
          refine z_callV (As := [.int (iI x), .int (iI (20 + r))]) (rest := []) F (c_its h q (uV v 0 0) a x (20 + r)  (show 0 ≤ 483 + 500 * x + (20 + r) ∧ 483 + 500 * x + (20 + r) < 3483 by omega)) gX11_market_X11_its rfl ziX11_its ⟨rfl, rfl, by decide, by decide⟩ rfl hl.1 rfl (Nat.le_of_ble_eq_true rfl) dX11_market_52 ⟨Nat.zero_le _, Nat.zero_le _⟩ hW hA [0, 1, 2, 3, 4, 5, 6, 7, 8, 9, 10] rfl (by decide) (fun _ => rfl) (fun _ => mW cI cJ h q (uV v 0 0) a) (fun _ => rfl) (fun _ => [.int (iI (LF ((a 11)) x (20 + r)))]) (fun _ => rfl) 0 rfl rfl rfl (fun _ H locs hp52 hW => ?_)
          refine z_if_le (tgt := 60) hx hb dX11_market_55 (by decide) ⟨by omega, by omega⟩ (fun c55 => ?_) (fun c55 => ?_)
          · refine lv_aload_n hx hb dX11_market_60 rfl (lv_at hl 0 rfl) ?_
            refine z_callV (As := []) (rest := []) F (c_snap h q (uV v 0 0) a   (show 0 ≤ (v 14) ∧ (v 14) ≤ 10 by omega)) gX11_market_X11_snap rfl ziX11_snap ⟨rfl, rfl, by decide, by decide⟩ rfl hl.1 rfl (Nat.le_of_ble_eq_true rfl) dX11_market_61 ⟨Nat.zero_le _, Nat.zero_le _⟩ hW hA [0, 1, 2, 3, 4, 5, 6, 7, 8, 9, 10] rfl (by decide) (fun _ => rfl) (fun u => mW cI cJ h q (uV (uV v 0 0) 14 u.1) (uA a 13 u.2)) (fun _ => rfl) (fun u => []) (fun _ => rfl) 0 rfl rfl rfl (fun u H locs hp61 hW => ?_)
            obtain ⟨sm2_1, p13_2⟩ := u
            have hp61 : SNAPPED ((a 13)) ((a 11)) ((v 14)) p13_2 sm2_1 := hp61
            have hW : zW G (tyZ cI cJ cO) A s (mW cI cJ h q (uV (uV v 0 0) 14 sm2_1) (uA a 13 p13_2)) H locs := hW
            refine lv_aload_n hx hb dX11_market_64 rfl (lv_at hl 0 rfl) ?_
            refine z_get (v := .ref (q 11)) hx hb hts hiX11_market_X11 hown hW 0 11 3 rfl rfl rfl (by decide) rfl dX11_market_65 ?_
            refine z_sipush hx hb dX11_market_68 (by decide +kernel) ?_
            refine z_sipush hx hb dX11_market_71 (by decide +kernel) ?_
            refine lv_iload_n hx hb dX11_market_74 rfl (lv_at hl 1 rfl) ?_
            refine z_imul hx hb dX11_market_75 ?_
            refine z_iadd hx hb dX11_market_76 ?_
            refine z_bipush hx hb dX11_market_77 (by decide +kernel) ?_
            refine z_iadd hx hb dX11_market_79 ?_
            refine lv_iload_n hx hb dX11_market_80 rfl (lv_at hl 2 rfl) ?_
            refine z_iadd hx hb dX11_market_81 ?_
            refine lv_iload_n hx hb dX11_market_82 rfl (lv_at hl 3 rfl) ?_
            refine z_iast (f := a 11) (i := ((483 + (500 * x)) + 20) + r) (z := z) hx hb hW 2 0 rfl rfl (by decide) ⟨by omega, by omega⟩ dX11_market_83 (fun H locs hW => ?_)
            have hW : zW G (tyZ cI cJ cO) A s (mW cI cJ h q (uV (uV v 0 0) 14 sm2_1) (uA (uA a 13 p13_2) 11 (uI (a 11) (((483 + (500 * x)) + 20) + r) z))) H locs := hW
            refine lv_aload_n hx hb dX11_market_84 rfl (lv_at hl 0 rfl) ?_
            refine z_get (v := .ref (q 11)) hx hb hts hiX11_market_X11 hown hW 0 11 3 rfl rfl rfl (by decide) rfl dX11_market_85 ?_
            refine z_sipush hx hb dX11_market_88 (by decide +kernel) ?_
            refine z_sipush hx hb dX11_market_91 (by decide +kernel) ?_
            refine lv_iload_n hx hb dX11_market_94 rfl (lv_at hl 1 rfl) ?_
            refine z_imul hx hb dX11_market_95 ?_
            refine z_iadd hx hb dX11_market_96 ?_
            refine z_sipush hx hb dX11_market_97 (by decide +kernel) ?_
            refine z_iadd hx hb dX11_market_100 ?_
            refine lv_iload_n hx hb dX11_market_101 rfl (lv_at hl 2 rfl) ?_
            refine z_iadd hx hb dX11_market_102 ?_
            refine lv_aload_n hx hb dX11_market_103 rfl (lv_at hl 0 rfl) ?_
            refine z_get (v := .ref (q 11)) hx hb hts hiX11_market_X11 hown hW 0 11 3 rfl rfl rfl (by decide) rfl dX11_market_104 ?_
            refine z_iconst (n := 0) hx hb dX11_market_107 ?_
            refine z_iald (f := uI (a 11) (((483 + (500 * x)) + 20) + r) z) (i := 0) hx hb hW 2 0 rfl rfl (by decide) ⟨by omega, by omega⟩ dX11_market_108 ?_
            rw [uI_n (f := a 11) (i := ((483 + (500 * x)) + 20) + r) (j := 0) (z := z) (by omega)]
            refine z_iast (f := uI (a 11) (((483 + (500 * x)) + 20) + r) z) (i := ((483 + (500 * x)) + 140) + r) (z := (a 11) 0) hx hb hW 2 0 rfl rfl (by decide) ⟨by omega, by omega⟩ dX11_market_109 (fun H locs hW => ?_)
            have hW : zW G (tyZ cI cJ cO) A s (mW cI cJ h q (uV (uV v 0 0) 14 sm2_1) (uA (uA a 13 p13_2) 11 (uI (uI (a 11) (((483 + (500 * x)) + 20) + r) z) (((483 + (500 * x)) + 140) + r) ((a 11) 0)))) H locs := hW
            refine lv_aload_n hx hb dX11_market_110 rfl (lv_at hl 0 rfl) ?_
            refine lv_iload_n hx hb dX11_market_111 rfl (lv_at hl 1 rfl) ?_
            refine lv_iload_n hx hb dX11_market_112 rfl (lv_at hl 2 rfl) ?_
            refine z_callV (As := [.int (iI x), .int (iI r)]) (rest := []) F (c_monthOf h q (uV (uV v 0 0) 14 sm2_1) (uA (uA a 13 p13_2) 11 (uI (uI (a 11) (((483 + (500 * x)) + 20) + r) z) (((483 + (500 * x)) + 140) + r) ((a 11) 0))) x r  (show 0 ≤ x ∧ x < 6 by omega)) gX11_market_X11_monthOf rfl ziX11_monthOf ⟨rfl, rfl, by decide, by decide⟩ rfl hl.1 rfl (Nat.le_of_ble_eq_true rfl) dX11_market_113 ⟨Nat.zero_le _, Nat.zero_le _⟩ hW hA [0, 1, 2, 3, 4, 5, 6, 7, 8, 9, 10] rfl (by decide) (fun _ => rfl) (fun _ => mW cI cJ h q (uV (uV v 0 0) 14 sm2_1) (uA (uA a 13 p13_2) 11 (uI (uI (a 11) (((483 + (500 * x)) + 20) + r) z) (((483 + (500 * x)) + 140) + r) ((a 11) 0)))) (fun _ => rfl) (fun _ => [.int (iI (LF ((uI (uI (a 11) (((483 + (500 * x)) + 20) + r) z) (((483 + (500 * x)) + 140) + r) ((a 11) 0))) x 0 + r * LF ((uI (uI (a 11) (((483 + (500 * x)) + 20) + r) z) (((483 + (500 * x)) + 140) + r) ((a 11) 0))) x 3))]) (fun _ => rfl) 0 rfl rfl rfl (fun _ H locs hp113 hW => ?_)
            exact z_iret hx hb hr hlk hW (⟨uI (uI (a 11) (((483 + (500 * x)) + 20) + r) z) (((483 + (500 * x)) + 140) + r) ((a 11) 0), sm2_1, p13_2⟩) (by rw [if_pos ⟨c10, c20, c33, c43, by omega⟩, LF_uI (by omega), LF_uI (by omega), LF_uI (by omega), LF_uI (by omega)]) (show (_ → _) ∧ (_ → _) from ⟨fun _ => ⟨rfl, hp61⟩, fun q9 => absurd ⟨c10, c20, c33, c43, by omega⟩ q9⟩) rfl dX11_market_116
          · refine z_iconst (n := -1) hx hb dX11_market_58 ?_
            exact z_iret hx hb hr hlk hW (⟨a 11, v 14, a 13⟩) (by exact if_neg (fun q9 => by first | exact c10 q9.1 | exact c20 q9.2.1 | exact c33 q9.2.2.1 | exact c43 q9.2.2.2.1 | (have q8 := q9.2.2.2.2; omega))) (show (_ → _) ∧ (_ → _) from ⟨fun q9 => absurd q9 (fun q9 => by first | exact c10 q9.1 | exact c20 q9.2.1 | exact c33 q9.2.2.1 | exact c43 q9.2.2.2.1 | (have q8 := q9.2.2.2.2; omega)), fun _ => ⟨rfl, rfl, rfl⟩⟩) rfl dX11_market_59
theorem hiX11_turnover_X11 : ∀ w ∈ wsX110, w ∈ wsX11_turnover := fun _ h => List.mem_cons_of_mem _ (List.mem_append_right _ h)
theorem ziX11_turnover : yX11_turnover.cls = RX11 ∧ yX11_turnover.cls ≠ "java/lang/invoke/MethodHandle" ∧ yX11_turnover.cls ≠ "java/lang/invoke/VarHandle" ∧ (parseMethodDescriptor yX11_turnover.desc).map (fun d => d.parameters.length) = some 3 := by decide +kernel
set_option maxHeartbeats 4000000 in
set_option maxRecDepth 100000 in
theorem c_turnover {l : Launch} {G : va_G} {cI cJ cO : ClassId} (h : Nat) (q : Nat → Nat) (v : Nat → Int) (a : Nat → Int → Int) (x y z : Int)  (h1 : -2147483648 ≤ x ∧ x < 2147483648) (h2 : -2147483648 ≤ y ∧ y < 2147483648) (h3 : -2147483648 ≤ z ∧ z < 2147483648) (h14 : 0 ≤ v 14 ∧ v 14 ≤ 10) (hWF : WF (a 11)) : zC l yX11_turnover wsX11_turnover { frames := 3, cells := 0, slots := 0, locals := 65 } G (tyZ cI cJ cO) (S := (Int → Int) × Int × (Int → Int)) [.ref h, .int (iI x), .int (iI y), .int (iI z)] (mW cI cJ h q v a) (zI (fun _ => bI (okT (a 11) x y z))) (fun u => ((okT (a 11) x y z) → u.1 = TRN (a 11) x y z ∧ SNAPPED (a 13) (a 11) (v 14) u.2.2 u.2.1) ∧ (¬ (okT (a 11) x y z) → u.1 = a 11 ∧ u.2.2 = a 13 ∧ u.2.1 = v 14)) (fun u => mW cI cJ h q (uV (uV v 0 0) 14 u.2.1) (uA (uA a 11 u.1) 13 u.2.2)) 0 0 := by
  refine z_start (cc := cX11_turnover) (maxL := 4) (ret := (some .boolean)) (by decide) rfl (Nat.le_of_ble_eq_true rfl) ?_
  intro p e s m below meth c A ls F hr hlk hnm hAe hA hW hl
  have hx := F.1
  have hb := F.2.1
  have hown : s.vm.findClass RX11 = some m.cls := F.2.2.2.1
  have hts := F.2.2.2.2
  have hl : lv_has ls 4 [(0, .ref h), (1, .int (iI x)), (2, .int (iI y)), (3, .int (iI z))] := hl
  obtain ⟨w0, w1, w2, hV, hls⟩ := id hWF
  refine lv_aload_n hx hb dX11_turnover_0 rfl (lv_at hl 0 rfl) ?_
  refine z_iconst (n := 0) hx hb dX11_turnover_1 ?_
  refine z_put hx hb hts hiX11_turnover_X11 tyX11 tyX11_ok nmX11 hown hW 0 0 1 rfl rfl (by decide) (Nat.le_of_ble_eq_true rfl) rfl rfl rfl rfl dX11_turnover_2 (fun H locs hW => ?_)
  have hW : zW G (tyZ cI cJ cO) A s (mW cI cJ h q (uV v 0 0) a) H locs := hW
  refine lv_aload_n hx hb dX11_turnover_5 rfl (lv_at hl 0 rfl) ?_
  refine lv_iload_n hx hb dX11_turnover_6 rfl (lv_at hl 1 rfl) ?_
  refine lv_iload_n hx hb dX11_turnover_7 rfl (lv_at hl 2 rfl) ?_
  refine z_callV (As := [.int (iI x), .int (iI y)]) (rest := []) F (c_isOf h q (uV v 0 0) a x y  (show -2147483648 ≤ x ∧ x < 2147483648 by omega) (show -2147483648 ≤ y ∧ y < 2147483648 by omega) hWF) gX11_turnover_X11_isOf rfl ziX11_isOf ⟨rfl, rfl, by decide, by decide⟩ rfl hl.1 rfl (Nat.le_of_ble_eq_true rfl) dX11_turnover_8 ⟨Nat.zero_le _, Nat.zero_le _⟩ hW hA [0, 1, 2, 3, 4, 5, 6, 7, 8, 9, 10] rfl (by decide) (fun _ => rfl) (fun _ => mW cI cJ h q (uV v 0 0) a) (fun _ => rfl) (fun _ => [.int (iI (bI (isO ((a 11)) x y)))]) (fun _ => rfl) 0 rfl rfl rfl (fun _ H locs hp8 hW => ?_)
  refine z_b_eq (tgt := 54) hx hb dX11_turnover_11 (by decide) (fun c11 => ?_) (fun c11 => ?_)
  · refine z_iconst (n := 0) hx hb dX11_turnover_54 ?_
    exact z_zret hx hb hr hlk (by first | exact Or.inl rfl | exact Or.inr rfl | omega) hW (⟨a 11, v 14, a 13⟩) (bI_f (fun q9 => by first | exact c11 q9.1 | exact c21 q9.2.1 | exact c31 q9.2.2.1 | (have q8 := q9.2.2.2; omega))) (show (_ → _) ∧ (_ → _) from ⟨fun q9 => absurd q9 (fun q9 => by first | exact c11 q9.1 | exact c21 q9.2.1 | exact c31 q9.2.2.1 | (have q8 := q9.2.2.2; omega)), fun _ => ⟨rfl, rfl, rfl⟩⟩) rfl dX11_turnover_55
  · obtain ⟨hL, hT⟩ := hls x (by omega) (by omega)
    obtain ⟨l0, l1, l2, l3, l4, l5, l6, l7, l8, l9, l10, l11, l12, l13, l14, l15⟩ := id hL
    refine lv_aload_n hx hb dX11_turnover_14 rfl (lv_at hl 0 rfl) ?_
    refine lv_iload_n hx hb dX11_turnover_15 rfl (lv_at hl 1 rfl) ?_
    refine z_iconst (n := 5) hx hb dX11_turnover_16 ?_
    refine z_callV (As := [.int (iI x), .int (iI 5)]) (rest := []) F (c_its h q (uV v 0 0) a x 5  (show 0 ≤ 483 + 500 * x + 5 ∧ 483 + 500 * x + 5 < 3483 by omega)) gX11_turnover_X11_its rfl ziX11_its ⟨rfl, rfl, by decide, by decide⟩ rfl hl.1 rfl (Nat.le_of_ble_eq_true rfl) dX11_turnover_17 ⟨Nat.zero_le _, Nat.zero_le _⟩ hW hA [0, 1, 2, 3, 4, 5, 6, 7, 8, 9, 10] rfl (by decide) (fun _ => rfl) (fun _ => mW cI cJ h q (uV v 0 0) a) (fun _ => rfl) (fun _ => [.int (iI (LF ((a 11)) x 5))]) (fun _ => rfl) 0 rfl rfl rfl (fun _ H locs hp17 hW => ?_)
    refine z_iconst (n := 3) hx hb dX11_turnover_20 ?_
    refine z_icmp_ne (tgt := 54) hx hb dX11_turnover_21 (by decide) ⟨by omega, by omega⟩ (by decide) (fun c21 => ?_) (fun c21 => ?_)
    · refine z_iconst (n := 0) hx hb dX11_turnover_54 ?_
      exact z_zret hx hb hr hlk (by first | exact Or.inl rfl | exact Or.inr rfl | omega) hW (⟨a 11, v 14, a 13⟩) (bI_f (fun q9 => by first | exact c11 q9.1 | exact c21 q9.2.1 | exact c31 q9.2.2.1 | (have q8 := q9.2.2.2; omega))) (show (_ → _) ∧ (_ → _) from ⟨fun q9 => absurd q9 (fun q9 => by first | exact c11 q9.1 | exact c21 q9.2.1 | exact c31 q9.2.2.1 | (have q8 := q9.2.2.2; omega)), fun _ => ⟨rfl, rfl, rfl⟩⟩) rfl dX11_turnover_55
    · refine lv_iload_n hx hb dX11_turnover_24 rfl (lv_at hl 3 rfl) ?_
      refine z_iconst (n := 0) hx hb dX11_turnover_25 ?_
      refine z_ldc hx hb (999999) hown (hts _ (List.mem_of_getElem? (i := 2) rfl)) (by decide +kernel) dX11_turnover_26 ?_
      refine z_callS (As := [.int (iI z), .int (iI 0), .int (iI 999999)]) (rest := []) F (c_isIn z 0 999999  (show -2147483648 ≤ z ∧ z < 2147483648 by omega) (show -2147483648 ≤ 0 ∧ 0 < 2147483648 by omega) (show -2147483648 ≤ 999999 ∧ 999999 < 2147483648 by omega)) gX11_turnover_X11_isIn rfl ziX11_isIn ⟨rfl, rfl, by decide, by decide⟩ rfl hl.1 rfl (Nat.le_of_ble_eq_true rfl) dX11_turnover_28 ⟨Nat.zero_le _, Nat.zero_le _⟩ hW hA [] rfl (by decide) (fun _ => rfl) (fun _ => mW cI cJ h q (uV v 0 0) a) (fun _ => rfl) (fun _ => [.int (iI (bI (0 ≤ z ∧ z ≤ 999999)))]) (fun _ => rfl) (fun _ H locs hp28 hW => ?_)
      refine z_b_eq (tgt := 54) hx hb dX11_turnover_31 (by decide) (fun c31 => ?_) (fun c31 => ?_)
      · refine z_iconst (n := 0) hx hb dX11_turnover_54 ?_
        exact z_zret hx hb hr hlk (by first | exact Or.inl rfl | exact Or.inr rfl | omega) hW (⟨a 11, v 14, a 13⟩) (bI_f (fun q9 => by first | exact c11 q9.1 | exact c21 q9.2.1 | exact c31 q9.2.2.1 | (have q8 := q9.2.2.2; omega))) (show (_ → _) ∧ (_ → _) from ⟨fun q9 => absurd q9 (fun q9 => by first | exact c11 q9.1 | exact c21 q9.2.1 | exact c31 q9.2.2.1 | (have q8 := q9.2.2.2; omega)), fun _ => ⟨rfl, rfl, rfl⟩⟩) rfl dX11_turnover_55
      · have ht := hT (y - LF (a 11) x 0) (by omega) (by omega)
        rw [show 260 + (y - LF (a 11) x 0) = 260 + y - LF (a 11) x 0 by omega, show 380 + (y - LF (a 11) x 0) = 380 + y - LF (a 11) x 0 by omega] at ht
        refine lv_aload_n hx hb dX11_turnover_34 rfl (lv_at hl 0 rfl) ?_
        refine lv_iload_n hx hb dX11_turnover_35 rfl (lv_at hl 1 rfl) ?_
        refine z_sipush hx hb dX11_turnover_36 (by decide +kernel) ?_
        refine lv_iload_n hx hb dX11_turnover_39 rfl (lv_at hl 2 rfl) ?_
        refine z_iadd hx hb dX11_turnover_40 ?_
        refine lv_aload_n hx hb dX11_turnover_41 rfl (lv_at hl 0 rfl) ?_
        refine lv_iload_n hx hb dX11_turnover_42 rfl (lv_at hl 1 rfl) ?_
        refine z_iconst (n := 0) hx hb dX11_turnover_43 ?_
        refine z_callV (As := [.int (iI x), .int (iI 0)]) (rest := [.int (iI (260 + y)), .int (iI x), .ref h]) F (c_its h q (uV v 0 0) a x 0  (show 0 ≤ 483 + 500 * x + 0 ∧ 483 + 500 * x + 0 < 3483 by omega)) gX11_turnover_X11_its rfl ziX11_its ⟨rfl, rfl, by decide, by decide⟩ rfl hl.1 rfl (Nat.le_of_ble_eq_true rfl) dX11_turnover_44 ⟨Nat.zero_le _, Nat.zero_le _⟩ hW hA [0, 1, 2, 3, 4, 5, 6, 7, 8, 9, 10] rfl (by decide) (fun _ => rfl) (fun _ => mW cI cJ h q (uV v 0 0) a) (fun _ => rfl) (fun _ => [.int (iI (LF ((a 11)) x 0)), .int (iI (260 + y)), .int (iI x), .ref h]) (fun _ => rfl) 0 rfl rfl rfl (fun _ H locs hp44 hW => ?_)
        refine z_isub hx hb dX11_turnover_47 ?_
        refine z_callV (As := [.int (iI x), .int (iI ((260 + y) - (LF ((a 11)) x 0)))]) (rest := []) F (c_its h q (uV v 0 0) a x ((260 + y) - (LF ((a 11)) x 0))  (show 0 ≤ 483 + 500 * x + ((260 + y) - (LF ((a 11)) x 0)) ∧ 483 + 500 * x + ((260 + y) - (LF ((a 11)) x 0)) < 3483 by omega)) gX11_turnover_X11_its rfl ziX11_its ⟨rfl, rfl, by decide, by decide⟩ rfl hl.1 rfl (Nat.le_of_ble_eq_true rfl) dX11_turnover_48 ⟨Nat.zero_le _, Nat.zero_le _⟩ hW hA [0, 1, 2, 3, 4, 5, 6, 7, 8, 9, 10] rfl (by decide) (fun _ => rfl) (fun _ => mW cI cJ h q (uV v 0 0) a) (fun _ => rfl) (fun _ => [.int (iI (LF ((a 11)) x ((260 + y) - (LF ((a 11)) x 0))))]) (fun _ => rfl) 0 rfl rfl rfl (fun _ H locs hp48 hW => ?_)
        refine z_if_le (tgt := 56) hx hb dX11_turnover_51 (by decide) ⟨by omega, by omega⟩ (fun c51 => ?_) (fun c51 => ?_)
        · refine lv_aload_n hx hb dX11_turnover_56 rfl (lv_at hl 0 rfl) ?_
          refine z_callV (As := []) (rest := []) F (c_snap h q (uV v 0 0) a   (show 0 ≤ (v 14) ∧ (v 14) ≤ 10 by omega)) gX11_turnover_X11_snap rfl ziX11_snap ⟨rfl, rfl, by decide, by decide⟩ rfl hl.1 rfl (Nat.le_of_ble_eq_true rfl) dX11_turnover_57 ⟨Nat.zero_le _, Nat.zero_le _⟩ hW hA [0, 1, 2, 3, 4, 5, 6, 7, 8, 9, 10] rfl (by decide) (fun _ => rfl) (fun u => mW cI cJ h q (uV (uV v 0 0) 14 u.1) (uA a 13 u.2)) (fun _ => rfl) (fun u => []) (fun _ => rfl) 0 rfl rfl rfl (fun u H locs hp57 hW => ?_)
          obtain ⟨sm2_1, p13_2⟩ := u
          have hp57 : SNAPPED ((a 13)) ((a 11)) ((v 14)) p13_2 sm2_1 := hp57
          have hW : zW G (tyZ cI cJ cO) A s (mW cI cJ h q (uV (uV v 0 0) 14 sm2_1) (uA a 13 p13_2)) H locs := hW
          refine lv_aload_n hx hb dX11_turnover_60 rfl (lv_at hl 0 rfl) ?_
          refine z_get (v := .ref (q 11)) hx hb hts hiX11_turnover_X11 hown hW 0 11 3 rfl rfl rfl (by decide) rfl dX11_turnover_61 ?_
          refine z_sipush hx hb dX11_turnover_64 (by decide +kernel) ?_
          refine z_sipush hx hb dX11_turnover_67 (by decide +kernel) ?_
          refine lv_iload_n hx hb dX11_turnover_70 rfl (lv_at hl 1 rfl) ?_
          refine z_imul hx hb dX11_turnover_71 ?_
          refine z_iadd hx hb dX11_turnover_72 ?_
          refine z_sipush hx hb dX11_turnover_73 (by decide +kernel) ?_
          refine z_iadd hx hb dX11_turnover_76 ?_
          refine lv_iload_n hx hb dX11_turnover_77 rfl (lv_at hl 2 rfl) ?_
          refine z_iadd hx hb dX11_turnover_78 ?_
          refine lv_aload_n hx hb dX11_turnover_79 rfl (lv_at hl 0 rfl) ?_
          refine lv_iload_n hx hb dX11_turnover_80 rfl (lv_at hl 1 rfl) ?_
          refine z_iconst (n := 0) hx hb dX11_turnover_81 ?_
          refine z_callV (As := [.int (iI x), .int (iI 0)]) (rest := [.int (iI (((483 + (500 * x)) + 260) + y)), .ref (q 11)]) F (c_its h q (uV (uV v 0 0) 14 sm2_1) (uA a 13 p13_2) x 0  (show 0 ≤ 483 + 500 * x + 0 ∧ 483 + 500 * x + 0 < 3483 by omega)) gX11_turnover_X11_its rfl ziX11_its ⟨rfl, rfl, by decide, by decide⟩ rfl hl.1 rfl (Nat.le_of_ble_eq_true rfl) dX11_turnover_82 ⟨Nat.zero_le _, Nat.zero_le _⟩ hW hA [0, 1, 2, 3, 4, 5, 6, 7, 8, 9, 10] rfl (by decide) (fun _ => rfl) (fun _ => mW cI cJ h q (uV (uV v 0 0) 14 sm2_1) (uA a 13 p13_2)) (fun _ => rfl) (fun _ => [.int (iI (LF ((a 11)) x 0)), .int (iI (((483 + (500 * x)) + 260) + y)), .ref (q 11)]) (fun _ => rfl) 0 rfl rfl rfl (fun _ H locs hp82 hW => ?_)
          refine z_isub hx hb dX11_turnover_85 ?_
          refine lv_iload_n hx hb dX11_turnover_86 rfl (lv_at hl 3 rfl) ?_
          refine z_iconst (n := 1) hx hb dX11_turnover_87 ?_
          refine z_iadd hx hb dX11_turnover_88 ?_
          refine z_iast (f := a 11) (i := (((483 + (500 * x)) + 260) + y) - (LF ((a 11)) x 0)) (z := z + 1) hx hb hW 2 0 rfl rfl (by decide) ⟨by omega, by omega⟩ dX11_turnover_89 (fun H locs hW => ?_)
          have hW : zW G (tyZ cI cJ cO) A s (mW cI cJ h q (uV (uV v 0 0) 14 sm2_1) (uA (uA a 13 p13_2) 11 (uI (a 11) ((((483 + (500 * x)) + 260) + y) - (LF ((a 11)) x 0)) (z + 1)))) H locs := hW
          refine lv_aload_n hx hb dX11_turnover_90 rfl (lv_at hl 0 rfl) ?_
          refine z_get (v := .ref (q 11)) hx hb hts hiX11_turnover_X11 hown hW 0 11 3 rfl rfl rfl (by decide) rfl dX11_turnover_91 ?_
          refine z_sipush hx hb dX11_turnover_94 (by decide +kernel) ?_
          refine z_sipush hx hb dX11_turnover_97 (by decide +kernel) ?_
          refine lv_iload_n hx hb dX11_turnover_100 rfl (lv_at hl 1 rfl) ?_
          refine z_imul hx hb dX11_turnover_101 ?_
          refine z_iadd hx hb dX11_turnover_102 ?_
          refine z_sipush hx hb dX11_turnover_103 (by decide +kernel) ?_
          refine z_iadd hx hb dX11_turnover_106 ?_
          refine lv_iload_n hx hb dX11_turnover_107 rfl (lv_at hl 2 rfl) ?_
          refine z_iadd hx hb dX11_turnover_108 ?_
          refine lv_aload_n hx hb dX11_turnover_109 rfl (lv_at hl 0 rfl) ?_
          refine lv_iload_n hx hb dX11_turnover_110 rfl (lv_at hl 1 rfl) ?_
          refine z_iconst (n := 0) hx hb dX11_turnover_111 ?_
          refine z_callV (As := [.int (iI x), .int (iI 0)]) (rest := [.int (iI (((483 + (500 * x)) + 380) + y)), .ref (q 11)]) F (c_its h q (uV (uV v 0 0) 14 sm2_1) (uA (uA a 13 p13_2) 11 (uI (a 11) ((((483 + (500 * x)) + 260) + y) - (LF ((a 11)) x 0)) (z + 1))) x 0  (show 0 ≤ 483 + 500 * x + 0 ∧ 483 + 500 * x + 0 < 3483 by omega)) gX11_turnover_X11_its rfl ziX11_its ⟨rfl, rfl, by decide, by decide⟩ rfl hl.1 rfl (Nat.le_of_ble_eq_true rfl) dX11_turnover_112 ⟨Nat.zero_le _, Nat.zero_le _⟩ hW hA [0, 1, 2, 3, 4, 5, 6, 7, 8, 9, 10] rfl (by decide) (fun _ => rfl) (fun _ => mW cI cJ h q (uV (uV v 0 0) 14 sm2_1) (uA (uA a 13 p13_2) 11 (uI (a 11) ((((483 + (500 * x)) + 260) + y) - (LF ((a 11)) x 0)) (z + 1)))) (fun _ => rfl) (fun _ => [.int (iI (LF ((uI (a 11) ((((483 + (500 * x)) + 260) + y) - (LF ((a 11)) x 0)) (z + 1))) x 0)), .int (iI (((483 + (500 * x)) + 380) + y)), .ref (q 11)]) (fun _ => rfl) 0 rfl rfl rfl (fun _ H locs hp112 hW => ?_)
          rw [LF_uI (by omega)]
          refine z_isub hx hb dX11_turnover_115 ?_
          refine lv_aload_n hx hb dX11_turnover_116 rfl (lv_at hl 0 rfl) ?_
          refine z_get (v := .ref (q 11)) hx hb hts hiX11_turnover_X11 hown hW 0 11 3 rfl rfl rfl (by decide) rfl dX11_turnover_117 ?_
          refine z_iconst (n := 0) hx hb dX11_turnover_120 ?_
          refine z_iald (f := uI (a 11) ((((483 + (500 * x)) + 260) + y) - (LF ((a 11)) x 0)) (z + 1)) (i := 0) hx hb hW 2 0 rfl rfl (by decide) ⟨by omega, by omega⟩ dX11_turnover_121 ?_
          rw [uI_n (f := a 11) (i := (((483 + (500 * x)) + 260) + y) - (LF ((a 11)) x 0)) (j := 0) (z := z + 1) (by omega)]
          refine z_iast (f := uI (a 11) ((((483 + (500 * x)) + 260) + y) - (LF ((a 11)) x 0)) (z + 1)) (i := (((483 + (500 * x)) + 380) + y) - (LF (a 11) x 0)) (z := (a 11) 0) hx hb hW 2 0 rfl rfl (by decide) ⟨by omega, by omega⟩ dX11_turnover_122 (fun H locs hW => ?_)
          have hW : zW G (tyZ cI cJ cO) A s (mW cI cJ h q (uV (uV v 0 0) 14 sm2_1) (uA (uA a 13 p13_2) 11 (uI (uI (a 11) ((((483 + (500 * x)) + 260) + y) - (LF ((a 11)) x 0)) (z + 1)) ((((483 + (500 * x)) + 380) + y) - (LF (a 11) x 0)) ((a 11) 0)))) H locs := hW
          refine z_iconst (n := 1) hx hb dX11_turnover_123 ?_
          exact z_zret hx hb hr hlk (by first | exact Or.inl rfl | exact Or.inr rfl | omega) hW (⟨uI (uI (a 11) ((((483 + (500 * x)) + 260) + y) - (LF ((a 11)) x 0)) (z + 1)) ((((483 + (500 * x)) + 380) + y) - (LF (a 11) x 0)) ((a 11) 0), sm2_1, p13_2⟩) (bI_t ⟨c11, c21, c31, by omega⟩) (show (_ → _) ∧ (_ → _) from ⟨fun _ => ⟨rfl, hp57⟩, fun q9 => absurd ⟨c11, c21, c31, by omega⟩ q9⟩) rfl dX11_turnover_124
        · refine z_iconst (n := 0) hx hb dX11_turnover_54 ?_
          exact z_zret hx hb hr hlk (by first | exact Or.inl rfl | exact Or.inr rfl | omega) hW (⟨a 11, v 14, a 13⟩) (bI_f (fun q9 => by first | exact c11 q9.1 | exact c21 q9.2.1 | exact c31 q9.2.2.1 | (have q8 := q9.2.2.2; omega))) (show (_ → _) ∧ (_ → _) from ⟨fun q9 => absurd q9 (fun q9 => by first | exact c11 q9.1 | exact c21 q9.2.1 | exact c31 q9.2.2.1 | (have q8 := q9.2.2.2; omega)), fun _ => ⟨rfl, rfl, rfl⟩⟩) rfl dX11_turnover_55
theorem hiX11_breaks_X11 : ∀ w ∈ wsX110, w ∈ wsX11_breaks := fun _ h => List.mem_cons_of_mem _ (List.mem_append_right _ h)
theorem ziX11_breaks : yX11_breaks.cls = RX11 ∧ yX11_breaks.cls ≠ "java/lang/invoke/MethodHandle" ∧ yX11_breaks.cls ≠ "java/lang/invoke/VarHandle" ∧ (parseMethodDescriptor yX11_breaks.desc).map (fun d => d.parameters.length) = some 1 := by decide +kernel
set_option maxHeartbeats 4000000 in
set_option maxRecDepth 100000 in
theorem c_breaks {l : Launch} {G : va_G} {cI cJ cO : ClassId} (h : Nat) (q : Nat → Nat) (v : Nat → Int) (a : Nat → Int → Int) (x : Int)  (h1 : -2147483648 ≤ x ∧ x < 2147483648) (h14 : 0 ≤ v 14 ∧ v 14 ≤ 10) (hWF : WF (a 11)) : zC l yX11_breaks wsX11_breaks { frames := 2, cells := 0, slots := 0, locals := 44 } G (tyZ cI cJ cO) (S := (Int → Int) × Int × (Int → Int)) [.ref h, .int (iI x)] (mW cI cJ h q v a) (zI (fun _ => if okB (a 11) x then LF (a 11) x 12 else -1)) (fun u => ((okB (a 11) x) → u.1 = BRK (a 11) x ∧ SNAPPED (a 13) (a 11) (v 14) u.2.2 u.2.1) ∧ (¬ (okB (a 11) x) → u.1 = a 11 ∧ u.2.2 = a 13 ∧ u.2.1 = v 14)) (fun u => mW cI cJ h q (uV (uV v 0 0) 14 u.2.1) (uA (uA a 11 u.1) 13 u.2.2)) 0 0 := by
  refine z_start (cc := cX11_breaks) (maxL := 2) (ret := (some .int)) (by decide) rfl (Nat.le_of_ble_eq_true rfl) ?_
  intro p e s m below meth c A ls F hr hlk hnm hAe hA hW hl
  have hx := F.1
  have hb := F.2.1
  have hown : s.vm.findClass RX11 = some m.cls := F.2.2.2.1
  have hts := F.2.2.2.2
  have hl : lv_has ls 2 [(0, .ref h), (1, .int (iI x))] := hl
  obtain ⟨w0, w1, w2, hV, hls⟩ := id hWF
  refine lv_aload_n hx hb dX11_breaks_0 rfl (lv_at hl 0 rfl) ?_
  refine z_iconst (n := 0) hx hb dX11_breaks_1 ?_
  refine z_put hx hb hts hiX11_breaks_X11 tyX11 tyX11_ok nmX11 hown hW 0 0 1 rfl rfl (by decide) (Nat.le_of_ble_eq_true rfl) rfl rfl rfl rfl dX11_breaks_2 (fun H locs hW => ?_)
  have hW : zW G (tyZ cI cJ cO) A s (mW cI cJ h q (uV v 0 0) a) H locs := hW
  refine lv_aload_n hx hb dX11_breaks_5 rfl (lv_at hl 0 rfl) ?_
  refine lv_iload_n hx hb dX11_breaks_6 rfl (lv_at hl 1 rfl) ?_
  refine z_callV (As := [.int (iI x)]) (rest := []) F (c_isLease h q (uV v 0 0) a x  (show -2147483648 ≤ x ∧ x < 2147483648 by omega) (show 0 ≤ (a 11) 2 ∧ (a 11) 2 ≤ 6 by omega)) gX11_breaks_X11_isLease rfl ziX11_isLease ⟨rfl, rfl, by decide, by decide⟩ rfl hl.1 rfl (Nat.le_of_ble_eq_true rfl) dX11_breaks_7 ⟨Nat.zero_le _, Nat.zero_le _⟩ hW hA [0, 1, 2, 3, 4, 5, 6, 7, 8, 9, 10] rfl (by decide) (fun _ => rfl) (fun _ => mW cI cJ h q (uV v 0 0) a) (fun _ => rfl) (fun _ => [.int (iI (bI (0 ≤ x ∧ x ≤ (a 11) 2 - 1)))]) (fun _ => rfl) 0 rfl rfl rfl (fun _ H locs hp7 hW => ?_)
  refine z_b_eq (tgt := 49) hx hb dX11_breaks_10 (by decide) (fun c10 => ?_) (fun c10 => ?_)
  · refine z_iconst (n := -1) hx hb dX11_breaks_49 ?_
    exact z_iret hx hb hr hlk hW (⟨a 11, v 14, a 13⟩) (by exact if_neg (fun q9 => by first | exact c10 q9.1 | exact c20 q9.2.1 | (have q8 := q9.2.2.1; omega) | (have q8 := q9.2.2.2; omega))) (show (_ → _) ∧ (_ → _) from ⟨fun q9 => absurd q9 (fun q9 => by first | exact c10 q9.1 | exact c20 q9.2.1 | (have q8 := q9.2.2.1; omega) | (have q8 := q9.2.2.2; omega)), fun _ => ⟨rfl, rfl, rfl⟩⟩) rfl dX11_breaks_50
  · obtain ⟨hL, hT⟩ := hls x (by omega) (by omega)
    obtain ⟨l0, l1, l2, l3, l4, l5, l6, l7, l8, l9, l10, l11, l12, l13, l14, l15⟩ := id hL
    refine lv_aload_n hx hb dX11_breaks_13 rfl (lv_at hl 0 rfl) ?_
    refine lv_iload_n hx hb dX11_breaks_14 rfl (lv_at hl 1 rfl) ?_
    refine z_bipush hx hb dX11_breaks_15 (by decide +kernel) ?_
    refine z_callV (As := [.int (iI x), .int (iI 16)]) (rest := []) F (c_hasPart h q (uV v 0 0) a x 16  (show 0 ≤ x ∧ x < 6 by omega)) gX11_breaks_X11_hasPart rfl ziX11_hasPart ⟨rfl, rfl, by decide, by decide⟩ rfl hl.1 rfl (Nat.le_of_ble_eq_true rfl) dX11_breaks_17 ⟨Nat.zero_le _, Nat.zero_le _⟩ hW hA [0, 1, 2, 3, 4, 5, 6, 7, 8, 9, 10] rfl (by decide) (fun _ => rfl) (fun _ => mW cI cJ h q (uV v 0 0) a) (fun _ => rfl) (fun _ => [.int (iI (bI (zand (LF ((a 11)) x 7) 16 ≠ 0)))]) (fun _ => rfl) 0 rfl rfl rfl (fun _ H locs hp17 hW => ?_)
    refine z_b_eq (tgt := 49) hx hb dX11_breaks_20 (by decide) (fun c20 => ?_) (fun c20 => ?_)
    · refine z_iconst (n := -1) hx hb dX11_breaks_49 ?_
      exact z_iret hx hb hr hlk hW (⟨a 11, v 14, a 13⟩) (by exact if_neg (fun q9 => by first | exact c10 q9.1 | exact c20 q9.2.1 | (have q8 := q9.2.2.1; omega) | (have q8 := q9.2.2.2; omega))) (show (_ → _) ∧ (_ → _) from ⟨fun q9 => absurd q9 (fun q9 => by first | exact c10 q9.1 | exact c20 q9.2.1 | (have q8 := q9.2.2.1; omega) | (have q8 := q9.2.2.2; omega)), fun _ => ⟨rfl, rfl, rfl⟩⟩) rfl dX11_breaks_50
    · refine lv_aload_n hx hb dX11_breaks_23 rfl (lv_at hl 0 rfl) ?_
      refine lv_iload_n hx hb dX11_breaks_24 rfl (lv_at hl 1 rfl) ?_
      refine z_bipush hx hb dX11_breaks_25 (by decide +kernel) ?_
      refine z_callV (As := [.int (iI x), .int (iI 12)]) (rest := []) F (c_its h q (uV v 0 0) a x 12  (show 0 ≤ 483 + 500 * x + 12 ∧ 483 + 500 * x + 12 < 3483 by omega)) gX11_breaks_X11_its rfl ziX11_its ⟨rfl, rfl, by decide, by decide⟩ rfl hl.1 rfl (Nat.le_of_ble_eq_true rfl) dX11_breaks_27 ⟨Nat.zero_le _, Nat.zero_le _⟩ hW hA [0, 1, 2, 3, 4, 5, 6, 7, 8, 9, 10] rfl (by decide) (fun _ => rfl) (fun _ => mW cI cJ h q (uV v 0 0) a) (fun _ => rfl) (fun _ => [.int (iI (LF ((a 11)) x 12))]) (fun _ => rfl) 0 rfl rfl rfl (fun _ H locs hp27 hW => ?_)
      refine lv_aload_n hx hb dX11_breaks_30 rfl (lv_at hl 0 rfl) ?_
      refine z_get (v := .ref (q 11)) hx hb hts hiX11_breaks_X11 hown hW 0 11 2 rfl rfl rfl (by decide) rfl dX11_breaks_31 ?_
      refine z_iconst (n := 0) hx hb dX11_breaks_34 ?_
      refine z_iald (f := a 11) (i := 0) hx hb hW 2 0 rfl rfl (by decide) ⟨by omega, by omega⟩ dX11_breaks_35 ?_
      refine z_icmp_le (tgt := 49) hx hb dX11_breaks_36 (by decide) ⟨by omega, by omega⟩ ⟨by omega, by omega⟩ (fun c36 => ?_) (fun c36 => ?_)
      · refine z_iconst (n := -1) hx hb dX11_breaks_49 ?_
        exact z_iret hx hb hr hlk hW (⟨a 11, v 14, a 13⟩) (by exact if_neg (fun q9 => by first | exact c10 q9.1 | exact c20 q9.2.1 | (have q8 := q9.2.2.1; omega) | (have q8 := q9.2.2.2; omega))) (show (_ → _) ∧ (_ → _) from ⟨fun q9 => absurd q9 (fun q9 => by first | exact c10 q9.1 | exact c20 q9.2.1 | (have q8 := q9.2.2.1; omega) | (have q8 := q9.2.2.2; omega)), fun _ => ⟨rfl, rfl, rfl⟩⟩) rfl dX11_breaks_50
      · refine lv_aload_n hx hb dX11_breaks_39 rfl (lv_at hl 0 rfl) ?_
        refine lv_iload_n hx hb dX11_breaks_40 rfl (lv_at hl 1 rfl) ?_
        refine z_bipush hx hb dX11_breaks_41 (by decide +kernel) ?_
        refine z_callV (As := [.int (iI x), .int (iI 13)]) (rest := []) F (c_its h q (uV v 0 0) a x 13  (show 0 ≤ 483 + 500 * x + 13 ∧ 483 + 500 * x + 13 < 3483 by omega)) gX11_breaks_X11_its rfl ziX11_its ⟨rfl, rfl, by decide, by decide⟩ rfl hl.1 rfl (Nat.le_of_ble_eq_true rfl) dX11_breaks_43 ⟨Nat.zero_le _, Nat.zero_le _⟩ hW hA [0, 1, 2, 3, 4, 5, 6, 7, 8, 9, 10] rfl (by decide) (fun _ => rfl) (fun _ => mW cI cJ h q (uV v 0 0) a) (fun _ => rfl) (fun _ => [.int (iI (LF ((a 11)) x 13))]) (fun _ => rfl) 0 rfl rfl rfl (fun _ H locs hp43 hW => ?_)
        refine z_if_le (tgt := 51) hx hb dX11_breaks_46 (by decide) ⟨by omega, by omega⟩ (fun c46 => ?_) (fun c46 => ?_)
        · refine lv_aload_n hx hb dX11_breaks_51 rfl (lv_at hl 0 rfl) ?_
          refine z_callV (As := []) (rest := []) F (c_snap h q (uV v 0 0) a   (show 0 ≤ (v 14) ∧ (v 14) ≤ 10 by omega)) gX11_breaks_X11_snap rfl ziX11_snap ⟨rfl, rfl, by decide, by decide⟩ rfl hl.1 rfl (Nat.le_of_ble_eq_true rfl) dX11_breaks_52 ⟨Nat.zero_le _, Nat.zero_le _⟩ hW hA [0, 1, 2, 3, 4, 5, 6, 7, 8, 9, 10] rfl (by decide) (fun _ => rfl) (fun u => mW cI cJ h q (uV (uV v 0 0) 14 u.1) (uA a 13 u.2)) (fun _ => rfl) (fun u => []) (fun _ => rfl) 0 rfl rfl rfl (fun u H locs hp52 hW => ?_)
          obtain ⟨sm2_1, p13_2⟩ := u
          have hp52 : SNAPPED ((a 13)) ((a 11)) ((v 14)) p13_2 sm2_1 := hp52
          have hW : zW G (tyZ cI cJ cO) A s (mW cI cJ h q (uV (uV v 0 0) 14 sm2_1) (uA a 13 p13_2)) H locs := hW
          refine lv_aload_n hx hb dX11_breaks_55 rfl (lv_at hl 0 rfl) ?_
          refine z_get (v := .ref (q 11)) hx hb hts hiX11_breaks_X11 hown hW 0 11 2 rfl rfl rfl (by decide) rfl dX11_breaks_56 ?_
          refine z_sipush hx hb dX11_breaks_59 (by decide +kernel) ?_
          refine z_sipush hx hb dX11_breaks_62 (by decide +kernel) ?_
          refine lv_iload_n hx hb dX11_breaks_65 rfl (lv_at hl 1 rfl) ?_
          refine z_imul hx hb dX11_breaks_66 ?_
          refine z_iadd hx hb dX11_breaks_67 ?_
          refine z_bipush hx hb dX11_breaks_68 (by decide +kernel) ?_
          refine z_iadd hx hb dX11_breaks_70 ?_
          refine lv_aload_n hx hb dX11_breaks_71 rfl (lv_at hl 0 rfl) ?_
          refine z_get (v := .ref (q 11)) hx hb hts hiX11_breaks_X11 hown hW 0 11 2 rfl rfl rfl (by decide) rfl dX11_breaks_72 ?_
          refine z_iconst (n := 0) hx hb dX11_breaks_75 ?_
          refine z_iald (f := a 11) (i := 0) hx hb hW 2 0 rfl rfl (by decide) ⟨by omega, by omega⟩ dX11_breaks_76 ?_
          refine z_iconst (n := 1) hx hb dX11_breaks_77 ?_
          refine z_iadd hx hb dX11_breaks_78 ?_
          refine z_iast (f := a 11) (i := (483 + (500 * x)) + 13) (z := ((a 11) 0) + 1) hx hb hW 2 0 rfl rfl (by decide) ⟨by omega, by omega⟩ dX11_breaks_79 (fun H locs hW => ?_)
          have hW : zW G (tyZ cI cJ cO) A s (mW cI cJ h q (uV (uV v 0 0) 14 sm2_1) (uA (uA a 13 p13_2) 11 (uI (a 11) ((483 + (500 * x)) + 13) (((a 11) 0) + 1)))) H locs := hW
          refine lv_aload_n hx hb dX11_breaks_80 rfl (lv_at hl 0 rfl) ?_
          refine lv_iload_n hx hb dX11_breaks_81 rfl (lv_at hl 1 rfl) ?_
          refine z_bipush hx hb dX11_breaks_82 (by decide +kernel) ?_
          refine z_callV (As := [.int (iI x), .int (iI 12)]) (rest := []) F (c_its h q (uV (uV v 0 0) 14 sm2_1) (uA (uA a 13 p13_2) 11 (uI (a 11) ((483 + (500 * x)) + 13) (((a 11) 0) + 1))) x 12  (show 0 ≤ 483 + 500 * x + 12 ∧ 483 + 500 * x + 12 < 3483 by omega)) gX11_breaks_X11_its rfl ziX11_its ⟨rfl, rfl, by decide, by decide⟩ rfl hl.1 rfl (Nat.le_of_ble_eq_true rfl) dX11_breaks_84 ⟨Nat.zero_le _, Nat.zero_le _⟩ hW hA [0, 1, 2, 3, 4, 5, 6, 7, 8, 9, 10] rfl (by decide) (fun _ => rfl) (fun _ => mW cI cJ h q (uV (uV v 0 0) 14 sm2_1) (uA (uA a 13 p13_2) 11 (uI (a 11) ((483 + (500 * x)) + 13) (((a 11) 0) + 1)))) (fun _ => rfl) (fun _ => [.int (iI (LF ((uI (a 11) ((483 + (500 * x)) + 13) (((a 11) 0) + 1))) x 12))]) (fun _ => rfl) 0 rfl rfl rfl (fun _ H locs hp84 hW => ?_)
          exact z_iret hx hb hr hlk hW (⟨uI (a 11) ((483 + (500 * x)) + 13) (((a 11) 0) + 1), sm2_1, p13_2⟩) (by rw [if_pos ⟨c10, c20, by omega, by omega⟩, LF_uI (by omega)]) (show (_ → _) ∧ (_ → _) from ⟨fun _ => ⟨rfl, hp52⟩, fun q9 => absurd ⟨c10, c20, by omega, by omega⟩ q9⟩) rfl dX11_breaks_87
        · refine z_iconst (n := -1) hx hb dX11_breaks_49 ?_
          exact z_iret hx hb hr hlk hW (⟨a 11, v 14, a 13⟩) (by exact if_neg (fun q9 => by first | exact c10 q9.1 | exact c20 q9.2.1 | (have q8 := q9.2.2.1; omega) | (have q8 := q9.2.2.2; omega))) (show (_ → _) ∧ (_ → _) from ⟨fun q9 => absurd q9 (fun q9 => by first | exact c10 q9.1 | exact c20 q9.2.1 | (have q8 := q9.2.2.1; omega) | (have q8 := q9.2.2.2; omega)), fun _ => ⟨rfl, rfl, rfl⟩⟩) rfl dX11_breaks_50
theorem hiX11_pass_X11 : ∀ w ∈ wsX110, w ∈ wsX11_pass := fun _ h => List.mem_cons_of_mem _ (List.mem_append_right _ h)
theorem ziX11_pass : yX11_pass.cls = RX11 ∧ yX11_pass.cls ≠ "java/lang/invoke/MethodHandle" ∧ yX11_pass.cls ≠ "java/lang/invoke/VarHandle" ∧ (parseMethodDescriptor yX11_pass.desc).map (fun d => d.parameters.length) = some 1 := by decide +kernel
set_option maxHeartbeats 4000000 in
set_option maxRecDepth 100000 in
theorem c_pass {l : Launch} {G : va_G} {cI cJ cO : ClassId} (h : Nat) (q : Nat → Nat) (v : Nat → Int) (a : Nat → Int → Int) (z : Int)  (h1 : -2147483648 ≤ z ∧ z < 2147483648) (h14 : 0 ≤ v 14 ∧ v 14 ≤ 10) (hWF : WF (a 11)) : zC l yX11_pass wsX11_pass { frames := 1, cells := 0, slots := 0, locals := 22 } G (tyZ cI cJ cO) (S := (Int → Int) × Int × (Int → Int)) [.ref h, .int (iI z)] (mW cI cJ h q v a) (zI (fun _ => if okA (a 11) z then a 11 0 + z else -1)) (fun u => ((okA (a 11) z) → u.1 = PAS (a 11) z ∧ SNAPPED (a 13) (a 11) (v 14) u.2.2 u.2.1) ∧ (¬ (okA (a 11) z) → u.1 = a 11 ∧ u.2.2 = a 13 ∧ u.2.1 = v 14)) (fun u => mW cI cJ h q (uV (uV v 0 0) 14 u.2.1) (uA (uA a 11 u.1) 13 u.2.2)) 0 0 := by
  refine z_start (cc := cX11_pass) (maxL := 2) (ret := (some .int)) (by decide) rfl (Nat.le_of_ble_eq_true rfl) ?_
  intro p e s m below meth c A ls F hr hlk hnm hAe hA hW hl
  have hx := F.1
  have hb := F.2.1
  have hown : s.vm.findClass RX11 = some m.cls := F.2.2.2.1
  have hts := F.2.2.2.2
  have hl : lv_has ls 2 [(0, .ref h), (1, .int (iI z))] := hl
  obtain ⟨w0, w1, w2, hV, hls⟩ := id hWF
  refine lv_aload_n hx hb dX11_pass_0 rfl (lv_at hl 0 rfl) ?_
  refine z_iconst (n := 0) hx hb dX11_pass_1 ?_
  refine z_put hx hb hts hiX11_pass_X11 tyX11 tyX11_ok nmX11 hown hW 0 0 1 rfl rfl (by decide) (Nat.le_of_ble_eq_true rfl) rfl rfl rfl rfl dX11_pass_2 (fun H locs hW => ?_)
  have hW : zW G (tyZ cI cJ cO) A s (mW cI cJ h q (uV v 0 0) a) H locs := hW
  refine lv_iload_n hx hb dX11_pass_5 rfl (lv_at hl 1 rfl) ?_
  refine z_iconst (n := 1) hx hb dX11_pass_6 ?_
  refine z_bipush hx hb dX11_pass_7 (by decide +kernel) ?_
  refine z_callS (As := [.int (iI z), .int (iI 1), .int (iI 99)]) (rest := []) F (c_isIn z 1 99  (show -2147483648 ≤ z ∧ z < 2147483648 by omega) (show -2147483648 ≤ 1 ∧ 1 < 2147483648 by omega) (show -2147483648 ≤ 99 ∧ 99 < 2147483648 by omega)) gX11_pass_X11_isIn rfl ziX11_isIn ⟨rfl, rfl, by decide, by decide⟩ rfl hl.1 rfl (Nat.le_of_ble_eq_true rfl) dX11_pass_9 ⟨Nat.zero_le _, Nat.zero_le _⟩ hW hA [] rfl (by decide) (fun _ => rfl) (fun _ => mW cI cJ h q (uV v 0 0) a) (fun _ => rfl) (fun _ => [.int (iI (bI (1 ≤ z ∧ z ≤ 99)))]) (fun _ => rfl) (fun _ H locs hp9 hW => ?_)
  refine z_b_eq (tgt := 29) hx hb dX11_pass_12 (by decide) (fun c12 => ?_) (fun c12 => ?_)
  · refine z_iconst (n := -1) hx hb dX11_pass_29 ?_
    exact z_iret hx hb hr hlk hW (⟨a 11, v 14, a 13⟩) (by exact if_neg (fun q9 => by first | exact c12 q9.1 | (have q8 := q9.2; omega))) (show (_ → _) ∧ (_ → _) from ⟨fun q9 => absurd q9 (fun q9 => by first | exact c12 q9.1 | (have q8 := q9.2; omega)), fun _ => ⟨rfl, rfl, rfl⟩⟩) rfl dX11_pass_30
  · refine lv_aload_n hx hb dX11_pass_15 rfl (lv_at hl 0 rfl) ?_
    refine z_get (v := .ref (q 11)) hx hb hts hiX11_pass_X11 hown hW 0 11 2 rfl rfl rfl (by decide) rfl dX11_pass_16 ?_
    refine z_iconst (n := 0) hx hb dX11_pass_19 ?_
    refine z_iald (f := a 11) (i := 0) hx hb hW 2 0 rfl rfl (by decide) ⟨by omega, by omega⟩ dX11_pass_20 ?_
    refine lv_iload_n hx hb dX11_pass_21 rfl (lv_at hl 1 rfl) ?_
    refine z_iadd hx hb dX11_pass_22 ?_
    refine z_sipush hx hb dX11_pass_23 (by decide +kernel) ?_
    refine z_icmp_lt (tgt := 31) hx hb dX11_pass_26 (by decide) ⟨by omega, by omega⟩ (by decide) (fun c26 => ?_) (fun c26 => ?_)
    · refine lv_aload_n hx hb dX11_pass_31 rfl (lv_at hl 0 rfl) ?_
      refine z_callV (As := []) (rest := []) F (c_snap h q (uV v 0 0) a   (show 0 ≤ (v 14) ∧ (v 14) ≤ 10 by omega)) gX11_pass_X11_snap rfl ziX11_snap ⟨rfl, rfl, by decide, by decide⟩ rfl hl.1 rfl (Nat.le_of_ble_eq_true rfl) dX11_pass_32 ⟨Nat.zero_le _, Nat.zero_le _⟩ hW hA [0, 1, 2, 3, 4, 5, 6, 7, 8, 9, 10] rfl (by decide) (fun _ => rfl) (fun u => mW cI cJ h q (uV (uV v 0 0) 14 u.1) (uA a 13 u.2)) (fun _ => rfl) (fun u => []) (fun _ => rfl) 0 rfl rfl rfl (fun u H locs hp32 hW => ?_)
      obtain ⟨sm2_1, p13_2⟩ := u
      have hp32 : SNAPPED ((a 13)) ((a 11)) ((v 14)) p13_2 sm2_1 := hp32
      have hW : zW G (tyZ cI cJ cO) A s (mW cI cJ h q (uV (uV v 0 0) 14 sm2_1) (uA a 13 p13_2)) H locs := hW
      refine lv_aload_n hx hb dX11_pass_35 rfl (lv_at hl 0 rfl) ?_
      refine z_get (v := .ref (q 11)) hx hb hts hiX11_pass_X11 hown hW 0 11 2 rfl rfl rfl (by decide) rfl dX11_pass_36 ?_
      refine z_iconst (n := 0) hx hb dX11_pass_39 ?_
      refine lv_dup2_11 hx hb dX11_pass_40 rfl rfl ?_
      refine z_iald (f := a 11) (i := 0) hx hb hW 2 0 rfl rfl (by decide) ⟨by omega, by omega⟩ dX11_pass_41 ?_
      refine lv_iload_n hx hb dX11_pass_42 rfl (lv_at hl 1 rfl) ?_
      refine z_iadd hx hb dX11_pass_43 ?_
      refine z_iast (f := a 11) (i := 0) (z := ((a 11) 0) + z) hx hb hW 2 0 rfl rfl (by decide) ⟨by omega, by omega⟩ dX11_pass_44 (fun H locs hW => ?_)
      have hW : zW G (tyZ cI cJ cO) A s (mW cI cJ h q (uV (uV v 0 0) 14 sm2_1) (uA (uA a 13 p13_2) 11 (uI (a 11) 0 (((a 11) 0) + z)))) H locs := hW
      refine lv_aload_n hx hb dX11_pass_45 rfl (lv_at hl 0 rfl) ?_
      refine z_get (v := .ref (q 11)) hx hb hts hiX11_pass_X11 hown hW 0 11 2 rfl rfl rfl (by decide) rfl dX11_pass_46 ?_
      refine z_iconst (n := 0) hx hb dX11_pass_49 ?_
      refine z_iald (f := uI (a 11) 0 (((a 11) 0) + z)) (i := 0) hx hb hW 2 0 rfl rfl (by decide) ⟨by omega, by omega⟩ dX11_pass_50 ?_
      rw [uI_s (f := a 11) (i := 0) (z := ((a 11) 0) + z)]
      exact z_iret hx hb hr hlk hW (⟨uI (a 11) 0 (((a 11) 0) + z), sm2_1, p13_2⟩) (by rw [if_pos ⟨c12, by omega⟩]) (show (_ → _) ∧ (_ → _) from ⟨fun _ => ⟨rfl, hp32⟩, fun q9 => absurd ⟨c12, by omega⟩ q9⟩) rfl dX11_pass_51
    · refine z_iconst (n := -1) hx hb dX11_pass_29 ?_
      exact z_iret hx hb hr hlk hW (⟨a 11, v 14, a 13⟩) (by exact if_neg (fun q9 => by first | exact c12 q9.1 | (have q8 := q9.2; omega))) (show (_ → _) ∧ (_ → _) from ⟨fun q9 => absurd q9 (fun q9 => by first | exact c12 q9.1 | (have q8 := q9.2; omega)), fun _ => ⟨rfl, rfl, rfl⟩⟩) rfl dX11_pass_30
theorem hiX11_undo_X11 : ∀ w ∈ wsX110, w ∈ wsX11_undo := fun _ h => List.mem_cons_of_mem _ (List.mem_append_right _ h)
theorem ziX11_undo : yX11_undo.cls = RX11 ∧ yX11_undo.cls ≠ "java/lang/invoke/MethodHandle" ∧ yX11_undo.cls ≠ "java/lang/invoke/VarHandle" ∧ (parseMethodDescriptor yX11_undo.desc).map (fun d => d.parameters.length) = some 0 := by decide +kernel
set_option maxHeartbeats 4000000 in
set_option maxRecDepth 100000 in
theorem c_undo {l : Launch} {G : va_G} {cI cJ cO : ClassId} (h : Nat) (q : Nat → Nat) (v : Nat → Int) (a : Nat → Int → Int)   (h14 : 0 ≤ v 14 ∧ v 14 ≤ 10) : zC l yX11_undo wsX11_undo { frames := 0, cells := 0, slots := 0, locals := 0 } G (tyZ cI cJ cO) (S := Int × (Int → Int)) [.ref h] (mW cI cJ h q v a) (zI (fun _ => if v 14 = 0 then -1 else v 14 - 1)) (fun u => (v 14 = 0 → u.1 = v 14 ∧ u.2 = a 11) ∧ (¬ v 14 = 0 → u.1 = v 14 - 1 ∧ u.2 = fun j => a 13 (3483 * (v 14 - 1) + j))) (fun u => mW cI cJ h q (uV (uV v 0 0) 14 u.1) (uA a 11 u.2)) 0 0 := by
  refine z_start (cc := cX11_undo) (maxL := 2) (ret := (some .int)) (by decide) rfl (Nat.le_of_ble_eq_true rfl) ?_
  intro p e s m below meth c A ls F hr hlk hnm hAe hA hW hl
  have hx := F.1
  have hb := F.2.1
  have hown : s.vm.findClass RX11 = some m.cls := F.2.2.2.1
  have hts := F.2.2.2.2
  have hl : lv_has ls 2 [(0, .ref h)] := hl
  refine lv_aload_n hx hb dX11_undo_0 rfl (lv_at hl 0 rfl) ?_
  refine z_iconst (n := 0) hx hb dX11_undo_1 ?_
  refine z_put hx hb hts hiX11_undo_X11 tyX11 tyX11_ok nmX11 hown hW 0 0 1 rfl rfl (by decide) (Nat.le_of_ble_eq_true rfl) rfl rfl rfl rfl dX11_undo_2 (fun H locs hW => ?_)
  have hW : zW G (tyZ cI cJ cO) A s (mW cI cJ h q (uV v 0 0) a) H locs := hW
  refine lv_aload_n hx hb dX11_undo_5 rfl (lv_at hl 0 rfl) ?_
  refine z_get (v := .int (iI (v 14))) hx hb hts hiX11_undo_X11 hown hW 0 14 2 rfl rfl rfl (by decide) rfl dX11_undo_6 ?_
  refine z_if_ne (tgt := 14) hx hb dX11_undo_9 (by decide) ⟨by omega, by omega⟩ (fun c9 => ?_) (fun c9 => ?_)
  · refine lv_aload_n hx hb dX11_undo_14 rfl (lv_at hl 0 rfl) ?_
    refine lv_dup hx hb dX11_undo_15 rfl ?_
    refine z_get (v := .int (iI (v 14))) hx hb hts hiX11_undo_X11 hown hW 0 14 2 rfl rfl rfl (by decide) rfl dX11_undo_16 ?_
    refine z_iconst (n := 1) hx hb dX11_undo_19 ?_
    refine z_isub hx hb dX11_undo_20 ?_
    refine z_put hx hb hts hiX11_undo_X11 tyX11 tyX11_ok nmX11 hown hW 0 14 2 rfl rfl (by decide) (Nat.le_of_ble_eq_true rfl) rfl rfl rfl rfl dX11_undo_21 (fun H locs hW => ?_)
    have hW : zW G (tyZ cI cJ cO) A s (mW cI cJ h q (uV (uV v 0 0) 14 ((v 14) - 1)) a) H locs := hW
    refine z_iconst (n := 0) hx hb dX11_undo_24 ?_
    refine lv_istore_n (lv' := [(1, .int (iI 0)), (0, .ref h)]) hx hb dX11_undo_25 rfl hl (by decide) rfl (fun ls hl => ?_)
    refine z_loop2 (fun (x1 : Int) (n11 : Int → Int) (ls : Array Slot) (H : Heap) (locs : List Loc) => (0 ≤ x1 ∧ x1 ≤ 3483) ∧ (∀ j : Int, 0 ≤ j → j < x1 → n11 j = a 13 (3483 * (v 14 - 1) + j)) ∧ zW G (tyZ cI cJ cO) A s (mW cI cJ h q (uV (uV v 0 0) 14 ((v 14) - 1)) (uA a 11 n11)) H locs ∧ lv_has ls 2 [(1, .int (iI x1)), (0, .ref h)]) (fun x1 n11 => (3483 - x1).toNat) ?_ 0 (a 11) _ _ _ ⟨(by omega), (fun j j0 j1 => by omega), hW, (lv_sub hl [0, 1] rfl)⟩
    intro x1 n11 ls H locs hI ih
    obtain ⟨i1, i2, hW, hl⟩ := hI
    refine lv_iload_n hx hb dX11_undo_26 rfl (lv_at hl 0 rfl) ?_
    refine z_sipush hx hb dX11_undo_27 (by decide +kernel) ?_
    refine z_icmp_ge (tgt := 60) hx hb dX11_undo_30 (by decide) ⟨by omega, by omega⟩ (by decide) (fun c30 => ?_) (fun c30 => ?_)
    · have hW := z_row hW 2 (fun j => a 13 (3483 * (v 14 - 1) + j)) rfl (fun j j0 j1 => i2 j j0 (by omega))
      have hW : zW G (tyZ cI cJ cO) A s (mW cI cJ h q (uV (uV v 0 0) 14 ((v 14) - 1)) (uA a 11 (fun j => a 13 (3483 * (v 14 - 1) + j)))) H locs := hW
      refine lv_aload_n hx hb dX11_undo_60 rfl (lv_at hl 1 rfl) ?_
      refine z_get (v := .int (iI ((v 14) - 1))) hx hb hts hiX11_undo_X11 hown hW 0 14 2 rfl rfl rfl (by decide) rfl dX11_undo_61 ?_
      exact z_iret hx hb hr hlk hW (⟨v 14 - 1, fun j => a 13 (3483 * (v 14 - 1) + j)⟩) (by exact if_neg c9) (show (_ → _) ∧ (_ → _) from ⟨fun q9 => absurd q9 c9, fun _ => ⟨rfl, rfl⟩⟩) rfl dX11_undo_64
    · refine lv_aload_n hx hb dX11_undo_33 rfl (lv_at hl 1 rfl) ?_
      refine z_get (v := .ref (q 11)) hx hb hts hiX11_undo_X11 hown hW 0 11 3 rfl rfl rfl (by decide) rfl dX11_undo_34 ?_
      refine lv_iload_n hx hb dX11_undo_37 rfl (lv_at hl 0 rfl) ?_
      refine lv_aload_n hx hb dX11_undo_38 rfl (lv_at hl 1 rfl) ?_
      refine z_get (v := .ref (q 13)) hx hb hts hiX11_undo_X11 hown hW 0 13 4 rfl rfl rfl (by decide) rfl dX11_undo_39 ?_
      refine z_sipush hx hb dX11_undo_42 (by decide +kernel) ?_
      refine lv_aload_n hx hb dX11_undo_45 rfl (lv_at hl 1 rfl) ?_
      refine z_get (v := .int (iI ((v 14) - 1))) hx hb hts hiX11_undo_X11 hown hW 0 14 2 rfl rfl rfl (by decide) rfl dX11_undo_46 ?_
      refine z_imul hx hb dX11_undo_49 ?_
      refine lv_iload_n hx hb dX11_undo_50 rfl (lv_at hl 0 rfl) ?_
      refine z_iadd hx hb dX11_undo_51 ?_
      refine z_iald (f := a 13) (i := (3483 * ((v 14) - 1)) + x1) hx hb hW 4 0 rfl rfl (by decide) ⟨by omega, by omega⟩ dX11_undo_52 ?_
      refine z_iast (f := n11) (i := x1) (z := (a 13) ((3483 * ((v 14) - 1)) + x1)) hx hb hW 2 0 rfl rfl (by decide) ⟨by omega, by omega⟩ dX11_undo_53 (fun H locs hW => ?_)
      have hW : zW G (tyZ cI cJ cO) A s (mW cI cJ h q (uV (uV v 0 0) 14 ((v 14) - 1)) (uA a 11 (uI n11 x1 ((a 13) ((3483 * ((v 14) - 1)) + x1))))) H locs := hW
      refine z_iinc (k := 0) (lv' := [(1, .int (iI (x1 + 1))), (0, .ref h)]) hx hb dX11_undo_54 hl rfl (by decide) rfl (fun ls hl => ?_)
      refine lv_goto (tgt := 26) hx hb dX11_undo_57 (by decide) ?_
      exact ih (x1 + 1) (uI n11 x1 ((a 13) ((3483 * ((v 14) - 1)) + x1))) _ _ _ ⟨(by omega), (fun j j0 j1 => by by_cases je : j = x1; (subst je; exact uI_s); (rw [uI_n je]; exact i2 j j0 (by omega))), hW, (lv_sub hl [0, 1] rfl)⟩ (by omega)
  · refine z_iconst (n := -1) hx hb dX11_undo_12 ?_
    exact z_iret hx hb hr hlk hW (⟨v 14, a 11⟩) (by exact if_pos c9) (show (_ → _) ∧ (_ → _) from ⟨fun _ => ⟨rfl, rfl⟩, fun q9 => absurd c9 q9⟩) rfl dX11_undo_13
