/-! the class: tape, acts -/
theorem hiX10_feed_X10 : ∀ w ∈ wsX100, w ∈ wsX10_feed := fun _ h => List.mem_cons_of_mem _ (List.mem_append_left _ (List.mem_append_right _ h))
theorem hiX10_feed_X6 : ∀ w ∈ wsX60, w ∈ wsX10_feed := fun _ h => List.mem_cons_of_mem _ (List.mem_append_right _ h)
theorem ziX10_feed : yX10_feed.cls = RX10 ∧ yX10_feed.cls ≠ "java/lang/invoke/MethodHandle" ∧ yX10_feed.cls ≠ "java/lang/invoke/VarHandle" ∧ (parseMethodDescriptor yX10_feed.desc).map (fun d => d.parameters.length) = some 5 := by decide +kernel
set_option maxHeartbeats 4000000 in
set_option maxRecDepth 100000 in
theorem c_X10_feed {l : Launch} {G : va_G} {cI cJ cO : ClassId}  (hc : Nat) (qc : Nat → Nat) (vc : Nat → Int) (ac : Nat → Int → Int) (qf : Nat → Nat) (vf : Nat → Int) (af : Nat → Int → Int) (b1 b2 b3 b4 b5 : Int)  (h1 : 0 ≤ vf 1 ∧ vf 1 ≤ 640) : zC l yX10_feed wsX10_feed { frames := 1, cells := 0, slots := 0, locals := 22 } G (tyZ cI cJ cO) (S := Int × (Int → Int)) [.ref hc, .int (iI b1), .int (iI b2), .int (iI b3), .int (iI b4), .int (iI b5)] ((dO cI cJ hc qc vc ac) ++ (tW cI cJ (qc 0) qf vf af)) (zI (fun _ => if vf 1 + 20 ≤ 640 then vf 1 + 20 else -1)) (fun u => (vf 1 + 20 ≤ 640 → u.1 = vf 1 + 20 ∧ u.2 = FED (af 0) (vf 1) b1 b2 b3 b4 b5) ∧ (¬ vf 1 + 20 ≤ 640 → u.1 = vf 1 ∧ u.2 = af 0)) (fun u => (dO cI cJ hc qc vc ac) ++ (tW cI cJ (qc 0) qf (uV vf 1 u.1) (uA af 0 u.2))) 0 0 := by
  refine z_start (cc := cX10_feed) (maxL := 6) (ret := (some .int)) (by decide) rfl (Nat.le_of_ble_eq_true rfl) ?_
  intro p e s m below meth c A ls F hr hlk hnm hAe hA hW hl
  have hx := F.1
  have hb := F.2.1
  have hown : s.vm.findClass RX10 = some m.cls := F.2.2.2.1
  have hts := F.2.2.2.2
  have hl : lv_has ls 6 [(0, .ref hc), (1, .int (iI b1)), (2, .int (iI b2)), (3, .int (iI b3)), (4, .int (iI b4)), (5, .int (iI b5))] := hl
  refine lv_aload_n hx hb dX10_feed_0 rfl (lv_at hl 0 rfl) ?_
  refine z_get (v := .ref (qc 0)) hx hb hts hiX10_feed_X10 hown hW 0 0 1 rfl rfl rfl (by decide) rfl dX10_feed_1 ?_
  refine z_get (v := .int (iI (vf 1))) hx hb hts hiX10_feed_X6 hown hW 1 1 2 rfl rfl rfl (by decide) rfl dX10_feed_4 ?_
  refine z_bipush hx hb dX10_feed_7 (by decide +kernel) ?_
  refine z_iadd hx hb dX10_feed_9 ?_
  refine z_sipush hx hb dX10_feed_10 (by decide +kernel) ?_
  refine z_icmp_le (tgt := 18) hx hb dX10_feed_13 (by decide) ⟨by omega, by omega⟩ (by decide) (fun c13 => ?_) (fun c13 => ?_)
  · refine lv_aload_n hx hb dX10_feed_18 rfl (lv_at hl 0 rfl) ?_
    refine z_get (v := .ref (qc 0)) hx hb hts hiX10_feed_X10 hown hW 0 0 1 rfl rfl rfl (by decide) rfl dX10_feed_19 ?_
    refine lv_iload_n hx hb dX10_feed_22 rfl (lv_at hl 1 rfl) ?_
    refine z_callV (As := [.int (iI b1)]) (rest := []) F (c_X6_add  (qc 0) qf vf af b1  (show 0 ≤ (vf 1) ∧ (vf 1) + 4 ≤ 640 by omega)) gX10_feed_X6_add rfl ziX6_add ⟨rfl, rfl, by decide, by decide⟩ rfl hl.1 rfl (Nat.le_of_ble_eq_true rfl) dX10_feed_23 ⟨Nat.zero_le _, Nat.zero_le _⟩ hW hA [1, 2] rfl (by decide) (fun _ => rfl) (fun u => (dO cI cJ hc qc vc ac) ++ (tW cI cJ (qc 0) qf (uV vf 1 ((vf 1) + 1 + 1 + 1 + 1)) (uA af 0 u))) (fun _ => rfl) (fun u => []) (fun _ => rfl) 1 rfl rfl rfl (fun u H locs hp23 hW => ?_)
    obtain ⟨f1_1, rfl⟩ : ∃ z, z = u := ⟨_, rfl⟩
    have hp23 : f1_1 = LAY ((af 0)) ((vf 1)) b1 := hp23
    subst hp23
    have hW : zW G (tyZ cI cJ cO) A s ((dO cI cJ hc qc vc ac) ++ (tW cI cJ (qc 0) qf (uV vf 1 ((vf 1) + 1 + 1 + 1 + 1)) (uA af 0 (LAY ((af 0)) ((vf 1)) b1)))) H locs := hW
    refine lv_aload_n hx hb dX10_feed_26 rfl (lv_at hl 0 rfl) ?_
    refine z_get (v := .ref (qc 0)) hx hb hts hiX10_feed_X10 hown hW 0 0 1 rfl rfl rfl (by decide) rfl dX10_feed_27 ?_
    refine lv_iload_n hx hb dX10_feed_30 rfl (lv_at hl 2 rfl) ?_
    refine z_callV (As := [.int (iI b2)]) (rest := []) F (c_X6_add  (qc 0) qf (uV vf 1 ((vf 1) + 1 + 1 + 1 + 1)) (uA af 0 (LAY ((af 0)) ((vf 1)) b1)) b2  (show 0 ≤ ((vf 1) + 1 + 1 + 1 + 1) ∧ ((vf 1) + 1 + 1 + 1 + 1) + 4 ≤ 640 by omega)) gX10_feed_X6_add rfl ziX6_add ⟨rfl, rfl, by decide, by decide⟩ rfl hl.1 rfl (Nat.le_of_ble_eq_true rfl) dX10_feed_31 ⟨Nat.zero_le _, Nat.zero_le _⟩ hW hA [1, 2] rfl (by decide) (fun _ => rfl) (fun u => (dO cI cJ hc qc vc ac) ++ (tW cI cJ (qc 0) qf (uV vf 1 (((vf 1) + 1 + 1 + 1 + 1) + 1 + 1 + 1 + 1)) (uA af 0 u))) (fun _ => rfl) (fun u => []) (fun _ => rfl) 1 rfl rfl rfl (fun u H locs hp31 hW => ?_)
    obtain ⟨f1_2, rfl⟩ : ∃ z, z = u := ⟨_, rfl⟩
    have hp31 : f1_2 = LAY ((LAY ((af 0)) ((vf 1)) b1)) (((vf 1) + 1 + 1 + 1 + 1)) b2 := hp31
    subst hp31
    have hW : zW G (tyZ cI cJ cO) A s ((dO cI cJ hc qc vc ac) ++ (tW cI cJ (qc 0) qf (uV vf 1 (((vf 1) + 1 + 1 + 1 + 1) + 1 + 1 + 1 + 1)) (uA af 0 (LAY ((LAY ((af 0)) ((vf 1)) b1)) (((vf 1) + 1 + 1 + 1 + 1)) b2)))) H locs := hW
    refine lv_aload_n hx hb dX10_feed_34 rfl (lv_at hl 0 rfl) ?_
    refine z_get (v := .ref (qc 0)) hx hb hts hiX10_feed_X10 hown hW 0 0 1 rfl rfl rfl (by decide) rfl dX10_feed_35 ?_
    refine lv_iload_n hx hb dX10_feed_38 rfl (lv_at hl 3 rfl) ?_
    refine z_callV (As := [.int (iI b3)]) (rest := []) F (c_X6_add  (qc 0) qf (uV vf 1 (((vf 1) + 1 + 1 + 1 + 1) + 1 + 1 + 1 + 1)) (uA af 0 (LAY ((LAY ((af 0)) ((vf 1)) b1)) (((vf 1) + 1 + 1 + 1 + 1)) b2)) b3  (show 0 ≤ (((vf 1) + 1 + 1 + 1 + 1) + 1 + 1 + 1 + 1) ∧ (((vf 1) + 1 + 1 + 1 + 1) + 1 + 1 + 1 + 1) + 4 ≤ 640 by omega)) gX10_feed_X6_add rfl ziX6_add ⟨rfl, rfl, by decide, by decide⟩ rfl hl.1 rfl (Nat.le_of_ble_eq_true rfl) dX10_feed_39 ⟨Nat.zero_le _, Nat.zero_le _⟩ hW hA [1, 2] rfl (by decide) (fun _ => rfl) (fun u => (dO cI cJ hc qc vc ac) ++ (tW cI cJ (qc 0) qf (uV vf 1 ((((vf 1) + 1 + 1 + 1 + 1) + 1 + 1 + 1 + 1) + 1 + 1 + 1 + 1)) (uA af 0 u))) (fun _ => rfl) (fun u => []) (fun _ => rfl) 1 rfl rfl rfl (fun u H locs hp39 hW => ?_)
    obtain ⟨f1_3, rfl⟩ : ∃ z, z = u := ⟨_, rfl⟩
    have hp39 : f1_3 = LAY ((LAY ((LAY ((af 0)) ((vf 1)) b1)) (((vf 1) + 1 + 1 + 1 + 1)) b2)) ((((vf 1) + 1 + 1 + 1 + 1) + 1 + 1 + 1 + 1)) b3 := hp39
    subst hp39
    have hW : zW G (tyZ cI cJ cO) A s ((dO cI cJ hc qc vc ac) ++ (tW cI cJ (qc 0) qf (uV vf 1 ((((vf 1) + 1 + 1 + 1 + 1) + 1 + 1 + 1 + 1) + 1 + 1 + 1 + 1)) (uA af 0 (LAY ((LAY ((LAY ((af 0)) ((vf 1)) b1)) (((vf 1) + 1 + 1 + 1 + 1)) b2)) ((((vf 1) + 1 + 1 + 1 + 1) + 1 + 1 + 1 + 1)) b3)))) H locs := hW
    refine lv_aload_n hx hb dX10_feed_42 rfl (lv_at hl 0 rfl) ?_
    refine z_get (v := .ref (qc 0)) hx hb hts hiX10_feed_X10 hown hW 0 0 1 rfl rfl rfl (by decide) rfl dX10_feed_43 ?_
    refine lv_iload hx hb dX10_feed_46 (lv_at hl 4 rfl) ?_
    refine z_callV (As := [.int (iI b4)]) (rest := []) F (c_X6_add  (qc 0) qf (uV vf 1 ((((vf 1) + 1 + 1 + 1 + 1) + 1 + 1 + 1 + 1) + 1 + 1 + 1 + 1)) (uA af 0 (LAY ((LAY ((LAY ((af 0)) ((vf 1)) b1)) (((vf 1) + 1 + 1 + 1 + 1)) b2)) ((((vf 1) + 1 + 1 + 1 + 1) + 1 + 1 + 1 + 1)) b3)) b4  (show 0 ≤ ((((vf 1) + 1 + 1 + 1 + 1) + 1 + 1 + 1 + 1) + 1 + 1 + 1 + 1) ∧ ((((vf 1) + 1 + 1 + 1 + 1) + 1 + 1 + 1 + 1) + 1 + 1 + 1 + 1) + 4 ≤ 640 by omega)) gX10_feed_X6_add rfl ziX6_add ⟨rfl, rfl, by decide, by decide⟩ rfl hl.1 rfl (Nat.le_of_ble_eq_true rfl) dX10_feed_48 ⟨Nat.zero_le _, Nat.zero_le _⟩ hW hA [1, 2] rfl (by decide) (fun _ => rfl) (fun u => (dO cI cJ hc qc vc ac) ++ (tW cI cJ (qc 0) qf (uV vf 1 (((((vf 1) + 1 + 1 + 1 + 1) + 1 + 1 + 1 + 1) + 1 + 1 + 1 + 1) + 1 + 1 + 1 + 1)) (uA af 0 u))) (fun _ => rfl) (fun u => []) (fun _ => rfl) 1 rfl rfl rfl (fun u H locs hp48 hW => ?_)
    obtain ⟨f1_4, rfl⟩ : ∃ z, z = u := ⟨_, rfl⟩
    have hp48 : f1_4 = LAY ((LAY ((LAY ((LAY ((af 0)) ((vf 1)) b1)) (((vf 1) + 1 + 1 + 1 + 1)) b2)) ((((vf 1) + 1 + 1 + 1 + 1) + 1 + 1 + 1 + 1)) b3)) (((((vf 1) + 1 + 1 + 1 + 1) + 1 + 1 + 1 + 1) + 1 + 1 + 1 + 1)) b4 := hp48
    subst hp48
    have hW : zW G (tyZ cI cJ cO) A s ((dO cI cJ hc qc vc ac) ++ (tW cI cJ (qc 0) qf (uV vf 1 (((((vf 1) + 1 + 1 + 1 + 1) + 1 + 1 + 1 + 1) + 1 + 1 + 1 + 1) + 1 + 1 + 1 + 1)) (uA af 0 (LAY ((LAY ((LAY ((LAY ((af 0)) ((vf 1)) b1)) (((vf 1) + 1 + 1 + 1 + 1)) b2)) ((((vf 1) + 1 + 1 + 1 + 1) + 1 + 1 + 1 + 1)) b3)) (((((vf 1) + 1 + 1 + 1 + 1) + 1 + 1 + 1 + 1) + 1 + 1 + 1 + 1)) b4)))) H locs := hW
    refine lv_aload_n hx hb dX10_feed_51 rfl (lv_at hl 0 rfl) ?_
    refine z_get (v := .ref (qc 0)) hx hb hts hiX10_feed_X10 hown hW 0 0 1 rfl rfl rfl (by decide) rfl dX10_feed_52 ?_
    refine lv_iload hx hb dX10_feed_55 (lv_at hl 5 rfl) ?_
    refine z_callV (As := [.int (iI b5)]) (rest := []) F (c_X6_add  (qc 0) qf (uV vf 1 (((((vf 1) + 1 + 1 + 1 + 1) + 1 + 1 + 1 + 1) + 1 + 1 + 1 + 1) + 1 + 1 + 1 + 1)) (uA af 0 (LAY ((LAY ((LAY ((LAY ((af 0)) ((vf 1)) b1)) (((vf 1) + 1 + 1 + 1 + 1)) b2)) ((((vf 1) + 1 + 1 + 1 + 1) + 1 + 1 + 1 + 1)) b3)) (((((vf 1) + 1 + 1 + 1 + 1) + 1 + 1 + 1 + 1) + 1 + 1 + 1 + 1)) b4)) b5  (show 0 ≤ (((((vf 1) + 1 + 1 + 1 + 1) + 1 + 1 + 1 + 1) + 1 + 1 + 1 + 1) + 1 + 1 + 1 + 1) ∧ (((((vf 1) + 1 + 1 + 1 + 1) + 1 + 1 + 1 + 1) + 1 + 1 + 1 + 1) + 1 + 1 + 1 + 1) + 4 ≤ 640 by omega)) gX10_feed_X6_add rfl ziX6_add ⟨rfl, rfl, by decide, by decide⟩ rfl hl.1 rfl (Nat.le_of_ble_eq_true rfl) dX10_feed_57 ⟨Nat.zero_le _, Nat.zero_le _⟩ hW hA [1, 2] rfl (by decide) (fun _ => rfl) (fun u => (dO cI cJ hc qc vc ac) ++ (tW cI cJ (qc 0) qf (uV vf 1 ((((((vf 1) + 1 + 1 + 1 + 1) + 1 + 1 + 1 + 1) + 1 + 1 + 1 + 1) + 1 + 1 + 1 + 1) + 1 + 1 + 1 + 1)) (uA af 0 u))) (fun _ => rfl) (fun u => []) (fun _ => rfl) 1 rfl rfl rfl (fun u H locs hp57 hW => ?_)
    obtain ⟨f1_5, rfl⟩ : ∃ z, z = u := ⟨_, rfl⟩
    have hp57 : f1_5 = LAY ((LAY ((LAY ((LAY ((LAY ((af 0)) ((vf 1)) b1)) (((vf 1) + 1 + 1 + 1 + 1)) b2)) ((((vf 1) + 1 + 1 + 1 + 1) + 1 + 1 + 1 + 1)) b3)) (((((vf 1) + 1 + 1 + 1 + 1) + 1 + 1 + 1 + 1) + 1 + 1 + 1 + 1)) b4)) ((((((vf 1) + 1 + 1 + 1 + 1) + 1 + 1 + 1 + 1) + 1 + 1 + 1 + 1) + 1 + 1 + 1 + 1)) b5 := hp57
    subst hp57
    have hW : zW G (tyZ cI cJ cO) A s ((dO cI cJ hc qc vc ac) ++ (tW cI cJ (qc 0) qf (uV vf 1 ((((((vf 1) + 1 + 1 + 1 + 1) + 1 + 1 + 1 + 1) + 1 + 1 + 1 + 1) + 1 + 1 + 1 + 1) + 1 + 1 + 1 + 1)) (uA af 0 (LAY ((LAY ((LAY ((LAY ((LAY ((af 0)) ((vf 1)) b1)) (((vf 1) + 1 + 1 + 1 + 1)) b2)) ((((vf 1) + 1 + 1 + 1 + 1) + 1 + 1 + 1 + 1)) b3)) (((((vf 1) + 1 + 1 + 1 + 1) + 1 + 1 + 1 + 1) + 1 + 1 + 1 + 1)) b4)) ((((((vf 1) + 1 + 1 + 1 + 1) + 1 + 1 + 1 + 1) + 1 + 1 + 1 + 1) + 1 + 1 + 1 + 1)) b5)))) H locs := hW
    refine lv_aload_n hx hb dX10_feed_60 rfl (lv_at hl 0 rfl) ?_
    refine z_get (v := .ref (qc 0)) hx hb hts hiX10_feed_X10 hown hW 0 0 1 rfl rfl rfl (by decide) rfl dX10_feed_61 ?_
    refine z_get (v := .int (iI ((((((vf 1) + 1 + 1 + 1 + 1) + 1 + 1 + 1 + 1) + 1 + 1 + 1 + 1) + 1 + 1 + 1 + 1) + 1 + 1 + 1 + 1))) hx hb hts hiX10_feed_X6 hown hW 1 1 2 rfl rfl rfl (by decide) rfl dX10_feed_64 ?_
    exact z_iret hx hb hr hlk hW (⟨(((((vf 1) + 1 + 1 + 1 + 1) + 1 + 1 + 1 + 1) + 1 + 1 + 1 + 1) + 1 + 1 + 1 + 1) + 1 + 1 + 1 + 1, LAY ((LAY ((LAY ((LAY ((LAY ((af 0)) ((vf 1)) b1)) (((vf 1) + 1 + 1 + 1 + 1)) b2)) ((((vf 1) + 1 + 1 + 1 + 1) + 1 + 1 + 1 + 1)) b3)) (((((vf 1) + 1 + 1 + 1 + 1) + 1 + 1 + 1 + 1) + 1 + 1 + 1 + 1)) b4)) ((((((vf 1) + 1 + 1 + 1 + 1) + 1 + 1 + 1 + 1) + 1 + 1 + 1 + 1) + 1 + 1 + 1 + 1)) b5⟩) (by rw [if_pos (by omega)]; omega) (show (_ → _) ∧ (_ → _) from ⟨fun _ => ⟨by show _ = _; omega, rfl⟩, fun q9 => absurd (by omega) q9⟩) rfl dX10_feed_67
  · refine z_iconst (n := -1) hx hb dX10_feed_16 ?_
    exact z_iret hx hb hr hlk hW (⟨vf 1, af 0⟩) (by exact if_neg (by omega)) (show (_ → _) ∧ (_ → _) from ⟨fun q9 => absurd q9 (by omega), fun _ => ⟨rfl, rfl⟩⟩) rfl dX10_feed_17
theorem hiX10_end_X10 : ∀ w ∈ wsX100, w ∈ wsX10_end := fun _ h => List.mem_cons_of_mem _ (List.mem_append_left _ (List.mem_append_right _ h))
theorem hiX10_end_X6 : ∀ w ∈ wsX60, w ∈ wsX10_end := fun _ h => List.mem_cons_of_mem _ (List.mem_append_right _ h)
theorem ziX10_end : yX10_end.cls = RX10 ∧ yX10_end.cls ≠ "java/lang/invoke/MethodHandle" ∧ yX10_end.cls ≠ "java/lang/invoke/VarHandle" ∧ (parseMethodDescriptor yX10_end.desc).map (fun d => d.parameters.length) = some 1 := by decide +kernel
set_option maxHeartbeats 4000000 in
set_option maxRecDepth 100000 in
theorem c_X10_end {l : Launch} {G : va_G} {cI cJ cO : ClassId}  (hc : Nat) (qc : Nat → Nat) (vc : Nat → Int) (ac : Nat → Int → Int) (qf : Nat → Nat) (vf : Nat → Int) (af : Nat → Int → Int) (w : Int)  (h1 : -2147483648 ≤ w ∧ w < 2147483648) (h2 : 0 ≤ vf 1 ∧ vf 1 ≤ 640) : zC l yX10_end wsX10_end { frames := 0, cells := 0, slots := 0, locals := 0 } G (tyZ cI cJ cO) (S := Int) [.ref hc, .int (iI w)] ((dO cI cJ hc qc vc ac) ++ (tW cI cJ (qc 0) qf vf af)) (zI (fun _ => bI (0 ≤ w ∧ w ≤ vf 1))) (fun u => u = if 0 ≤ w ∧ w ≤ vf 1 then w else vf 1) (fun u => (dO cI cJ hc qc vc ac) ++ (tW cI cJ (qc 0) qf (uV vf 1 u) af)) 0 0 := by
  refine z_start (cc := cX10_end) (maxL := 2) (ret := (some .boolean)) (by decide) rfl (Nat.le_of_ble_eq_true rfl) ?_
  intro p e s m below meth c A ls F hr hlk hnm hAe hA hW hl
  have hx := F.1
  have hb := F.2.1
  have hown : s.vm.findClass RX10 = some m.cls := F.2.2.2.1
  have hts := F.2.2.2.2
  have hl : lv_has ls 2 [(0, .ref hc), (1, .int (iI w))] := hl
  refine lv_iload_n hx hb dX10_end_0 rfl (lv_at hl 1 rfl) ?_
  refine z_if_lt (tgt := 15) hx hb dX10_end_1 (by decide) ⟨by omega, by omega⟩ (fun c1 => ?_) (fun c1 => ?_)
  · refine z_iconst (n := 0) hx hb dX10_end_15 ?_
    exact z_zret hx hb hr hlk (by first | exact Or.inl rfl | exact Or.inr rfl | omega) hW (vf 1) (by exact bI_f (by omega)) (show _ = _ from (if_neg (by omega)).symm) rfl dX10_end_16
  · refine lv_iload_n hx hb dX10_end_4 rfl (lv_at hl 1 rfl) ?_
    refine lv_aload_n hx hb dX10_end_5 rfl (lv_at hl 0 rfl) ?_
    refine z_get (v := .ref (qc 0)) hx hb hts hiX10_end_X10 hown hW 0 0 1 rfl rfl rfl (by decide) rfl dX10_end_6 ?_
    refine z_get (v := .int (iI (vf 1))) hx hb hts hiX10_end_X6 hown hW 1 1 2 rfl rfl rfl (by decide) rfl dX10_end_9 ?_
    refine z_icmp_le (tgt := 17) hx hb dX10_end_12 (by decide) ⟨by omega, by omega⟩ ⟨by omega, by omega⟩ (fun c12 => ?_) (fun c12 => ?_)
    · refine lv_aload_n hx hb dX10_end_17 rfl (lv_at hl 0 rfl) ?_
      refine z_get (v := .ref (qc 0)) hx hb hts hiX10_end_X10 hown hW 0 0 1 rfl rfl rfl (by decide) rfl dX10_end_18 ?_
      refine lv_iload_n hx hb dX10_end_21 rfl (lv_at hl 1 rfl) ?_
      refine z_put hx hb hts hiX10_end_X6 tyX6 tyX6_ok nmX6 hown hW 1 1 2 rfl rfl (by decide) (Nat.le_of_ble_eq_true rfl) rfl rfl rfl rfl dX10_end_22 (fun H locs hW => ?_)
      have hW : zW G (tyZ cI cJ cO) A s ((dO cI cJ hc qc vc ac) ++ (tW cI cJ (qc 0) qf (uV vf 1 w) af)) H locs := hW
      refine z_iconst (n := 1) hx hb dX10_end_25 ?_
      exact z_zret hx hb hr hlk (by first | exact Or.inl rfl | exact Or.inr rfl | omega) hW w (by exact bI_t (by omega)) (show _ = _ from (if_pos (by omega)).symm) rfl dX10_end_26
    · refine z_iconst (n := 0) hx hb dX10_end_15 ?_
      exact z_zret hx hb hr hlk (by first | exact Or.inl rfl | exact Or.inr rfl | omega) hW (vf 1) (by exact bI_f (by omega)) (show _ = _ from (if_neg (by omega)).symm) rfl dX10_end_16
theorem hiX10_now_X10 : ∀ w ∈ wsX100, w ∈ wsX10_now := fun _ h => List.mem_cons_of_mem _ (List.mem_append_left _ (List.mem_append_left _ (List.mem_append_left _ (List.mem_append_left _ (List.mem_append_right _ h)))))
theorem hiX10_now_X1 : ∀ w ∈ wsX10, w ∈ wsX10_now := fun _ h => List.mem_cons_of_mem _ (List.mem_append_left _ (List.mem_append_left _ (List.mem_append_left _ (List.mem_append_right _ h))))
theorem hiX10_now_X8 : ∀ w ∈ wsX80, w ∈ wsX10_now := fun _ h => List.mem_cons_of_mem _ (List.mem_append_left _ (List.mem_append_left _ (List.mem_append_right _ h)))
theorem hiX10_now_X0 : ∀ w ∈ wsX00, w ∈ wsX10_now := fun _ h => List.mem_cons_of_mem _ (List.mem_append_left _ (List.mem_append_right _ h))
theorem hiX10_now_X6 : ∀ w ∈ wsX60, w ∈ wsX10_now := fun _ h => List.mem_cons_of_mem _ (List.mem_append_right _ h)
theorem ziX10_now : yX10_now.cls = RX10 ∧ yX10_now.cls ≠ "java/lang/invoke/MethodHandle" ∧ yX10_now.cls ≠ "java/lang/invoke/VarHandle" ∧ (parseMethodDescriptor yX10_now.desc).map (fun d => d.parameters.length) = some 1 := by decide +kernel
set_option maxHeartbeats 4000000 in
set_option maxRecDepth 100000 in
theorem c_X10_now {l : Launch} {G : va_G} {cI cJ cO : ClassId}  (hc : Nat) (qc : Nat → Nat) (vc : Nat → Int) (ac : Nat → Int → Int) (qf : Nat → Nat) (vf : Nat → Int) (af : Nat → Int → Int) (qy : Nat → Nat) (vy : Nat → Int) (ay : Nat → Int → Int) (qB : Nat → Nat) (vB : Nat → Int) (aB : Nat → Int → Int) (qv : Nat → Nat) (vv : Nat → Int) (av : Nat → Int → Int) (w : Int)  (h1 : -2147483648 ≤ w ∧ w < 2147483648) : zC l yX10_now wsX10_now { frames := 0, cells := 0, slots := 0, locals := 0 } G (tyZ cI cJ cO) (S := Unit) [.ref hc, .int (iI w)] ((dO cI cJ hc qc vc ac) ++ ((tW cI cJ (qc 0) qf vf af) ++ ((aW cI cJ (qc 2) qy vy ay) ++ ((bO cI cJ (qc 6) qB vB aB) ++ (vW cI cJ (qB 0) qv vv av))))) (zI (fun _ => if w = 0 then vc 8 else if w = 1 then vB 3 else if w = 2 then vB 4 else if w = 3 then vv 2 else if w = 4 then vy 3 else if w = 5 then vf 1 else -1)) (fun _ => True) (fun _ => (dO cI cJ hc qc vc ac) ++ ((tW cI cJ (qc 0) qf vf af) ++ ((aW cI cJ (qc 2) qy vy ay) ++ ((bO cI cJ (qc 6) qB vB aB) ++ (vW cI cJ (qB 0) qv vv av))))) 0 0 := by
  refine z_start (cc := cX10_now) (maxL := 2) (ret := (some .int)) (by decide) rfl (Nat.le_of_ble_eq_true rfl) ?_
  intro p e s m below meth c A ls F hr hlk hnm hAe hA hW hl
  have hx := F.1
  have hb := F.2.1
  have hown : s.vm.findClass RX10 = some m.cls := F.2.2.2.1
  have hts := F.2.2.2.2
  have hl : lv_has ls 2 [(0, .ref hc), (1, .int (iI w))] := hl
  refine lv_iload_n hx hb dX10_now_0 rfl (lv_at hl 1 rfl) ?_
  by_cases c1_0 : w = 0
  · refine z_tabIn (z := 0) (tgt := 40) hx hb dX10_now_1 c1_0 (by decide) (by decide) (by decide) rfl (by decide) ?_
    refine lv_aload_n hx hb dX10_now_40 rfl (lv_at hl 0 rfl) ?_
    refine z_get (v := .int (iI (vc 8))) hx hb hts hiX10_now_X10 hown hW 0 8 1 rfl rfl rfl (by decide) rfl dX10_now_41 ?_
    exact z_iret hx hb hr hlk hW () (by first | rw [if_pos (by assumption)] | rw [if_neg (by assumption), if_pos (by assumption)] | rw [if_neg (by assumption), if_neg (by assumption), if_pos (by assumption)] | rw [if_neg (by assumption), if_neg (by assumption), if_neg (by assumption), if_pos (by assumption)] | rw [if_neg (by assumption), if_neg (by assumption), if_neg (by assumption), if_neg (by assumption), if_pos (by assumption)] | rw [if_neg (by assumption), if_neg (by assumption), if_neg (by assumption), if_neg (by assumption), if_neg (by assumption), if_pos (by assumption)] | rw [if_neg (by assumption), if_neg (by assumption), if_neg (by assumption), if_neg (by assumption), if_neg (by assumption), if_neg (by assumption)]) trivial rfl dX10_now_44
  by_cases c1_1 : w = 1
  · refine z_tabIn (z := 1) (tgt := 45) hx hb dX10_now_1 c1_1 (by decide) (by decide) (by decide) rfl (by decide) ?_
    refine lv_aload_n hx hb dX10_now_45 rfl (lv_at hl 0 rfl) ?_
    refine z_get (v := .ref (qc 6)) hx hb hts hiX10_now_X10 hown hW 0 6 2 rfl rfl rfl (by decide) rfl dX10_now_46 ?_
    refine z_get (v := .int (iI (vB 3))) hx hb hts hiX10_now_X1 hown hW 7 3 3 rfl rfl rfl (by decide) rfl dX10_now_49 ?_
    exact z_iret hx hb hr hlk hW () (by first | rw [if_pos (by assumption)] | rw [if_neg (by assumption), if_pos (by assumption)] | rw [if_neg (by assumption), if_neg (by assumption), if_pos (by assumption)] | rw [if_neg (by assumption), if_neg (by assumption), if_neg (by assumption), if_pos (by assumption)] | rw [if_neg (by assumption), if_neg (by assumption), if_neg (by assumption), if_neg (by assumption), if_pos (by assumption)] | rw [if_neg (by assumption), if_neg (by assumption), if_neg (by assumption), if_neg (by assumption), if_neg (by assumption), if_pos (by assumption)] | rw [if_neg (by assumption), if_neg (by assumption), if_neg (by assumption), if_neg (by assumption), if_neg (by assumption), if_neg (by assumption)]) trivial rfl dX10_now_52
  by_cases c1_2 : w = 2
  · refine z_tabIn (z := 2) (tgt := 53) hx hb dX10_now_1 c1_2 (by decide) (by decide) (by decide) rfl (by decide) ?_
    refine lv_aload_n hx hb dX10_now_53 rfl (lv_at hl 0 rfl) ?_
    refine z_get (v := .ref (qc 6)) hx hb hts hiX10_now_X10 hown hW 0 6 2 rfl rfl rfl (by decide) rfl dX10_now_54 ?_
    refine z_get (v := .int (iI (vB 4))) hx hb hts hiX10_now_X1 hown hW 7 4 4 rfl rfl rfl (by decide) rfl dX10_now_57 ?_
    exact z_iret hx hb hr hlk hW () (by first | rw [if_pos (by assumption)] | rw [if_neg (by assumption), if_pos (by assumption)] | rw [if_neg (by assumption), if_neg (by assumption), if_pos (by assumption)] | rw [if_neg (by assumption), if_neg (by assumption), if_neg (by assumption), if_pos (by assumption)] | rw [if_neg (by assumption), if_neg (by assumption), if_neg (by assumption), if_neg (by assumption), if_pos (by assumption)] | rw [if_neg (by assumption), if_neg (by assumption), if_neg (by assumption), if_neg (by assumption), if_neg (by assumption), if_pos (by assumption)] | rw [if_neg (by assumption), if_neg (by assumption), if_neg (by assumption), if_neg (by assumption), if_neg (by assumption), if_neg (by assumption)]) trivial rfl dX10_now_60
  by_cases c1_3 : w = 3
  · refine z_tabIn (z := 3) (tgt := 61) hx hb dX10_now_1 c1_3 (by decide) (by decide) (by decide) rfl (by decide) ?_
    refine lv_aload_n hx hb dX10_now_61 rfl (lv_at hl 0 rfl) ?_
    refine z_get (v := .ref (qc 6)) hx hb hts hiX10_now_X10 hown hW 0 6 2 rfl rfl rfl (by decide) rfl dX10_now_62 ?_
    refine z_get (v := .ref (qB 0)) hx hb hts hiX10_now_X1 hown hW 7 0 5 rfl rfl rfl (by decide) rfl dX10_now_65 ?_
    refine z_get (v := .int (iI (vv 2))) hx hb hts hiX10_now_X8 hown hW 9 2 6 rfl rfl rfl (by decide) rfl dX10_now_68 ?_
    exact z_iret hx hb hr hlk hW () (by first | rw [if_pos (by assumption)] | rw [if_neg (by assumption), if_pos (by assumption)] | rw [if_neg (by assumption), if_neg (by assumption), if_pos (by assumption)] | rw [if_neg (by assumption), if_neg (by assumption), if_neg (by assumption), if_pos (by assumption)] | rw [if_neg (by assumption), if_neg (by assumption), if_neg (by assumption), if_neg (by assumption), if_pos (by assumption)] | rw [if_neg (by assumption), if_neg (by assumption), if_neg (by assumption), if_neg (by assumption), if_neg (by assumption), if_pos (by assumption)] | rw [if_neg (by assumption), if_neg (by assumption), if_neg (by assumption), if_neg (by assumption), if_neg (by assumption), if_neg (by assumption)]) trivial rfl dX10_now_71
  by_cases c1_4 : w = 4
  · refine z_tabIn (z := 4) (tgt := 72) hx hb dX10_now_1 c1_4 (by decide) (by decide) (by decide) rfl (by decide) ?_
    refine lv_aload_n hx hb dX10_now_72 rfl (lv_at hl 0 rfl) ?_
    refine z_get (v := .ref (qc 2)) hx hb hts hiX10_now_X10 hown hW 0 2 7 rfl rfl rfl (by decide) rfl dX10_now_73 ?_
    refine z_get (v := .int (iI (vy 3))) hx hb hts hiX10_now_X0 hown hW 3 3 8 rfl rfl rfl (by decide) rfl dX10_now_76 ?_
    exact z_iret hx hb hr hlk hW () (by first | rw [if_pos (by assumption)] | rw [if_neg (by assumption), if_pos (by assumption)] | rw [if_neg (by assumption), if_neg (by assumption), if_pos (by assumption)] | rw [if_neg (by assumption), if_neg (by assumption), if_neg (by assumption), if_pos (by assumption)] | rw [if_neg (by assumption), if_neg (by assumption), if_neg (by assumption), if_neg (by assumption), if_pos (by assumption)] | rw [if_neg (by assumption), if_neg (by assumption), if_neg (by assumption), if_neg (by assumption), if_neg (by assumption), if_pos (by assumption)] | rw [if_neg (by assumption), if_neg (by assumption), if_neg (by assumption), if_neg (by assumption), if_neg (by assumption), if_neg (by assumption)]) trivial rfl dX10_now_79
  by_cases c1_5 : w = 5
  · refine z_tabIn (z := 5) (tgt := 80) hx hb dX10_now_1 c1_5 (by decide) (by decide) (by decide) rfl (by decide) ?_
    refine lv_aload_n hx hb dX10_now_80 rfl (lv_at hl 0 rfl) ?_
    refine z_get (v := .ref (qc 0)) hx hb hts hiX10_now_X10 hown hW 0 0 9 rfl rfl rfl (by decide) rfl dX10_now_81 ?_
    refine z_get (v := .int (iI (vf 1))) hx hb hts hiX10_now_X6 hown hW 1 1 10 rfl rfl rfl (by decide) rfl dX10_now_84 ?_
    exact z_iret hx hb hr hlk hW () (by first | rw [if_pos (by assumption)] | rw [if_neg (by assumption), if_pos (by assumption)] | rw [if_neg (by assumption), if_neg (by assumption), if_pos (by assumption)] | rw [if_neg (by assumption), if_neg (by assumption), if_neg (by assumption), if_pos (by assumption)] | rw [if_neg (by assumption), if_neg (by assumption), if_neg (by assumption), if_neg (by assumption), if_pos (by assumption)] | rw [if_neg (by assumption), if_neg (by assumption), if_neg (by assumption), if_neg (by assumption), if_neg (by assumption), if_pos (by assumption)] | rw [if_neg (by assumption), if_neg (by assumption), if_neg (by assumption), if_neg (by assumption), if_neg (by assumption), if_neg (by assumption)]) trivial rfl dX10_now_87
  refine z_tabOut (tgt := 88) hx hb dX10_now_1 ⟨by omega, by omega⟩ (by omega) (by decide) ?_
  refine z_iconst (n := -1) hx hb dX10_now_88 ?_
  exact z_iret hx hb hr hlk hW () (by first | rw [if_pos (by assumption)] | rw [if_neg (by assumption), if_pos (by assumption)] | rw [if_neg (by assumption), if_neg (by assumption), if_pos (by assumption)] | rw [if_neg (by assumption), if_neg (by assumption), if_neg (by assumption), if_pos (by assumption)] | rw [if_neg (by assumption), if_neg (by assumption), if_neg (by assumption), if_neg (by assumption), if_pos (by assumption)] | rw [if_neg (by assumption), if_neg (by assumption), if_neg (by assumption), if_neg (by assumption), if_neg (by assumption), if_pos (by assumption)] | rw [if_neg (by assumption), if_neg (by assumption), if_neg (by assumption), if_neg (by assumption), if_neg (by assumption), if_neg (by assumption)]) trivial rfl dX10_now_89
theorem hiX10_refusalOf_X10 : ∀ w ∈ wsX100, w ∈ wsX10_refusalOf := fun _ h => List.mem_cons_of_mem _ (List.mem_append_left _ (List.mem_append_left _ (List.mem_append_right _ h)))
theorem hiX10_refusalOf_X1 : ∀ w ∈ wsX10, w ∈ wsX10_refusalOf := fun _ h => List.mem_cons_of_mem _ (List.mem_append_left _ (List.mem_append_right _ h))
theorem hiX10_refusalOf_X8 : ∀ w ∈ wsX80, w ∈ wsX10_refusalOf := fun _ h => List.mem_cons_of_mem _ (List.mem_append_right _ h)
theorem ziX10_refusalOf : yX10_refusalOf.cls = RX10 ∧ yX10_refusalOf.cls ≠ "java/lang/invoke/MethodHandle" ∧ yX10_refusalOf.cls ≠ "java/lang/invoke/VarHandle" ∧ (parseMethodDescriptor yX10_refusalOf.desc).map (fun d => d.parameters.length) = some 2 := by decide +kernel
set_option maxHeartbeats 4000000 in
set_option maxRecDepth 100000 in
theorem c_X10_refusalOf {l : Launch} {G : va_G} {cI cJ cO : ClassId} (N : Int → Int) (hc : Nat) (qc : Nat → Nat) (vc : Nat → Int) (ac : Nat → Int → Int) (qB : Nat → Nat) (vB : Nat → Int) (aB : Nat → Int → Int) (qv : Nat → Nat) (vv : Nat → Int) (av : Nat → Int → Int) (y z : Int)  (h1 : -2147483648 ≤ y ∧ y < 2147483648) (h2 : -2147483648 ≤ z ∧ z < 2147483648) (hV : WFv N) (hRV : RV N av) (hcn : vv 2 = CNTV N 240 ∧ CNTV N 240 ≤ 40) : zC l yX10_refusalOf wsX10_refusalOf { frames := 1, cells := 0, slots := 0, locals := 21 } G (tyZ cI cJ cO) (S := Unit) [.ref hc, .int (iI y), .int (iI z)] ((dO cI cJ hc qc vc ac) ++ ((bO cI cJ (qc 6) qB vB aB) ++ (vW cI cJ (qB 0) qv vv av))) (zI (fun _ => WHY N y z)) (fun _ => True) (fun _ => (dO cI cJ hc qc vc ac) ++ ((bO cI cJ (qc 6) qB vB aB) ++ (vW cI cJ (qB 0) qv vv av))) 0 0 := by
  refine z_start (cc := cX10_refusalOf) (maxL := 3) (ret := (some .int)) (by decide) rfl (Nat.le_of_ble_eq_true rfl) ?_
  intro p e s m below meth c A ls F hr hlk hnm hAe hA hW hl
  have hx := F.1
  have hb := F.2.1
  have hown : s.vm.findClass RX10 = some m.cls := F.2.2.2.1
  have hts := F.2.2.2.2
  have hl : lv_has ls 3 [(0, .ref hc), (1, .int (iI y)), (2, .int (iI z))] := hl
  have cr := CNTV_R (N := N) 240
  refine lv_iload_n hx hb dX10_refusalOf_0 rfl (lv_at hl 1 rfl) ?_
  refine z_callS (As := [.int (iI y)]) (rest := []) F (c_X10_isMonth   y  (show -2147483648 ≤ y ∧ y < 2147483648 by omega)) gX10_refusalOf_X10_isMonth rfl ziX10_isMonth ⟨rfl, rfl, by decide, by decide⟩ rfl hl.1 rfl (Nat.le_of_ble_eq_true rfl) dX10_refusalOf_1 ⟨Nat.zero_le _, Nat.zero_le _⟩ hW hA [] rfl (by decide) (fun _ => rfl) (fun _ => (dO cI cJ hc qc vc ac) ++ ((bO cI cJ (qc 6) qB vB aB) ++ (vW cI cJ (qB 0) qv vv av))) (fun _ => rfl) (fun _ => [.int (iI (bI (0 ≤ y ∧ y < 240)))]) (fun _ => rfl) (fun _ H locs hp1 hW => ?_)
  refine z_b_eq (tgt := 33) hx hb dX10_refusalOf_4 (by decide) (fun c4 => ?_) (fun c4 => ?_)
  · refine z_iconst (n := -1) hx hb dX10_refusalOf_33 ?_
    exact z_iret hx hb hr hlk hW () (by unfold WHY; first | (rw [if_pos ⟨by omega, by omega, by omega⟩]; first | exact if_pos (by omega) | exact if_neg (by omega)) | exact if_neg (fun q9 => by obtain ⟨q1, q2, q3⟩ := q9; omega)) trivial rfl dX10_refusalOf_34
  · refine lv_iload_n hx hb dX10_refusalOf_7 rfl (lv_at hl 2 rfl) ?_
    refine z_iconst (n := 1) hx hb dX10_refusalOf_8 ?_
    refine z_icmp_lt (tgt := 33) hx hb dX10_refusalOf_9 (by decide) ⟨by omega, by omega⟩ (by decide) (fun c9 => ?_) (fun c9 => ?_)
    · refine z_iconst (n := -1) hx hb dX10_refusalOf_33 ?_
      exact z_iret hx hb hr hlk hW () (by unfold WHY; first | (rw [if_pos ⟨by omega, by omega, by omega⟩]; first | exact if_pos (by omega) | exact if_neg (by omega)) | exact if_neg (fun q9 => by obtain ⟨q1, q2, q3⟩ := q9; omega)) trivial rfl dX10_refusalOf_34
    · refine lv_iload_n hx hb dX10_refusalOf_12 rfl (lv_at hl 2 rfl) ?_
      refine z_sipush hx hb dX10_refusalOf_13 (by decide +kernel) ?_
      refine z_icmp_gt (tgt := 33) hx hb dX10_refusalOf_16 (by decide) ⟨by omega, by omega⟩ (by decide) (fun c16 => ?_) (fun c16 => ?_)
      · refine z_iconst (n := -1) hx hb dX10_refusalOf_33 ?_
        exact z_iret hx hb hr hlk hW () (by unfold WHY; first | (rw [if_pos ⟨by omega, by omega, by omega⟩]; first | exact if_pos (by omega) | exact if_neg (by omega)) | exact if_neg (fun q9 => by obtain ⟨q1, q2, q3⟩ := q9; omega)) trivial rfl dX10_refusalOf_34
      · have rv := hRV y (by omega) (by omega)
        have vv_ := hV y (by omega) (by omega)
        refine lv_aload_n hx hb dX10_refusalOf_19 rfl (lv_at hl 0 rfl) ?_
        refine z_get (v := .ref (qc 6)) hx hb hts hiX10_refusalOf_X10 hown hW 0 6 1 rfl rfl rfl (by decide) rfl dX10_refusalOf_20 ?_
        refine z_get (v := .ref (qB 0)) hx hb hts hiX10_refusalOf_X1 hown hW 1 0 2 rfl rfl rfl (by decide) rfl dX10_refusalOf_23 ?_
        refine lv_iload_n hx hb dX10_refusalOf_26 rfl (lv_at hl 1 rfl) ?_
        refine z_callV (As := [.int (iI y)]) (rest := []) F (c_X8_has  (qB 0) qv vv av y  (show -2147483648 ≤ y ∧ y < 2147483648 by omega) (fun a1 a2 => by have q8 := hRV y a1 a2; have q7 := hV y a1 (by omega); rw [q8.1]; omega)) gX10_refusalOf_X8_has rfl ziX8_has ⟨rfl, rfl, by decide, by decide⟩ rfl hl.1 rfl (Nat.le_of_ble_eq_true rfl) dX10_refusalOf_27 ⟨Nat.zero_le _, Nat.zero_le _⟩ hW hA [3, 4, 5] rfl (by decide) (fun _ => rfl) (fun _ => (dO cI cJ hc qc vc ac) ++ ((bO cI cJ (qc 6) qB vB aB) ++ (vW cI cJ (qB 0) qv vv av))) (fun _ => rfl) (fun _ => [.int (iI (bI ((0 ≤ y ∧ y < 240) ∧ (av 0) y ≠ 0)))]) (fun _ => rfl) 3 rfl rfl rfl (fun _ H locs hp27 hW => ?_)
        refine z_b_eq (tgt := 35) hx hb dX10_refusalOf_30 (by decide) (fun c30 => ?_) (fun c30 => ?_)
        · refine lv_aload_n hx hb dX10_refusalOf_35 rfl (lv_at hl 0 rfl) ?_
          refine z_get (v := .ref (qc 6)) hx hb hts hiX10_refusalOf_X10 hown hW 0 6 1 rfl rfl rfl (by decide) rfl dX10_refusalOf_36 ?_
          refine z_get (v := .ref (qB 0)) hx hb hts hiX10_refusalOf_X1 hown hW 1 0 2 rfl rfl rfl (by decide) rfl dX10_refusalOf_39 ?_
          refine z_get (v := .int (iI (vv 2))) hx hb hts hiX10_refusalOf_X8 hown hW 3 2 3 rfl rfl rfl (by decide) rfl dX10_refusalOf_42 ?_
          refine z_bipush hx hb dX10_refusalOf_45 (by decide +kernel) ?_
          refine z_icmp_lt (tgt := 55) hx hb dX10_refusalOf_47 (by decide) ⟨by omega, by omega⟩ (by decide) (fun c47 => ?_) (fun c47 => ?_)
          · refine z_iconst (n := 0) hx hb dX10_refusalOf_55 ?_
            exact z_iret hx hb hr hlk hW () (by unfold WHY; first | (rw [if_pos ⟨by omega, by omega, by omega⟩]; first | exact if_pos (by omega) | exact if_neg (by omega)) | exact if_neg (fun q9 => by obtain ⟨q1, q2, q3⟩ := q9; omega)) trivial rfl dX10_refusalOf_56
          · refine z_bipush hx hb dX10_refusalOf_50 (by decide +kernel) ?_
            refine lv_goto (tgt := 56) hx hb dX10_refusalOf_52 (by decide) ?_
            exact z_iret hx hb hr hlk hW () (by unfold WHY; first | (rw [if_pos ⟨by omega, by omega, by omega⟩]; first | exact if_pos (by omega) | exact if_neg (by omega)) | exact if_neg (fun q9 => by obtain ⟨q1, q2, q3⟩ := q9; omega)) trivial rfl dX10_refusalOf_56
        · refine z_iconst (n := -1) hx hb dX10_refusalOf_33 ?_
          exact z_iret hx hb hr hlk hW () (by unfold WHY; first | (rw [if_pos ⟨by omega, by omega, by omega⟩]; first | exact if_pos (by omega) | exact if_neg (by omega)) | exact if_neg (fun q9 => by obtain ⟨q1, q2, q3⟩ := q9; omega)) trivial rfl dX10_refusalOf_34
theorem hiX10_publish_X10 : ∀ w ∈ wsX100, w ∈ wsX10_publish := fun _ h => List.mem_cons_of_mem _ (List.mem_append_left _ (List.mem_append_left _ (List.mem_append_left _ (List.mem_append_right _ h))))
theorem hiX10_publish_X1 : ∀ w ∈ wsX10, w ∈ wsX10_publish := fun _ h => List.mem_cons_of_mem _ (List.mem_append_left _ (List.mem_append_left _ (List.mem_append_right _ h)))
theorem hiX10_publish_X8 : ∀ w ∈ wsX80, w ∈ wsX10_publish := fun _ h => List.mem_cons_of_mem _ (List.mem_append_left _ (List.mem_append_right _ h))
theorem hiX10_publish_X0 : ∀ w ∈ wsX00, w ∈ wsX10_publish := fun _ h => List.mem_cons_of_mem _ (List.mem_append_right _ h)
theorem ziX10_publish : yX10_publish.cls = RX10 ∧ yX10_publish.cls ≠ "java/lang/invoke/MethodHandle" ∧ yX10_publish.cls ≠ "java/lang/invoke/VarHandle" ∧ (parseMethodDescriptor yX10_publish.desc).map (fun d => d.parameters.length) = some 2 := by decide +kernel
set_option maxHeartbeats 4000000 in
set_option maxRecDepth 100000 in
theorem c_X10_publish {l : Launch} {G : va_G} {cI cJ cO : ClassId} (N : Int → Int) (hc : Nat) (qc : Nat → Nat) (vc : Nat → Int) (ac : Nat → Int → Int) (qy : Nat → Nat) (vy : Nat → Int) (ay : Nat → Int → Int) (qB : Nat → Nat) (vB : Nat → Int) (aB : Nat → Int → Int) (qv : Nat → Nat) (vv : Nat → Int) (av : Nat → Int → Int) (y z : Int)  (h1 : -2147483648 ≤ y ∧ y < 2147483648) (h2 : -2147483648 ≤ z ∧ z < 2147483648) (hok : ¬ WHY N y z < 0) (hnow : 0 ≤ vc 8 ∧ vc 8 ≤ 239) (hac : 0 ≤ vy 3 ∧ vy 3 ≤ 10) (hWF : WF N) (hRV : RV N av) (hcn : vv 2 = CNTV N 240 ∧ CNTV N 240 ≤ 40) : zC l yX10_publish wsX10_publish { frames := 2, cells := 0, slots := 0, locals := 44 } G (tyZ cI cJ cO) (S := (Int → Int) × (Int → Int) × (Int → Int) × Int) [.ref hc, .int (iI y), .int (iI z)] ((dO cI cJ hc qc vc ac) ++ ((aW cI cJ (qc 2) qy vy ay) ++ ((bO cI cJ (qc 6) qB vB aB) ++ (vW cI cJ (qB 0) qv vv av)))) (zI (fun _ => vv 2 + 1)) (fun u => KEPT (ay 0) (vy 3) 1 u.1 ∧ KEPT (ay 1) (vy 3) (-1) u.2.1 ∧ KEPT (ay 2) (vy 3) y u.2.2.1 ∧ u.2.2.2 = (if vy 3 = 10 then 10 else vy 3 + 1)) (fun u => (dO cI cJ hc qc vc ac) ++ ((aW cI cJ (qc 2) qy (uV vy 3 u.2.2.2) (uA (uA (uA ay 0 u.1) 1 u.2.1) 2 u.2.2.1)) ++ ((bO cI cJ (qc 6) qB vB (uA aB 2 (uI (aB 2) (vc 8) (aB 2 (vc 8) + 1)))) ++ (vW cI cJ (qB 0) qv (uV vv 2 (vv 2 + 1)) (uA (uA av 0 (uI (av 0) y z)) 1 (uI (av 1) y (vc 8))))))) 0 0 := by
  refine z_start (cc := cX10_publish) (maxL := 4) (ret := (some .int)) (by decide) rfl (Nat.le_of_ble_eq_true rfl) ?_
  intro p e s m below meth c A ls F hr hlk hnm hAe hA hW hl
  have hx := F.1
  have hb := F.2.1
  have hown : s.vm.findClass RX10 = some m.cls := F.2.2.2.1
  have hts := F.2.2.2.2
  have hl : lv_has ls 4 [(0, .ref hc), (1, .int (iI y)), (2, .int (iI z))] := hl
  obtain ⟨w0, w1, w2, hV, hls⟩ := id hWF
  have wr : WHY N y z = -1 ∨ WHY N y z = -2 ∨ WHY N y z = 0 := by unfold WHY; split <;> first | (split <;> omega) | omega
  have w9 : ((0 ≤ y ∧ y ≤ 239) ∧ (1 ≤ z ∧ z ≤ 9999) ∧ ¬ 0 < N (3 + y)) := by unfold WHY at hok; split at hok; (rename_i q9; exact q9); omega
  refine lv_aload_n hx hb dX10_publish_0 rfl (lv_at hl 0 rfl) ?_
  refine lv_iload_n hx hb dX10_publish_1 rfl (lv_at hl 1 rfl) ?_
  refine lv_iload_n hx hb dX10_publish_2 rfl (lv_at hl 2 rfl) ?_
  refine z_callV (As := [.int (iI y), .int (iI z)]) (rest := []) F (c_X10_refusalOf N hc qc vc ac qB vB aB qv vv av y z  (show -2147483648 ≤ y ∧ y < 2147483648 by omega) (show -2147483648 ≤ z ∧ z < 2147483648 by omega) hV hRV hcn) gX10_publish_X10_refusalOf rfl ziX10_refusalOf ⟨rfl, rfl, by decide, by decide⟩ rfl hl.1 rfl (Nat.le_of_ble_eq_true rfl) dX10_publish_3 ⟨Nat.zero_le _, Nat.zero_le _⟩ hW hA [0, 5, 6, 7, 8, 9] rfl (by decide) (fun _ => rfl) (fun _ => (dO cI cJ hc qc vc ac) ++ ((aW cI cJ (qc 2) qy vy ay) ++ ((bO cI cJ (qc 6) qB vB aB) ++ (vW cI cJ (qB 0) qv vv av)))) (fun _ => rfl) (fun _ => [.int (iI (WHY N y z))]) (fun _ => rfl) 0 rfl rfl rfl (fun _ H locs hp3 hW => ?_)
  refine lv_istore_n (lv' := [(3, .int (iI (WHY N y z))), (0, .ref hc), (1, .int (iI y)), (2, .int (iI z))]) hx hb dX10_publish_6 rfl hl (by decide) rfl (fun ls hl => ?_)
  refine lv_iload_n hx hb dX10_publish_7 rfl (lv_at hl 0 rfl) ?_
  refine z_if_eq (tgt := 13) hx hb dX10_publish_8 (by decide) ⟨by omega, by omega⟩ (fun c8 => ?_) (fun c8 => ?_)
  · refine lv_aload_n hx hb dX10_publish_13 rfl (lv_at hl 1 rfl) ?_
    refine z_get (v := .ref (qc 6)) hx hb hts hiX10_publish_X10 hown hW 0 6 1 rfl rfl rfl (by decide) rfl dX10_publish_14 ?_
    refine z_get (v := .ref (qB 0)) hx hb hts hiX10_publish_X1 hown hW 5 0 2 rfl rfl rfl (by decide) rfl dX10_publish_17 ?_
    refine lv_iload_n hx hb dX10_publish_20 rfl (lv_at hl 2 rfl) ?_
    refine lv_iload_n hx hb dX10_publish_21 rfl (lv_at hl 3 rfl) ?_
    refine lv_aload_n hx hb dX10_publish_22 rfl (lv_at hl 1 rfl) ?_
    refine z_get (v := .int (iI (vc 8))) hx hb hts hiX10_publish_X10 hown hW 0 8 3 rfl rfl rfl (by decide) rfl dX10_publish_23 ?_
    refine z_callV (As := [.int (iI y), .int (iI z), .int (iI (vc 8))]) (rest := []) F (c_X8_tell  (qB 0) qv vv av y z (vc 8)  (show 0 ≤ y ∧ y < 240 by omega)) gX10_publish_X8_tell rfl ziX8_tell ⟨rfl, rfl, by decide, by decide⟩ rfl hl.1 rfl (Nat.le_of_ble_eq_true rfl) dX10_publish_26 ⟨Nat.zero_le _, Nat.zero_le _⟩ hW hA [7, 8, 9] rfl (by decide) (fun _ => rfl) (fun _ => (dO cI cJ hc qc vc ac) ++ ((aW cI cJ (qc 2) qy vy ay) ++ ((bO cI cJ (qc 6) qB vB aB) ++ (vW cI cJ (qB 0) qv (uV vv 2 ((vv 2) + 1)) (uA (uA av 0 (uI ((av 0)) y z)) 1 (uI ((av 1)) y (vc 8))))))) (fun _ => rfl) (fun _ => []) (fun _ => rfl) 7 rfl rfl rfl (fun _ H locs hp26 hW => ?_)
    have hW : zW G (tyZ cI cJ cO) A s ((dO cI cJ hc qc vc ac) ++ ((aW cI cJ (qc 2) qy vy ay) ++ ((bO cI cJ (qc 6) qB vB aB) ++ (vW cI cJ (qB 0) qv (uV vv 2 ((vv 2) + 1)) (uA (uA av 0 (uI ((av 0)) y z)) 1 (uI ((av 1)) y (vc 8))))))) H locs := hW
    refine lv_aload_n hx hb dX10_publish_29 rfl (lv_at hl 1 rfl) ?_
    refine z_get (v := .ref (qc 6)) hx hb hts hiX10_publish_X10 hown hW 0 6 1 rfl rfl rfl (by decide) rfl dX10_publish_30 ?_
    refine lv_aload_n hx hb dX10_publish_33 rfl (lv_at hl 1 rfl) ?_
    refine z_get (v := .int (iI (vc 8))) hx hb hts hiX10_publish_X10 hown hW 0 8 3 rfl rfl rfl (by decide) rfl dX10_publish_34 ?_
    refine z_iconst (n := 1) hx hb dX10_publish_37 ?_
    refine z_callV (As := [.int (iI (vc 8)), .int (iI 1)]) (rest := []) F (c_X1_addNews  (qc 6) qB vB aB (vc 8) 1  (show 0 ≤ (vc 8) ∧ (vc 8) < 240 by omega)) gX10_publish_X1_addNews rfl ziX1_addNews ⟨rfl, rfl, by decide, by decide⟩ rfl hl.1 rfl (Nat.le_of_ble_eq_true rfl) dX10_publish_38 ⟨Nat.zero_le _, Nat.zero_le _⟩ hW hA [5, 6] rfl (by decide) (fun _ => rfl) (fun _ => (dO cI cJ hc qc vc ac) ++ ((aW cI cJ (qc 2) qy vy ay) ++ ((bO cI cJ (qc 6) qB vB (uA aB 2 (uI ((aB 2)) (vc 8) ((aB 2) (vc 8) + 1)))) ++ (vW cI cJ (qB 0) qv (uV vv 2 ((vv 2) + 1)) (uA (uA av 0 (uI ((av 0)) y z)) 1 (uI ((av 1)) y (vc 8))))))) (fun _ => rfl) (fun _ => []) (fun _ => rfl) 5 rfl rfl rfl (fun _ H locs hp38 hW => ?_)
    have hW : zW G (tyZ cI cJ cO) A s ((dO cI cJ hc qc vc ac) ++ ((aW cI cJ (qc 2) qy vy ay) ++ ((bO cI cJ (qc 6) qB vB (uA aB 2 (uI ((aB 2)) (vc 8) ((aB 2) (vc 8) + 1)))) ++ (vW cI cJ (qB 0) qv (uV vv 2 ((vv 2) + 1)) (uA (uA av 0 (uI ((av 0)) y z)) 1 (uI ((av 1)) y (vc 8))))))) H locs := hW
    refine lv_aload_n hx hb dX10_publish_41 rfl (lv_at hl 1 rfl) ?_
    refine z_get (v := .ref (qc 2)) hx hb hts hiX10_publish_X10 hown hW 0 2 4 rfl rfl rfl (by decide) rfl dX10_publish_42 ?_
    refine z_iconst (n := 1) hx hb dX10_publish_45 ?_
    refine z_iconst (n := -1) hx hb dX10_publish_46 ?_
    refine lv_iload_n hx hb dX10_publish_47 rfl (lv_at hl 2 rfl) ?_
    refine z_callV (As := [.int (iI 1), .int (iI (-1)), .int (iI y)]) (rest := []) F (c_X0_keep  (qc 2) qy vy ay 1 (-1) y  (show 0 ≤ (vy 3) ∧ (vy 3) ≤ 10 by omega)) gX10_publish_X0_keep rfl ziX0_keep ⟨rfl, rfl, by decide, by decide⟩ rfl hl.1 rfl (Nat.le_of_ble_eq_true rfl) dX10_publish_48 ⟨Nat.zero_le _, Nat.zero_le _⟩ hW hA [1, 2, 3, 4] rfl (by decide) (fun _ => rfl) (fun u => (dO cI cJ hc qc vc ac) ++ ((aW cI cJ (qc 2) qy (uV vy 3 u.2.2.2) (uA (uA (uA ay 0 u.1) 1 u.2.1) 2 u.2.2.1)) ++ ((bO cI cJ (qc 6) qB vB (uA aB 2 (uI ((aB 2)) (vc 8) ((aB 2) (vc 8) + 1)))) ++ (vW cI cJ (qB 0) qv (uV vv 2 ((vv 2) + 1)) (uA (uA av 0 (uI ((av 0)) y z)) 1 (uI ((av 1)) y (vc 8))))))) (fun _ => rfl) (fun u => []) (fun _ => rfl) 1 rfl rfl rfl (fun u H locs hp48 hW => ?_)
    obtain ⟨g0_1, g1_2, g2_3, c2_4⟩ := u
    have hp48 : KEPT ((ay 0)) ((vy 3)) 1 g0_1 ∧ KEPT ((ay 1)) ((vy 3)) (-1) g1_2 ∧ KEPT ((ay 2)) ((vy 3)) y g2_3 ∧ c2_4 = (if (vy 3) = 10 then 10 else (vy 3) + 1) := hp48
    have hW : zW G (tyZ cI cJ cO) A s ((dO cI cJ hc qc vc ac) ++ ((aW cI cJ (qc 2) qy (uV vy 3 c2_4) (uA (uA (uA ay 0 g0_1) 1 g1_2) 2 g2_3)) ++ ((bO cI cJ (qc 6) qB vB (uA aB 2 (uI ((aB 2)) (vc 8) ((aB 2) (vc 8) + 1)))) ++ (vW cI cJ (qB 0) qv (uV vv 2 ((vv 2) + 1)) (uA (uA av 0 (uI ((av 0)) y z)) 1 (uI ((av 1)) y (vc 8))))))) H locs := hW
    refine lv_aload_n hx hb dX10_publish_51 rfl (lv_at hl 1 rfl) ?_
    refine z_get (v := .ref (qc 6)) hx hb hts hiX10_publish_X10 hown hW 0 6 1 rfl rfl rfl (by decide) rfl dX10_publish_52 ?_
    refine z_get (v := .ref (qB 0)) hx hb hts hiX10_publish_X1 hown hW 5 0 2 rfl rfl rfl (by decide) rfl dX10_publish_55 ?_
    refine z_get (v := .int (iI ((vv 2) + 1))) hx hb hts hiX10_publish_X8 hown hW 7 2 5 rfl rfl rfl (by decide) rfl dX10_publish_58 ?_
    exact z_iret hx hb hr hlk hW (⟨g0_1, g1_2, g2_3, c2_4⟩) rfl hp48 rfl dX10_publish_61
  · exfalso; omega
set_option maxHeartbeats 4000000 in
set_option maxRecDepth 100000 in
theorem c_X10_publish0 {l : Launch} {G : va_G} {cI cJ cO : ClassId} (N : Int → Int) (hc : Nat) (qc : Nat → Nat) (vc : Nat → Int) (ac : Nat → Int → Int) (qB : Nat → Nat) (vB : Nat → Int) (aB : Nat → Int → Int) (qv : Nat → Nat) (vv : Nat → Int) (av : Nat → Int → Int) (y z : Int)  (h1 : -2147483648 ≤ y ∧ y < 2147483648) (h2 : -2147483648 ≤ z ∧ z < 2147483648) (hok : WHY N y z < 0) (hWF : WF N) (hRV : RV N av) (hcn : vv 2 = CNTV N 240 ∧ CNTV N 240 ≤ 40) : zC l yX10_publish wsX10_publish { frames := 2, cells := 0, slots := 0, locals := 44 } G (tyZ cI cJ cO) (S := Unit) [.ref hc, .int (iI y), .int (iI z)] ((dO cI cJ hc qc vc ac) ++ ((bO cI cJ (qc 6) qB vB aB) ++ (vW cI cJ (qB 0) qv vv av))) (zI (fun _ => WHY N y z)) (fun _ => True) (fun _ => (dO cI cJ hc qc vc ac) ++ ((bO cI cJ (qc 6) qB vB aB) ++ (vW cI cJ (qB 0) qv vv av))) 0 0 := by
  refine z_start (cc := cX10_publish) (maxL := 4) (ret := (some .int)) (by decide) rfl (Nat.le_of_ble_eq_true rfl) ?_
  intro p e s m below meth c A ls F hr hlk hnm hAe hA hW hl
  have hx := F.1
  have hb := F.2.1
  have hown : s.vm.findClass RX10 = some m.cls := F.2.2.2.1
  have hts := F.2.2.2.2
  have hl : lv_has ls 4 [(0, .ref hc), (1, .int (iI y)), (2, .int (iI z))] := hl
  obtain ⟨w0, w1, w2, hV, hls⟩ := id hWF
  have wr : WHY N y z = -1 ∨ WHY N y z = -2 ∨ WHY N y z = 0 := by unfold WHY; split <;> first | (split <;> omega) | omega
  refine lv_aload_n hx hb dX10_publish_0 rfl (lv_at hl 0 rfl) ?_
  refine lv_iload_n hx hb dX10_publish_1 rfl (lv_at hl 1 rfl) ?_
  refine lv_iload_n hx hb dX10_publish_2 rfl (lv_at hl 2 rfl) ?_
  refine z_callV (As := [.int (iI y), .int (iI z)]) (rest := []) F (c_X10_refusalOf N hc qc vc ac qB vB aB qv vv av y z  (show -2147483648 ≤ y ∧ y < 2147483648 by omega) (show -2147483648 ≤ z ∧ z < 2147483648 by omega) hV hRV hcn) gX10_publish_X10_refusalOf rfl ziX10_refusalOf ⟨rfl, rfl, by decide, by decide⟩ rfl hl.1 rfl (Nat.le_of_ble_eq_true rfl) dX10_publish_3 ⟨Nat.zero_le _, Nat.zero_le _⟩ hW hA [0, 1, 2, 3, 4, 5] rfl (by decide) (fun _ => rfl) (fun _ => (dO cI cJ hc qc vc ac) ++ ((bO cI cJ (qc 6) qB vB aB) ++ (vW cI cJ (qB 0) qv vv av))) (fun _ => rfl) (fun _ => [.int (iI (WHY N y z))]) (fun _ => rfl) 0 rfl rfl rfl (fun _ H locs hp3 hW => ?_)
  refine lv_istore_n (lv' := [(3, .int (iI (WHY N y z))), (0, .ref hc), (1, .int (iI y)), (2, .int (iI z))]) hx hb dX10_publish_6 rfl hl (by decide) rfl (fun ls hl => ?_)
  refine lv_iload_n hx hb dX10_publish_7 rfl (lv_at hl 0 rfl) ?_
  refine z_if_eq (tgt := 13) hx hb dX10_publish_8 (by decide) ⟨by omega, by omega⟩ (fun c8 => ?_) (fun c8 => ?_)
  · exfalso; omega
  · refine lv_iload_n hx hb dX10_publish_11 rfl (lv_at hl 0 rfl) ?_
    exact z_iret hx hb hr hlk hW () (by first | rfl | omega) trivial rfl dX10_publish_12
theorem hiX10_pass_X10 : ∀ w ∈ wsX100, w ∈ wsX10_pass := fun _ h => List.mem_cons_of_mem _ (List.mem_append_left _ (List.mem_append_right _ h))
theorem hiX10_pass_X0 : ∀ w ∈ wsX00, w ∈ wsX10_pass := fun _ h => List.mem_cons_of_mem _ (List.mem_append_right _ h)
theorem ziX10_pass : yX10_pass.cls = RX10 ∧ yX10_pass.cls ≠ "java/lang/invoke/MethodHandle" ∧ yX10_pass.cls ≠ "java/lang/invoke/VarHandle" ∧ (parseMethodDescriptor yX10_pass.desc).map (fun d => d.parameters.length) = some 1 := by decide +kernel
set_option maxHeartbeats 4000000 in
set_option maxRecDepth 100000 in
theorem c_X10_pass {l : Launch} {G : va_G} {cI cJ cO : ClassId}  (hc : Nat) (qc : Nat → Nat) (vc : Nat → Int) (ac : Nat → Int → Int) (qy : Nat → Nat) (vy : Nat → Int) (ay : Nat → Int → Int) (z : Int)  (h1 : -2147483648 ≤ z ∧ z < 2147483648) (hok : (1 ≤ z ∧ z ≤ 99) ∧ vc 8 + z < 240) (hnow : 0 ≤ vc 8 ∧ vc 8 ≤ 239) (hac : 0 ≤ vy 3 ∧ vy 3 ≤ 10) : zC l yX10_pass wsX10_pass { frames := 2, cells := 0, slots := 0, locals := 44 } G (tyZ cI cJ cO) (S := (Int → Int) × (Int → Int) × (Int → Int) × Int) [.ref hc, .int (iI z)] ((dO cI cJ hc qc vc ac) ++ (aW cI cJ (qc 2) qy vy ay)) (zI (fun _ => vc 8 + z)) (fun u => KEPT (ay 0) (vy 3) 4 u.1 ∧ KEPT (ay 1) (vy 3) (-1) u.2.1 ∧ KEPT (ay 2) (vy 3) z u.2.2.1 ∧ u.2.2.2 = (if vy 3 = 10 then 10 else vy 3 + 1)) (fun u => (dO cI cJ hc qc (uV vc 8 (vc 8 + z)) ac) ++ (aW cI cJ (qc 2) qy (uV vy 3 u.2.2.2) (uA (uA (uA ay 0 u.1) 1 u.2.1) 2 u.2.2.1))) 0 0 := by
  refine z_start (cc := cX10_pass) (maxL := 2) (ret := (some .int)) (by decide) rfl (Nat.le_of_ble_eq_true rfl) ?_
  intro p e s m below meth c A ls F hr hlk hnm hAe hA hW hl
  have hx := F.1
  have hb := F.2.1
  have hown : s.vm.findClass RX10 = some m.cls := F.2.2.2.1
  have hts := F.2.2.2.2
  have hl : lv_has ls 2 [(0, .ref hc), (1, .int (iI z))] := hl
  refine lv_iload_n hx hb dX10_pass_0 rfl (lv_at hl 1 rfl) ?_
  refine z_iconst (n := 1) hx hb dX10_pass_1 ?_
  refine z_icmp_lt (tgt := 23) hx hb dX10_pass_2 (by decide) ⟨by omega, by omega⟩ (by decide) (fun c2 => ?_) (fun c2 => ?_)
  · exfalso; omega
  · refine lv_iload_n hx hb dX10_pass_5 rfl (lv_at hl 1 rfl) ?_
    refine z_bipush hx hb dX10_pass_6 (by decide +kernel) ?_
    refine z_icmp_gt (tgt := 23) hx hb dX10_pass_8 (by decide) ⟨by omega, by omega⟩ (by decide) (fun c8 => ?_) (fun c8 => ?_)
    · exfalso; omega
    · refine lv_aload_n hx hb dX10_pass_11 rfl (lv_at hl 0 rfl) ?_
      refine z_get (v := .int (iI (vc 8))) hx hb hts hiX10_pass_X10 hown hW 0 8 1 rfl rfl rfl (by decide) rfl dX10_pass_12 ?_
      refine lv_iload_n hx hb dX10_pass_15 rfl (lv_at hl 1 rfl) ?_
      refine z_iadd hx hb dX10_pass_16 ?_
      refine z_callS (As := [.int (iI ((vc 8) + z))]) (rest := []) F (c_X10_isMonth   ((vc 8) + z)  (show -2147483648 ≤ ((vc 8) + z) ∧ ((vc 8) + z) < 2147483648 by omega)) gX10_pass_X10_isMonth rfl ziX10_isMonth ⟨rfl, rfl, by decide, by decide⟩ rfl hl.1 rfl (Nat.le_of_ble_eq_true rfl) dX10_pass_17 ⟨Nat.zero_le _, Nat.zero_le _⟩ hW hA [] rfl (by decide) (fun _ => rfl) (fun _ => (dO cI cJ hc qc vc ac) ++ (aW cI cJ (qc 2) qy vy ay)) (fun _ => rfl) (fun _ => [.int (iI (bI (0 ≤ ((vc 8) + z) ∧ ((vc 8) + z) < 240)))]) (fun _ => rfl) (fun _ H locs hp17 hW => ?_)
      refine z_b_ne (tgt := 25) hx hb dX10_pass_20 (by decide) (fun c20 => ?_) (fun c20 => ?_)
      · refine lv_aload_n hx hb dX10_pass_25 rfl (lv_at hl 0 rfl) ?_
        refine lv_dup hx hb dX10_pass_26 rfl ?_
        refine z_get (v := .int (iI (vc 8))) hx hb hts hiX10_pass_X10 hown hW 0 8 1 rfl rfl rfl (by decide) rfl dX10_pass_27 ?_
        refine lv_iload_n hx hb dX10_pass_30 rfl (lv_at hl 1 rfl) ?_
        refine z_iadd hx hb dX10_pass_31 ?_
        refine z_put hx hb hts hiX10_pass_X10 tyX10 tyX10_ok nmX10 hown hW 0 8 1 rfl rfl (by decide) (Nat.le_of_ble_eq_true rfl) rfl rfl rfl rfl dX10_pass_32 (fun H locs hW => ?_)
        have hW : zW G (tyZ cI cJ cO) A s ((dO cI cJ hc qc (uV vc 8 ((vc 8) + z)) ac) ++ (aW cI cJ (qc 2) qy vy ay)) H locs := hW
        refine lv_aload_n hx hb dX10_pass_35 rfl (lv_at hl 0 rfl) ?_
        refine z_get (v := .ref (qc 2)) hx hb hts hiX10_pass_X10 hown hW 0 2 2 rfl rfl rfl (by decide) rfl dX10_pass_36 ?_
        refine z_iconst (n := 4) hx hb dX10_pass_39 ?_
        refine z_iconst (n := -1) hx hb dX10_pass_40 ?_
        refine lv_iload_n hx hb dX10_pass_41 rfl (lv_at hl 1 rfl) ?_
        refine z_callV (As := [.int (iI 4), .int (iI (-1)), .int (iI z)]) (rest := []) F (c_X0_keep  (qc 2) qy vy ay 4 (-1) z  (show 0 ≤ (vy 3) ∧ (vy 3) ≤ 10 by omega)) gX10_pass_X0_keep rfl ziX0_keep ⟨rfl, rfl, by decide, by decide⟩ rfl hl.1 rfl (Nat.le_of_ble_eq_true rfl) dX10_pass_42 ⟨Nat.zero_le _, Nat.zero_le _⟩ hW hA [1, 2, 3, 4] rfl (by decide) (fun _ => rfl) (fun u => (dO cI cJ hc qc (uV vc 8 ((vc 8) + z)) ac) ++ (aW cI cJ (qc 2) qy (uV vy 3 u.2.2.2) (uA (uA (uA ay 0 u.1) 1 u.2.1) 2 u.2.2.1))) (fun _ => rfl) (fun u => []) (fun _ => rfl) 1 rfl rfl rfl (fun u H locs hp42 hW => ?_)
        obtain ⟨g0_1, g1_2, g2_3, c2_4⟩ := u
        have hp42 : KEPT ((ay 0)) ((vy 3)) 4 g0_1 ∧ KEPT ((ay 1)) ((vy 3)) (-1) g1_2 ∧ KEPT ((ay 2)) ((vy 3)) z g2_3 ∧ c2_4 = (if (vy 3) = 10 then 10 else (vy 3) + 1) := hp42
        have hW : zW G (tyZ cI cJ cO) A s ((dO cI cJ hc qc (uV vc 8 ((vc 8) + z)) ac) ++ (aW cI cJ (qc 2) qy (uV vy 3 c2_4) (uA (uA (uA ay 0 g0_1) 1 g1_2) 2 g2_3))) H locs := hW
        refine lv_aload_n hx hb dX10_pass_45 rfl (lv_at hl 0 rfl) ?_
        refine z_get (v := .int (iI ((vc 8) + z))) hx hb hts hiX10_pass_X10 hown hW 0 8 1 rfl rfl rfl (by decide) rfl dX10_pass_46 ?_
        exact z_iret hx hb hr hlk hW (⟨g0_1, g1_2, g2_3, c2_4⟩) rfl hp42 rfl dX10_pass_49
      · exfalso; omega
set_option maxHeartbeats 4000000 in
set_option maxRecDepth 100000 in
theorem c_X10_pass0 {l : Launch} {G : va_G} {cI cJ cO : ClassId}  (hc : Nat) (qc : Nat → Nat) (vc : Nat → Int) (ac : Nat → Int → Int) (z : Int)  (h1 : -2147483648 ≤ z ∧ z < 2147483648) (hok : ¬ ((1 ≤ z ∧ z ≤ 99) ∧ vc 8 + z < 240)) (hnow : 0 ≤ vc 8 ∧ vc 8 ≤ 239) : zC l yX10_pass wsX10_pass { frames := 2, cells := 0, slots := 0, locals := 44 } G (tyZ cI cJ cO) (S := Unit) [.ref hc, .int (iI z)] (dO cI cJ hc qc vc ac) (zI (fun _ => -1)) (fun _ => True) (fun _ => dO cI cJ hc qc vc ac) 0 0 := by
  refine z_start (cc := cX10_pass) (maxL := 2) (ret := (some .int)) (by decide) rfl (Nat.le_of_ble_eq_true rfl) ?_
  intro p e s m below meth c A ls F hr hlk hnm hAe hA hW hl
  have hx := F.1
  have hb := F.2.1
  have hown : s.vm.findClass RX10 = some m.cls := F.2.2.2.1
  have hts := F.2.2.2.2
  have hl : lv_has ls 2 [(0, .ref hc), (1, .int (iI z))] := hl
  refine lv_iload_n hx hb dX10_pass_0 rfl (lv_at hl 1 rfl) ?_
  refine z_iconst (n := 1) hx hb dX10_pass_1 ?_
  refine z_icmp_lt (tgt := 23) hx hb dX10_pass_2 (by decide) ⟨by omega, by omega⟩ (by decide) (fun c2 => ?_) (fun c2 => ?_)
  · refine z_iconst (n := -1) hx hb dX10_pass_23 ?_
    exact z_iret hx hb hr hlk hW () (by first | rfl | omega) trivial rfl dX10_pass_24
  · refine lv_iload_n hx hb dX10_pass_5 rfl (lv_at hl 1 rfl) ?_
    refine z_bipush hx hb dX10_pass_6 (by decide +kernel) ?_
    refine z_icmp_gt (tgt := 23) hx hb dX10_pass_8 (by decide) ⟨by omega, by omega⟩ (by decide) (fun c8 => ?_) (fun c8 => ?_)
    · refine z_iconst (n := -1) hx hb dX10_pass_23 ?_
      exact z_iret hx hb hr hlk hW () (by first | rfl | omega) trivial rfl dX10_pass_24
    · refine lv_aload_n hx hb dX10_pass_11 rfl (lv_at hl 0 rfl) ?_
      refine z_get (v := .int (iI (vc 8))) hx hb hts hiX10_pass_X10 hown hW 0 8 1 rfl rfl rfl (by decide) rfl dX10_pass_12 ?_
      refine lv_iload_n hx hb dX10_pass_15 rfl (lv_at hl 1 rfl) ?_
      refine z_iadd hx hb dX10_pass_16 ?_
      refine z_callS (As := [.int (iI ((vc 8) + z))]) (rest := []) F (c_X10_isMonth   ((vc 8) + z)  (show -2147483648 ≤ ((vc 8) + z) ∧ ((vc 8) + z) < 2147483648 by omega)) gX10_pass_X10_isMonth rfl ziX10_isMonth ⟨rfl, rfl, by decide, by decide⟩ rfl hl.1 rfl (Nat.le_of_ble_eq_true rfl) dX10_pass_17 ⟨Nat.zero_le _, Nat.zero_le _⟩ hW hA [] rfl (by decide) (fun _ => rfl) (fun _ => dO cI cJ hc qc vc ac) (fun _ => rfl) (fun _ => [.int (iI (bI (0 ≤ ((vc 8) + z) ∧ ((vc 8) + z) < 240)))]) (fun _ => rfl) (fun _ H locs hp17 hW => ?_)
      refine z_b_ne (tgt := 25) hx hb dX10_pass_20 (by decide) (fun c20 => ?_) (fun c20 => ?_)
      · exfalso; omega
      · refine z_iconst (n := -1) hx hb dX10_pass_23 ?_
        exact z_iret hx hb hr hlk hW () (by first | rfl | omega) trivial rfl dX10_pass_24
