/-! the class: undo -/
theorem hiX10_takeBack_X10 : ∀ w ∈ wsX100, w ∈ wsX10_takeBack := fun _ h => List.mem_cons_of_mem _ (List.mem_append_left _ (List.mem_append_left _ (List.mem_append_left _ (List.mem_append_right _ h))))
theorem hiX10_takeBack_X1 : ∀ w ∈ wsX10, w ∈ wsX10_takeBack := fun _ h => List.mem_cons_of_mem _ (List.mem_append_left _ (List.mem_append_left _ (List.mem_append_right _ h)))
theorem hiX10_takeBack_X2 : ∀ w ∈ wsX20, w ∈ wsX10_takeBack := fun _ h => List.mem_cons_of_mem _ (List.mem_append_left _ (List.mem_append_right _ h))
theorem hiX10_takeBack_X8 : ∀ w ∈ wsX80, w ∈ wsX10_takeBack := fun _ h => List.mem_cons_of_mem _ (List.mem_append_right _ h)
theorem ziX10_takeBack : yX10_takeBack.cls = RX10 ∧ yX10_takeBack.cls ≠ "java/lang/invoke/MethodHandle" ∧ yX10_takeBack.cls ≠ "java/lang/invoke/VarHandle" ∧ (parseMethodDescriptor yX10_takeBack.desc).map (fun d => d.parameters.length) = some 3 := by decide +kernel
set_option maxHeartbeats 4000000 in
set_option maxRecDepth 100000 in
theorem c_X10_takeBack {l : Launch} {G : va_G} {cI cJ cO : ClassId}  (hc : Nat) (qc : Nat → Nat) (vc : Nat → Int) (ac : Nat → Int → Int) (w y : Int)  (hw : w = 4) : zC l yX10_takeBack wsX10_takeBack { frames := 2, cells := 0, slots := 0, locals := 44 } G (tyZ cI cJ cO) (S := Unit) [.ref hc, .int (iI w), .null, .int (iI y)] (dO cI cJ hc qc vc ac) (zN) (fun _ => True) (fun _ => dO cI cJ hc qc (uV vc 8 (vc 8 - y)) ac) 0 0 := by
  refine z_start (cc := cX10_takeBack) (maxL := 4) (ret := none) (by decide) rfl (Nat.le_of_ble_eq_true rfl) ?_
  intro p e s m below meth c A ls F hr hlk hnm hAe hA hW hl
  have hx := F.1
  have hb := F.2.1
  have hown : s.vm.findClass RX10 = some m.cls := F.2.2.2.1
  have hts := F.2.2.2.2
  have hl : lv_has ls 4 [(0, .ref hc), (1, .int (iI w)), (2, .null), (3, .int (iI y))] := hl
  refine lv_iload_n hx hb dX10_takeBack_0 rfl (lv_at hl 1 rfl) ?_
  refine z_iconst (n := 4) hx hb dX10_takeBack_1 ?_
  refine z_icmp_ne (tgt := 16) hx hb dX10_takeBack_2 (by decide) ⟨by omega, by omega⟩ (by decide) (fun c2 => ?_) (fun c2 => ?_)
  · exfalso; omega
  · refine lv_aload_n hx hb dX10_takeBack_5 rfl (lv_at hl 0 rfl) ?_
    refine lv_dup hx hb dX10_takeBack_6 rfl ?_
    refine z_get (v := .int (iI (vc 8))) hx hb hts hiX10_takeBack_X10 hown hW 0 8 1 rfl rfl rfl (by decide) rfl dX10_takeBack_7 ?_
    refine lv_iload_n hx hb dX10_takeBack_10 rfl (lv_at hl 3 rfl) ?_
    refine z_isub hx hb dX10_takeBack_11 ?_
    refine z_put hx hb hts hiX10_takeBack_X10 tyX10 tyX10_ok nmX10 hown hW 0 8 1 rfl rfl (by decide) (Nat.le_of_ble_eq_true rfl) rfl rfl rfl rfl dX10_takeBack_12 (fun H locs hW => ?_)
    have hW : zW G (tyZ cI cJ cO) A s (dO cI cJ hc qc (uV vc 8 ((vc 8) - y)) ac) H locs := hW
    exact z_vret hx hb hr hlk hW () trivial rfl dX10_takeBack_15
set_option maxHeartbeats 4000000 in
set_option maxRecDepth 100000 in
theorem c_X10_takeBack1 {l : Launch} {G : va_G} {cI cJ cO : ClassId}  (hc : Nat) (qc : Nat → Nat) (vc : Nat → Int) (ac : Nat → Int → Int) (qB : Nat → Nat) (vB : Nat → Int) (aB : Nat → Int → Int) (qv : Nat → Nat) (vv : Nat → Int) (av : Nat → Int → Int) (w y : Int)  (hw : w = 1) (h1 : 0 ≤ y ∧ y < 240) (hnow : 0 ≤ vc 8 ∧ vc 8 ≤ 239) : zC l yX10_takeBack wsX10_takeBack { frames := 2, cells := 0, slots := 0, locals := 44 } G (tyZ cI cJ cO) (S := Unit) [.ref hc, .int (iI w), .null, .int (iI y)] ((dO cI cJ hc qc vc ac) ++ ((bO cI cJ (qc 6) qB vB aB) ++ (vW cI cJ (qB 0) qv vv av))) (zN) (fun _ => True) (fun _ => (dO cI cJ hc qc vc ac) ++ ((bO cI cJ (qc 6) qB vB (uA aB 2 (uI (aB 2) (vc 8) (aB 2 (vc 8) + (-1))))) ++ (vW cI cJ (qB 0) qv (uV vv 2 (vv 2 - 1)) (uA (uA av 0 (uI (av 0) y 0)) 1 (uI (av 1) y 240))))) 0 0 := by
  refine z_start (cc := cX10_takeBack) (maxL := 4) (ret := none) (by decide) rfl (Nat.le_of_ble_eq_true rfl) ?_
  intro p e s m below meth c A ls F hr hlk hnm hAe hA hW hl
  have hx := F.1
  have hb := F.2.1
  have hown : s.vm.findClass RX10 = some m.cls := F.2.2.2.1
  have hts := F.2.2.2.2
  have hl : lv_has ls 4 [(0, .ref hc), (1, .int (iI w)), (2, .null), (3, .int (iI y))] := hl
  refine lv_iload_n hx hb dX10_takeBack_0 rfl (lv_at hl 1 rfl) ?_
  refine z_iconst (n := 4) hx hb dX10_takeBack_1 ?_
  refine z_icmp_ne (tgt := 16) hx hb dX10_takeBack_2 (by decide) ⟨by omega, by omega⟩ (by decide) (fun c2 => ?_) (fun c2 => ?_)
  · refine lv_aload_n hx hb dX10_takeBack_16 rfl (lv_at hl 0 rfl) ?_
    refine z_get (v := .ref (qc 6)) hx hb hts hiX10_takeBack_X10 hown hW 0 6 2 rfl rfl rfl (by decide) rfl dX10_takeBack_17 ?_
    refine lv_aload_n hx hb dX10_takeBack_20 rfl (lv_at hl 0 rfl) ?_
    refine z_get (v := .int (iI (vc 8))) hx hb hts hiX10_takeBack_X10 hown hW 0 8 1 rfl rfl rfl (by decide) rfl dX10_takeBack_21 ?_
    refine z_iconst (n := -1) hx hb dX10_takeBack_24 ?_
    refine z_callV (As := [.int (iI (vc 8)), .int (iI (-1))]) (rest := []) F (c_X1_addNews  (qc 6) qB vB aB (vc 8) (-1)  (show 0 ≤ (vc 8) ∧ (vc 8) < 240 by omega)) gX10_takeBack_X1_addNews rfl ziX1_addNews ⟨rfl, rfl, by decide, by decide⟩ rfl hl.1 rfl (Nat.le_of_ble_eq_true rfl) dX10_takeBack_25 ⟨Nat.zero_le _, Nat.zero_le _⟩ hW hA [1, 2] rfl (by decide) (fun _ => rfl) (fun _ => (dO cI cJ hc qc vc ac) ++ ((bO cI cJ (qc 6) qB vB (uA aB 2 (uI ((aB 2)) (vc 8) ((aB 2) (vc 8) + (-1))))) ++ (vW cI cJ (qB 0) qv vv av))) (fun _ => rfl) (fun _ => []) (fun _ => rfl) 1 rfl rfl rfl (fun _ H locs hp25 hW => ?_)
    have hW : zW G (tyZ cI cJ cO) A s ((dO cI cJ hc qc vc ac) ++ ((bO cI cJ (qc 6) qB vB (uA aB 2 (uI ((aB 2)) (vc 8) ((aB 2) (vc 8) + (-1))))) ++ (vW cI cJ (qB 0) qv vv av))) H locs := hW
    refine lv_iload_n hx hb dX10_takeBack_28 rfl (lv_at hl 1 rfl) ?_
    refine z_iconst (n := 1) hx hb dX10_takeBack_29 ?_
    refine z_icmp_ne (tgt := 47) hx hb dX10_takeBack_30 (by decide) ⟨by omega, by omega⟩ (by decide) (fun c30 => ?_) (fun c30 => ?_)
    · exfalso; omega
    · refine lv_aload_n hx hb dX10_takeBack_33 rfl (lv_at hl 0 rfl) ?_
      refine z_get (v := .ref (qc 6)) hx hb hts hiX10_takeBack_X10 hown hW 0 6 2 rfl rfl rfl (by decide) rfl dX10_takeBack_34 ?_
      refine z_get (v := .ref (qB 0)) hx hb hts hiX10_takeBack_X1 hown hW 1 0 3 rfl rfl rfl (by decide) rfl dX10_takeBack_37 ?_
      refine lv_iload_n hx hb dX10_takeBack_40 rfl (lv_at hl 3 rfl) ?_
      refine z_callV (As := [.int (iI y)]) (rest := []) F (c_X8_drop  (qB 0) qv vv av y  (show 0 ≤ y ∧ y < 240 by omega)) gX10_takeBack_X8_drop rfl ziX8_drop ⟨rfl, rfl, by decide, by decide⟩ rfl hl.1 rfl (Nat.le_of_ble_eq_true rfl) dX10_takeBack_41 ⟨Nat.zero_le _, Nat.zero_le _⟩ hW hA [3, 4, 5] rfl (by decide) (fun _ => rfl) (fun _ => (dO cI cJ hc qc vc ac) ++ ((bO cI cJ (qc 6) qB vB (uA aB 2 (uI ((aB 2)) (vc 8) ((aB 2) (vc 8) + (-1))))) ++ (vW cI cJ (qB 0) qv (uV vv 2 ((vv 2) - 1)) (uA (uA av 0 (uI ((av 0)) y 0)) 1 (uI ((av 1)) y 240))))) (fun _ => rfl) (fun _ => []) (fun _ => rfl) 3 rfl rfl rfl (fun _ H locs hp41 hW => ?_)
      have hW : zW G (tyZ cI cJ cO) A s ((dO cI cJ hc qc vc ac) ++ ((bO cI cJ (qc 6) qB vB (uA aB 2 (uI ((aB 2)) (vc 8) ((aB 2) (vc 8) + (-1))))) ++ (vW cI cJ (qB 0) qv (uV vv 2 ((vv 2) - 1)) (uA (uA av 0 (uI ((av 0)) y 0)) 1 (uI ((av 1)) y 240))))) H locs := hW
      refine lv_goto (tgt := 80) hx hb dX10_takeBack_44 (by decide) ?_
      exact z_vret hx hb hr hlk hW () trivial rfl dX10_takeBack_80
  · exfalso; omega
set_option maxHeartbeats 4000000 in
set_option maxRecDepth 100000 in
theorem c_X10_takeBack2 {l : Launch} {G : va_G} {cI cJ cO : ClassId}  (hc : Nat) (qc : Nat → Nat) (vc : Nat → Int) (ac : Nat → Int → Int) (qB : Nat → Nat) (vB : Nat → Int) (aB : Nat → Int → Int) (he : Nat) (qe : Nat → Nat) (ve : Nat → Int) (ae : Nat → Int → Int) (w y : Int)  (hw : w = 2) (h1 : 0 ≤ y ∧ y < 120) (hnow : 0 ≤ vc 8 ∧ vc 8 ≤ 239) : zC l yX10_takeBack wsX10_takeBack { frames := 2, cells := 0, slots := 0, locals := 44 } G (tyZ cI cJ cO) (S := Unit) [.ref hc, .int (iI w), .ref he, .int (iI y)] ((dO cI cJ hc qc vc ac) ++ ((bO cI cJ (qc 6) qB vB aB) ++ (lW cI cJ he qe ve ae))) (zN) (fun _ => True) (fun _ => (dO cI cJ hc qc vc ac) ++ ((bO cI cJ (qc 6) qB vB (uA aB 2 (uI (aB 2) (vc 8) (aB 2 (vc 8) + (-1))))) ++ (lW cI cJ he qe ve (uA (uA ae 2 (uI (ae 2) y 0)) 3 (uI (ae 3) y 240))))) 0 0 := by
  refine z_start (cc := cX10_takeBack) (maxL := 4) (ret := none) (by decide) rfl (Nat.le_of_ble_eq_true rfl) ?_
  intro p e s m below meth c A ls F hr hlk hnm hAe hA hW hl
  have hx := F.1
  have hb := F.2.1
  have hown : s.vm.findClass RX10 = some m.cls := F.2.2.2.1
  have hts := F.2.2.2.2
  have hl : lv_has ls 4 [(0, .ref hc), (1, .int (iI w)), (2, .ref he), (3, .int (iI y))] := hl
  refine lv_iload_n hx hb dX10_takeBack_0 rfl (lv_at hl 1 rfl) ?_
  refine z_iconst (n := 4) hx hb dX10_takeBack_1 ?_
  refine z_icmp_ne (tgt := 16) hx hb dX10_takeBack_2 (by decide) ⟨by omega, by omega⟩ (by decide) (fun c2 => ?_) (fun c2 => ?_)
  · refine lv_aload_n hx hb dX10_takeBack_16 rfl (lv_at hl 0 rfl) ?_
    refine z_get (v := .ref (qc 6)) hx hb hts hiX10_takeBack_X10 hown hW 0 6 2 rfl rfl rfl (by decide) rfl dX10_takeBack_17 ?_
    refine lv_aload_n hx hb dX10_takeBack_20 rfl (lv_at hl 0 rfl) ?_
    refine z_get (v := .int (iI (vc 8))) hx hb hts hiX10_takeBack_X10 hown hW 0 8 1 rfl rfl rfl (by decide) rfl dX10_takeBack_21 ?_
    refine z_iconst (n := -1) hx hb dX10_takeBack_24 ?_
    refine z_callV (As := [.int (iI (vc 8)), .int (iI (-1))]) (rest := []) F (c_X1_addNews  (qc 6) qB vB aB (vc 8) (-1)  (show 0 ≤ (vc 8) ∧ (vc 8) < 240 by omega)) gX10_takeBack_X1_addNews rfl ziX1_addNews ⟨rfl, rfl, by decide, by decide⟩ rfl hl.1 rfl (Nat.le_of_ble_eq_true rfl) dX10_takeBack_25 ⟨Nat.zero_le _, Nat.zero_le _⟩ hW hA [1, 2] rfl (by decide) (fun _ => rfl) (fun _ => (dO cI cJ hc qc vc ac) ++ ((bO cI cJ (qc 6) qB vB (uA aB 2 (uI ((aB 2)) (vc 8) ((aB 2) (vc 8) + (-1))))) ++ (lW cI cJ he qe ve ae))) (fun _ => rfl) (fun _ => []) (fun _ => rfl) 1 rfl rfl rfl (fun _ H locs hp25 hW => ?_)
    have hW : zW G (tyZ cI cJ cO) A s ((dO cI cJ hc qc vc ac) ++ ((bO cI cJ (qc 6) qB vB (uA aB 2 (uI ((aB 2)) (vc 8) ((aB 2) (vc 8) + (-1))))) ++ (lW cI cJ he qe ve ae))) H locs := hW
    refine lv_iload_n hx hb dX10_takeBack_28 rfl (lv_at hl 1 rfl) ?_
    refine z_iconst (n := 1) hx hb dX10_takeBack_29 ?_
    refine z_icmp_ne (tgt := 47) hx hb dX10_takeBack_30 (by decide) ⟨by omega, by omega⟩ (by decide) (fun c30 => ?_) (fun c30 => ?_)
    · refine lv_iload_n hx hb dX10_takeBack_47 rfl (lv_at hl 1 rfl) ?_
      refine z_iconst (n := 2) hx hb dX10_takeBack_48 ?_
      refine z_icmp_ne (tgt := 64) hx hb dX10_takeBack_49 (by decide) ⟨by omega, by omega⟩ (by decide) (fun c49 => ?_) (fun c49 => ?_)
      · exfalso; omega
      · refine lv_aload_n hx hb dX10_takeBack_52 rfl (lv_at hl 2 rfl) ?_
        refine lv_ifnull hx hb dX10_takeBack_53 ?_
        refine lv_aload_n hx hb dX10_takeBack_56 rfl (lv_at hl 2 rfl) ?_
        refine lv_iload_n hx hb dX10_takeBack_57 rfl (lv_at hl 3 rfl) ?_
        refine z_callV (As := [.int (iI y)]) (rest := []) F (c_X2_drop  he qe ve ae y  (show 0 ≤ y ∧ y < 120 by omega)) gX10_takeBack_X2_drop rfl ziX2_drop ⟨rfl, rfl, by decide, by decide⟩ rfl hl.1 rfl (Nat.le_of_ble_eq_true rfl) dX10_takeBack_58 ⟨Nat.zero_le _, Nat.zero_le _⟩ hW hA [3, 4, 5, 6, 7] rfl (by decide) (fun _ => rfl) (fun _ => (dO cI cJ hc qc vc ac) ++ ((bO cI cJ (qc 6) qB vB (uA aB 2 (uI ((aB 2)) (vc 8) ((aB 2) (vc 8) + (-1))))) ++ (lW cI cJ he qe ve (uA (uA ae 2 (uI ((ae 2)) y 0)) 3 (uI ((ae 3)) y 240))))) (fun _ => rfl) (fun _ => []) (fun _ => rfl) 3 rfl rfl rfl (fun _ H locs hp58 hW => ?_)
        have hW : zW G (tyZ cI cJ cO) A s ((dO cI cJ hc qc vc ac) ++ ((bO cI cJ (qc 6) qB vB (uA aB 2 (uI ((aB 2)) (vc 8) ((aB 2) (vc 8) + (-1))))) ++ (lW cI cJ he qe ve (uA (uA ae 2 (uI ((ae 2)) y 0)) 3 (uI ((ae 3)) y 240))))) H locs := hW
        refine lv_goto (tgt := 80) hx hb dX10_takeBack_61 (by decide) ?_
        exact z_vret hx hb hr hlk hW () trivial rfl dX10_takeBack_80
    · exfalso; omega
  · exfalso; omega
set_option maxHeartbeats 4000000 in
set_option maxRecDepth 100000 in
theorem c_X10_takeBack3 {l : Launch} {G : va_G} {cI cJ cO : ClassId}  (hc : Nat) (qc : Nat → Nat) (vc : Nat → Int) (ac : Nat → Int → Int) (qB : Nat → Nat) (vB : Nat → Int) (aB : Nat → Int → Int) (he : Nat) (qe : Nat → Nat) (ve : Nat → Int) (ae : Nat → Int → Int) (w y : Int)  (hw : w = 3) (hnow : 0 ≤ vc 8 ∧ vc 8 ≤ 239) : zC l yX10_takeBack wsX10_takeBack { frames := 2, cells := 0, slots := 0, locals := 44 } G (tyZ cI cJ cO) (S := Unit) [.ref hc, .int (iI w), .ref he, .int (iI y)] ((dO cI cJ hc qc vc ac) ++ ((bO cI cJ (qc 6) qB vB aB) ++ (lW cI cJ he qe ve ae))) (zN) (fun _ => True) (fun _ => (dO cI cJ hc qc vc ac) ++ ((bO cI cJ (qc 6) qB vB (uA aB 2 (uI (aB 2) (vc 8) (aB 2 (vc 8) + (-1))))) ++ (lW cI cJ he qe (uV ve 13 240) ae))) 0 0 := by
  refine z_start (cc := cX10_takeBack) (maxL := 4) (ret := none) (by decide) rfl (Nat.le_of_ble_eq_true rfl) ?_
  intro p e s m below meth c A ls F hr hlk hnm hAe hA hW hl
  have hx := F.1
  have hb := F.2.1
  have hown : s.vm.findClass RX10 = some m.cls := F.2.2.2.1
  have hts := F.2.2.2.2
  have hl : lv_has ls 4 [(0, .ref hc), (1, .int (iI w)), (2, .ref he), (3, .int (iI y))] := hl
  refine lv_iload_n hx hb dX10_takeBack_0 rfl (lv_at hl 1 rfl) ?_
  refine z_iconst (n := 4) hx hb dX10_takeBack_1 ?_
  refine z_icmp_ne (tgt := 16) hx hb dX10_takeBack_2 (by decide) ⟨by omega, by omega⟩ (by decide) (fun c2 => ?_) (fun c2 => ?_)
  · refine lv_aload_n hx hb dX10_takeBack_16 rfl (lv_at hl 0 rfl) ?_
    refine z_get (v := .ref (qc 6)) hx hb hts hiX10_takeBack_X10 hown hW 0 6 2 rfl rfl rfl (by decide) rfl dX10_takeBack_17 ?_
    refine lv_aload_n hx hb dX10_takeBack_20 rfl (lv_at hl 0 rfl) ?_
    refine z_get (v := .int (iI (vc 8))) hx hb hts hiX10_takeBack_X10 hown hW 0 8 1 rfl rfl rfl (by decide) rfl dX10_takeBack_21 ?_
    refine z_iconst (n := -1) hx hb dX10_takeBack_24 ?_
    refine z_callV (As := [.int (iI (vc 8)), .int (iI (-1))]) (rest := []) F (c_X1_addNews  (qc 6) qB vB aB (vc 8) (-1)  (show 0 ≤ (vc 8) ∧ (vc 8) < 240 by omega)) gX10_takeBack_X1_addNews rfl ziX1_addNews ⟨rfl, rfl, by decide, by decide⟩ rfl hl.1 rfl (Nat.le_of_ble_eq_true rfl) dX10_takeBack_25 ⟨Nat.zero_le _, Nat.zero_le _⟩ hW hA [1, 2] rfl (by decide) (fun _ => rfl) (fun _ => (dO cI cJ hc qc vc ac) ++ ((bO cI cJ (qc 6) qB vB (uA aB 2 (uI ((aB 2)) (vc 8) ((aB 2) (vc 8) + (-1))))) ++ (lW cI cJ he qe ve ae))) (fun _ => rfl) (fun _ => []) (fun _ => rfl) 1 rfl rfl rfl (fun _ H locs hp25 hW => ?_)
    have hW : zW G (tyZ cI cJ cO) A s ((dO cI cJ hc qc vc ac) ++ ((bO cI cJ (qc 6) qB vB (uA aB 2 (uI ((aB 2)) (vc 8) ((aB 2) (vc 8) + (-1))))) ++ (lW cI cJ he qe ve ae))) H locs := hW
    refine lv_iload_n hx hb dX10_takeBack_28 rfl (lv_at hl 1 rfl) ?_
    refine z_iconst (n := 1) hx hb dX10_takeBack_29 ?_
    refine z_icmp_ne (tgt := 47) hx hb dX10_takeBack_30 (by decide) ⟨by omega, by omega⟩ (by decide) (fun c30 => ?_) (fun c30 => ?_)
    · refine lv_iload_n hx hb dX10_takeBack_47 rfl (lv_at hl 1 rfl) ?_
      refine z_iconst (n := 2) hx hb dX10_takeBack_48 ?_
      refine z_icmp_ne (tgt := 64) hx hb dX10_takeBack_49 (by decide) ⟨by omega, by omega⟩ (by decide) (fun c49 => ?_) (fun c49 => ?_)
      · refine lv_iload_n hx hb dX10_takeBack_64 rfl (lv_at hl 1 rfl) ?_
        refine z_iconst (n := 3) hx hb dX10_takeBack_65 ?_
        refine z_icmp_ne (tgt := 80) hx hb dX10_takeBack_66 (by decide) ⟨by omega, by omega⟩ (by decide) (fun c66 => ?_) (fun c66 => ?_)
        · exfalso; omega
        · refine lv_aload_n hx hb dX10_takeBack_69 rfl (lv_at hl 2 rfl) ?_
          refine lv_ifnull hx hb dX10_takeBack_70 ?_
          refine lv_aload_n hx hb dX10_takeBack_73 rfl (lv_at hl 2 rfl) ?_
          refine z_sipush hx hb dX10_takeBack_74 (by decide +kernel) ?_
          refine z_put hx hb hts hiX10_takeBack_X2 tyX2 tyX2_ok nmX2 hown hW 3 13 4 rfl rfl (by decide) (Nat.le_of_ble_eq_true rfl) rfl rfl rfl rfl dX10_takeBack_77 (fun H locs hW => ?_)
          have hW : zW G (tyZ cI cJ cO) A s ((dO cI cJ hc qc vc ac) ++ ((bO cI cJ (qc 6) qB vB (uA aB 2 (uI ((aB 2)) (vc 8) ((aB 2) (vc 8) + (-1))))) ++ (lW cI cJ he qe (uV ve 13 240) ae))) H locs := hW
          exact z_vret hx hb hr hlk hW () trivial rfl dX10_takeBack_80
      · exfalso; omega
    · exfalso; omega
  · exfalso; omega
theorem hiX10_undo_X10 : ∀ w ∈ wsX100, w ∈ wsX10_undo := fun _ h => List.mem_cons_of_mem _ (List.mem_append_left _ (List.mem_append_left _ (List.mem_append_left _ (List.mem_append_left _ (List.mem_append_right _ h)))))
theorem hiX10_undo_X0 : ∀ w ∈ wsX00, w ∈ wsX10_undo := fun _ h => List.mem_cons_of_mem _ (List.mem_append_left _ (List.mem_append_left _ (List.mem_append_left _ (List.mem_append_right _ h))))
theorem hiX10_undo_X1 : ∀ w ∈ wsX10, w ∈ wsX10_undo := fun _ h => List.mem_cons_of_mem _ (List.mem_append_left _ (List.mem_append_left _ (List.mem_append_right _ h)))
theorem hiX10_undo_X2 : ∀ w ∈ wsX20, w ∈ wsX10_undo := fun _ h => List.mem_cons_of_mem _ (List.mem_append_left _ (List.mem_append_right _ h))
theorem hiX10_undo_X8 : ∀ w ∈ wsX80, w ∈ wsX10_undo := fun _ h => List.mem_cons_of_mem _ (List.mem_append_right _ h)
theorem ziX10_undo : yX10_undo.cls = RX10 ∧ yX10_undo.cls ≠ "java/lang/invoke/MethodHandle" ∧ yX10_undo.cls ≠ "java/lang/invoke/VarHandle" ∧ (parseMethodDescriptor yX10_undo.desc).map (fun d => d.parameters.length) = some 0 := by decide +kernel
set_option maxHeartbeats 4000000 in
set_option maxRecDepth 100000 in
theorem c_X10_undo {l : Launch} {G : va_G} {cI cJ cO : ClassId}  (hc : Nat) (qc : Nat → Nat) (vc : Nat → Int) (ac : Nat → Int → Int) (qy : Nat → Nat) (vy : Nat → Int) (ay : Nat → Int → Int)   (hy3 : vy 3 = 0) : zC l yX10_undo wsX10_undo { frames := 3, cells := 0, slots := 0, locals := 67 } G (tyZ cI cJ cO) (S := Unit) [.ref hc] ((dO cI cJ hc qc vc ac) ++ (aW cI cJ (qc 2) qy vy ay)) (zI (fun _ => -1)) (fun _ => True) (fun _ => (dO cI cJ hc qc vc ac) ++ (aW cI cJ (qc 2) qy vy ay)) 0 0 := by
  refine z_start (cc := cX10_undo) (maxL := 1) (ret := (some .int)) (by decide) rfl (Nat.le_of_ble_eq_true rfl) ?_
  intro p e s m below meth c A ls F hr hlk hnm hAe hA hW hl
  have hx := F.1
  have hb := F.2.1
  have hown : s.vm.findClass RX10 = some m.cls := F.2.2.2.1
  have hts := F.2.2.2.2
  have hl : lv_has ls 1 [(0, .ref hc)] := hl
  refine lv_aload_n hx hb dX10_undo_0 rfl (lv_at hl 0 rfl) ?_
  refine z_get (v := .ref (qc 2)) hx hb hts hiX10_undo_X10 hown hW 0 2 1 rfl rfl rfl (by decide) rfl dX10_undo_1 ?_
  refine z_get (v := .int (iI (vy 3))) hx hb hts hiX10_undo_X0 hown hW 1 3 2 rfl rfl rfl (by decide) rfl dX10_undo_4 ?_
  refine z_if_ne (tgt := 12) hx hb dX10_undo_7 (by decide) ⟨by omega, by omega⟩ (fun c7 => ?_) (fun c7 => ?_)
  · exfalso; omega
  · refine z_iconst (n := -1) hx hb dX10_undo_10 ?_
    exact z_iret hx hb hr hlk hW () (by first | rfl | omega) trivial rfl dX10_undo_11
set_option maxHeartbeats 4000000 in
set_option maxRecDepth 100000 in
theorem c_X10_undo4 {l : Launch} {G : va_G} {cI cJ cO : ClassId}  (hc : Nat) (qc : Nat → Nat) (vc : Nat → Int) (ac : Nat → Int → Int) (qy : Nat → Nat) (vy : Nat → Int) (ay : Nat → Int → Int) (qB : Nat → Nat) (vB : Nat → Int) (aB : Nat → Int → Int) (gB : Nat → Nat)  (y : Int) (hy3 : 1 ≤ vy 3 ∧ vy 3 ≤ 10) (hkk : ay 0 (vy 3 - 1) = 4) (hll : ay 1 (vy 3 - 1) = -1) (hpp : ay 2 (vy 3 - 1) = y) (hv4 : 0 ≤ vB 4 ∧ vB 4 ≤ 6) : zC l yX10_undo wsX10_undo { frames := 3, cells := 0, slots := 0, locals := 67 } G (tyZ cI cJ cO) (S := Unit) [.ref hc] ((dO cI cJ hc qc vc ac) ++ ((aW cI cJ (qc 2) qy vy ay) ++ ((bO cI cJ (qc 6) qB vB aB) ++ (gW cO (qB 1) gB)))) (zI (fun _ => vy 3 - 1)) (fun _ => True) (fun _ => (dO cI cJ hc qc (uV vc 8 (vc 8 - y)) ac) ++ ((aW cI cJ (qc 2) qy (uV vy 3 (vy 3 - 1)) ay) ++ ((bO cI cJ (qc 6) qB vB aB) ++ (gW cO (qB 1) gB)))) 0 0 := by
  refine z_start (cc := cX10_undo) (maxL := 1) (ret := (some .int)) (by decide) rfl (Nat.le_of_ble_eq_true rfl) ?_
  intro p e s m below meth c A ls F hr hlk hnm hAe hA hW hl
  have hx := F.1
  have hb := F.2.1
  have hown : s.vm.findClass RX10 = some m.cls := F.2.2.2.1
  have hts := F.2.2.2.2
  have hl : lv_has ls 1 [(0, .ref hc)] := hl
  refine lv_aload_n hx hb dX10_undo_0 rfl (lv_at hl 0 rfl) ?_
  refine z_get (v := .ref (qc 2)) hx hb hts hiX10_undo_X10 hown hW 0 2 1 rfl rfl rfl (by decide) rfl dX10_undo_1 ?_
  refine z_get (v := .int (iI (vy 3))) hx hb hts hiX10_undo_X0 hown hW 1 3 2 rfl rfl rfl (by decide) rfl dX10_undo_4 ?_
  refine z_if_ne (tgt := 12) hx hb dX10_undo_7 (by decide) ⟨by omega, by omega⟩ (fun c7 => ?_) (fun c7 => ?_)
  · refine lv_aload_n hx hb dX10_undo_12 rfl (lv_at hl 0 rfl) ?_
    refine lv_aload_n hx hb dX10_undo_13 rfl (lv_at hl 0 rfl) ?_
    refine z_get (v := .ref (qc 2)) hx hb hts hiX10_undo_X10 hown hW 0 2 1 rfl rfl rfl (by decide) rfl dX10_undo_14 ?_
    refine z_callV (As := []) (rest := [.ref hc]) F (c_X0_latestKind  (qc 2) qy vy ay   (show 0 ≤ (vy 3) ∧ (vy 3) ≤ 10 by omega)) gX10_undo_X0_latestKind rfl ziX0_latestKind ⟨rfl, rfl, by decide, by decide⟩ rfl hl.1 rfl (Nat.le_of_ble_eq_true rfl) dX10_undo_17 ⟨Nat.zero_le _, Nat.zero_le _⟩ hW hA [1, 2, 3, 4] rfl (by decide) (fun _ => rfl) (fun _ => (dO cI cJ hc qc vc ac) ++ ((aW cI cJ (qc 2) qy vy ay) ++ ((bO cI cJ (qc 6) qB vB aB) ++ (gW cO (qB 1) gB)))) (fun _ => rfl) (fun _ => [.int (iI (if 0 < (vy 3) then (ay 0) ((vy 3) - 1) else -1)), .ref hc]) (fun _ => rfl) 1 rfl rfl rfl (fun _ H locs hp17 hW => ?_)
    rw [if_pos (show 0 < vy 3 by omega), hkk]
    refine W.eq (g2 := F0 m 20 ls [.int (iI 4), .ref hc]) rfl ?_
    refine lv_aload_n hx hb dX10_undo_20 rfl (lv_at hl 0 rfl) ?_
    refine z_get (v := .ref (qc 6)) hx hb hts hiX10_undo_X10 hown hW 0 6 3 rfl rfl rfl (by decide) rfl dX10_undo_21 ?_
    refine lv_aload_n hx hb dX10_undo_24 rfl (lv_at hl 0 rfl) ?_
    refine z_get (v := .ref (qc 2)) hx hb hts hiX10_undo_X10 hown hW 0 2 1 rfl rfl rfl (by decide) rfl dX10_undo_25 ?_
    refine z_callV (As := []) (rest := [.ref (qc 6), .int (iI 4), .ref hc]) F (c_X0_latestLease  (qc 2) qy vy ay   (show 0 ≤ (vy 3) ∧ (vy 3) ≤ 10 by omega)) gX10_undo_X0_latestLease rfl ziX0_latestLease ⟨rfl, rfl, by decide, by decide⟩ rfl hl.1 rfl (Nat.le_of_ble_eq_true rfl) dX10_undo_28 ⟨Nat.zero_le _, Nat.zero_le _⟩ hW hA [1, 2, 3, 4] rfl (by decide) (fun _ => rfl) (fun _ => (dO cI cJ hc qc vc ac) ++ ((aW cI cJ (qc 2) qy vy ay) ++ ((bO cI cJ (qc 6) qB vB aB) ++ (gW cO (qB 1) gB)))) (fun _ => rfl) (fun _ => [.int (iI (if 0 < (vy 3) then (ay 1) ((vy 3) - 1) else -1)), .ref (qc 6), .int (iI 4), .ref hc]) (fun _ => rfl) 1 rfl rfl rfl (fun _ H locs hp28 hW => ?_)
    rw [if_pos (show 0 < vy 3 by omega), hll]
    refine W.eq (g2 := F0 m 31 ls [.int (iI (-1)), .ref (qc 6), .int (iI 4), .ref hc]) rfl ?_
    refine z_callV (As := [.int (iI (-1))]) (rest := [.int (iI 4), .ref hc]) F (c_X1_leaseAt  (qc 6) qB vB aB gB (-1)  (show -2147483648 ≤ (-1) ∧ (-1) < 2147483648 by omega) (show 0 ≤ (vB 4) ∧ (vB 4) ≤ 6 by omega)) gX10_undo_X1_leaseAt rfl ziX1_leaseAt ⟨rfl, rfl, by decide, by decide⟩ rfl hl.1 rfl (Nat.le_of_ble_eq_true rfl) dX10_undo_31 ⟨Nat.zero_le _, Nat.zero_le _⟩ hW hA [5, 6, 7] rfl (by decide) (fun _ => rfl) (fun _ => (dO cI cJ hc qc vc ac) ++ ((aW cI cJ (qc 2) qy vy ay) ++ ((bO cI cJ (qc 6) qB vB aB) ++ (gW cO (qB 1) gB)))) (fun _ => rfl) (fun _ => [va_rf (if 0 ≤ (-1) ∧ (-1) < (vB 4) then some (gB (-1).toNat) else none), .int (iI 4), .ref hc]) (fun _ => rfl) 5 rfl rfl rfl (fun _ H locs hp31 hW => ?_)
    rw [if_neg (show ¬ (0 ≤ (-1 : Int) ∧ (-1 : Int) < vB 4) by omega)]
    refine W.eq (g2 := F0 m 34 ls [.null, .int (iI 4), .ref hc]) rfl ?_
    refine lv_aload_n hx hb dX10_undo_34 rfl (lv_at hl 0 rfl) ?_
    refine z_get (v := .ref (qc 2)) hx hb hts hiX10_undo_X10 hown hW 0 2 1 rfl rfl rfl (by decide) rfl dX10_undo_35 ?_
    refine z_callV (As := []) (rest := [.null, .int (iI 4), .ref hc]) F (c_X0_latestPlace  (qc 2) qy vy ay   (show 0 ≤ (vy 3) ∧ (vy 3) ≤ 10 by omega)) gX10_undo_X0_latestPlace rfl ziX0_latestPlace ⟨rfl, rfl, by decide, by decide⟩ rfl hl.1 rfl (Nat.le_of_ble_eq_true rfl) dX10_undo_38 ⟨Nat.zero_le _, Nat.zero_le _⟩ hW hA [1, 2, 3, 4] rfl (by decide) (fun _ => rfl) (fun _ => (dO cI cJ hc qc vc ac) ++ ((aW cI cJ (qc 2) qy vy ay) ++ ((bO cI cJ (qc 6) qB vB aB) ++ (gW cO (qB 1) gB)))) (fun _ => rfl) (fun _ => [.int (iI (if 0 < (vy 3) then (ay 2) ((vy 3) - 1) else -1)), .null, .int (iI 4), .ref hc]) (fun _ => rfl) 1 rfl rfl rfl (fun _ H locs hp38 hW => ?_)
    rw [if_pos (show 0 < vy 3 by omega), hpp]
    refine W.eq (g2 := F0 m 41 ls [.int (iI y), .null, .int (iI 4), .ref hc]) rfl ?_
    refine z_callV (As := [.int (iI 4), .null, .int (iI y)]) (rest := []) F (c_X10_takeBack  hc qc vc ac 4 y  (show 4 = 4 by omega)) gX10_undo_X10_takeBack rfl ziX10_takeBack ⟨rfl, rfl, by decide, by decide⟩ rfl hl.1 rfl (Nat.le_of_ble_eq_true rfl) dX10_undo_41 ⟨Nat.zero_le _, Nat.zero_le _⟩ hW hA [0] rfl (by decide) (fun _ => rfl) (fun _ => (dO cI cJ hc qc (uV vc 8 ((vc 8) - y)) ac) ++ ((aW cI cJ (qc 2) qy vy ay) ++ ((bO cI cJ (qc 6) qB vB aB) ++ (gW cO (qB 1) gB)))) (fun _ => rfl) (fun _ => []) (fun _ => rfl) 0 rfl rfl rfl (fun _ H locs hp41 hW => ?_)
    have hW : zW G (tyZ cI cJ cO) A s ((dO cI cJ hc qc (uV vc 8 ((vc 8) - y)) ac) ++ ((aW cI cJ (qc 2) qy vy ay) ++ ((bO cI cJ (qc 6) qB vB aB) ++ (gW cO (qB 1) gB)))) H locs := hW
    refine lv_aload_n hx hb dX10_undo_44 rfl (lv_at hl 0 rfl) ?_
    refine z_get (v := .ref (qc 2)) hx hb hts hiX10_undo_X10 hown hW 0 2 1 rfl rfl rfl (by decide) rfl dX10_undo_45 ?_
    refine z_callV (As := []) (rest := []) F (c_X0_dropLatest  (qc 2) qy vy ay   (show 1 ≤ (vy 3) ∧ (vy 3) ≤ 10 by omega)) gX10_undo_X0_dropLatest rfl ziX0_dropLatest ⟨rfl, rfl, by decide, by decide⟩ rfl hl.1 rfl (Nat.le_of_ble_eq_true rfl) dX10_undo_48 ⟨Nat.zero_le _, Nat.zero_le _⟩ hW hA [1, 2, 3, 4] rfl (by decide) (fun _ => rfl) (fun _ => (dO cI cJ hc qc (uV vc 8 ((vc 8) - y)) ac) ++ ((aW cI cJ (qc 2) qy (uV vy 3 ((vy 3) - 1)) ay) ++ ((bO cI cJ (qc 6) qB vB aB) ++ (gW cO (qB 1) gB)))) (fun _ => rfl) (fun _ => []) (fun _ => rfl) 1 rfl rfl rfl (fun _ H locs hp48 hW => ?_)
    have hW : zW G (tyZ cI cJ cO) A s ((dO cI cJ hc qc (uV vc 8 ((vc 8) - y)) ac) ++ ((aW cI cJ (qc 2) qy (uV vy 3 ((vy 3) - 1)) ay) ++ ((bO cI cJ (qc 6) qB vB aB) ++ (gW cO (qB 1) gB)))) H locs := hW
    refine lv_aload_n hx hb dX10_undo_51 rfl (lv_at hl 0 rfl) ?_
    refine z_get (v := .ref (qc 2)) hx hb hts hiX10_undo_X10 hown hW 0 2 1 rfl rfl rfl (by decide) rfl dX10_undo_52 ?_
    refine z_get (v := .int (iI ((vy 3) - 1))) hx hb hts hiX10_undo_X0 hown hW 1 3 2 rfl rfl rfl (by decide) rfl dX10_undo_55 ?_
    exact z_iret hx hb hr hlk hW () (by first | rfl | omega) trivial rfl dX10_undo_58
  · exfalso; omega
set_option maxHeartbeats 4000000 in
set_option maxRecDepth 100000 in
theorem c_X10_undo1 {l : Launch} {G : va_G} {cI cJ cO : ClassId}  (hc : Nat) (qc : Nat → Nat) (vc : Nat → Int) (ac : Nat → Int → Int) (qy : Nat → Nat) (vy : Nat → Int) (ay : Nat → Int → Int) (qB : Nat → Nat) (vB : Nat → Int) (aB : Nat → Int → Int) (gB : Nat → Nat) (qv : Nat → Nat) (vv : Nat → Int) (av : Nat → Int → Int)  (y : Int) (hy3 : 1 ≤ vy 3 ∧ vy 3 ≤ 10) (hkk : ay 0 (vy 3 - 1) = 1) (hll : ay 1 (vy 3 - 1) = -1) (hpp : ay 2 (vy 3 - 1) = y) (hv4 : 0 ≤ vB 4 ∧ vB 4 ≤ 6) (h1 : 0 ≤ y ∧ y < 240) (hnow : 0 ≤ vc 8 ∧ vc 8 ≤ 239) : zC l yX10_undo wsX10_undo { frames := 3, cells := 0, slots := 0, locals := 67 } G (tyZ cI cJ cO) (S := Unit) [.ref hc] ((dO cI cJ hc qc vc ac) ++ ((aW cI cJ (qc 2) qy vy ay) ++ ((bO cI cJ (qc 6) qB vB aB) ++ ((gW cO (qB 1) gB) ++ (vW cI cJ (qB 0) qv vv av))))) (zI (fun _ => vy 3 - 1)) (fun _ => True) (fun _ => (dO cI cJ hc qc vc ac) ++ ((aW cI cJ (qc 2) qy (uV vy 3 (vy 3 - 1)) ay) ++ ((bO cI cJ (qc 6) qB vB (uA aB 2 (uI (aB 2) (vc 8) (aB 2 (vc 8) + (-1))))) ++ ((gW cO (qB 1) gB) ++ (vW cI cJ (qB 0) qv (uV vv 2 (vv 2 - 1)) (uA (uA av 0 (uI (av 0) y 0)) 1 (uI (av 1) y 240))))))) 0 0 := by
  refine z_start (cc := cX10_undo) (maxL := 1) (ret := (some .int)) (by decide) rfl (Nat.le_of_ble_eq_true rfl) ?_
  intro p e s m below meth c A ls F hr hlk hnm hAe hA hW hl
  have hx := F.1
  have hb := F.2.1
  have hown : s.vm.findClass RX10 = some m.cls := F.2.2.2.1
  have hts := F.2.2.2.2
  have hl : lv_has ls 1 [(0, .ref hc)] := hl
  refine lv_aload_n hx hb dX10_undo_0 rfl (lv_at hl 0 rfl) ?_
  refine z_get (v := .ref (qc 2)) hx hb hts hiX10_undo_X10 hown hW 0 2 1 rfl rfl rfl (by decide) rfl dX10_undo_1 ?_
  refine z_get (v := .int (iI (vy 3))) hx hb hts hiX10_undo_X0 hown hW 1 3 2 rfl rfl rfl (by decide) rfl dX10_undo_4 ?_
  refine z_if_ne (tgt := 12) hx hb dX10_undo_7 (by decide) ⟨by omega, by omega⟩ (fun c7 => ?_) (fun c7 => ?_)
  · refine lv_aload_n hx hb dX10_undo_12 rfl (lv_at hl 0 rfl) ?_
    refine lv_aload_n hx hb dX10_undo_13 rfl (lv_at hl 0 rfl) ?_
    refine z_get (v := .ref (qc 2)) hx hb hts hiX10_undo_X10 hown hW 0 2 1 rfl rfl rfl (by decide) rfl dX10_undo_14 ?_
    refine z_callV (As := []) (rest := [.ref hc]) F (c_X0_latestKind  (qc 2) qy vy ay   (show 0 ≤ (vy 3) ∧ (vy 3) ≤ 10 by omega)) gX10_undo_X0_latestKind rfl ziX0_latestKind ⟨rfl, rfl, by decide, by decide⟩ rfl hl.1 rfl (Nat.le_of_ble_eq_true rfl) dX10_undo_17 ⟨Nat.zero_le _, Nat.zero_le _⟩ hW hA [1, 2, 3, 4] rfl (by decide) (fun _ => rfl) (fun _ => (dO cI cJ hc qc vc ac) ++ ((aW cI cJ (qc 2) qy vy ay) ++ ((bO cI cJ (qc 6) qB vB aB) ++ ((gW cO (qB 1) gB) ++ (vW cI cJ (qB 0) qv vv av))))) (fun _ => rfl) (fun _ => [.int (iI (if 0 < (vy 3) then (ay 0) ((vy 3) - 1) else -1)), .ref hc]) (fun _ => rfl) 1 rfl rfl rfl (fun _ H locs hp17 hW => ?_)
    rw [if_pos (show 0 < vy 3 by omega), hkk]
    refine W.eq (g2 := F0 m 20 ls [.int (iI 1), .ref hc]) rfl ?_
    refine lv_aload_n hx hb dX10_undo_20 rfl (lv_at hl 0 rfl) ?_
    refine z_get (v := .ref (qc 6)) hx hb hts hiX10_undo_X10 hown hW 0 6 3 rfl rfl rfl (by decide) rfl dX10_undo_21 ?_
    refine lv_aload_n hx hb dX10_undo_24 rfl (lv_at hl 0 rfl) ?_
    refine z_get (v := .ref (qc 2)) hx hb hts hiX10_undo_X10 hown hW 0 2 1 rfl rfl rfl (by decide) rfl dX10_undo_25 ?_
    refine z_callV (As := []) (rest := [.ref (qc 6), .int (iI 1), .ref hc]) F (c_X0_latestLease  (qc 2) qy vy ay   (show 0 ≤ (vy 3) ∧ (vy 3) ≤ 10 by omega)) gX10_undo_X0_latestLease rfl ziX0_latestLease ⟨rfl, rfl, by decide, by decide⟩ rfl hl.1 rfl (Nat.le_of_ble_eq_true rfl) dX10_undo_28 ⟨Nat.zero_le _, Nat.zero_le _⟩ hW hA [1, 2, 3, 4] rfl (by decide) (fun _ => rfl) (fun _ => (dO cI cJ hc qc vc ac) ++ ((aW cI cJ (qc 2) qy vy ay) ++ ((bO cI cJ (qc 6) qB vB aB) ++ ((gW cO (qB 1) gB) ++ (vW cI cJ (qB 0) qv vv av))))) (fun _ => rfl) (fun _ => [.int (iI (if 0 < (vy 3) then (ay 1) ((vy 3) - 1) else -1)), .ref (qc 6), .int (iI 1), .ref hc]) (fun _ => rfl) 1 rfl rfl rfl (fun _ H locs hp28 hW => ?_)
    rw [if_pos (show 0 < vy 3 by omega), hll]
    refine W.eq (g2 := F0 m 31 ls [.int (iI (-1)), .ref (qc 6), .int (iI 1), .ref hc]) rfl ?_
    refine z_callV (As := [.int (iI (-1))]) (rest := [.int (iI 1), .ref hc]) F (c_X1_leaseAt  (qc 6) qB vB aB gB (-1)  (show -2147483648 ≤ (-1) ∧ (-1) < 2147483648 by omega) (show 0 ≤ (vB 4) ∧ (vB 4) ≤ 6 by omega)) gX10_undo_X1_leaseAt rfl ziX1_leaseAt ⟨rfl, rfl, by decide, by decide⟩ rfl hl.1 rfl (Nat.le_of_ble_eq_true rfl) dX10_undo_31 ⟨Nat.zero_le _, Nat.zero_le _⟩ hW hA [5, 6, 7] rfl (by decide) (fun _ => rfl) (fun _ => (dO cI cJ hc qc vc ac) ++ ((aW cI cJ (qc 2) qy vy ay) ++ ((bO cI cJ (qc 6) qB vB aB) ++ ((gW cO (qB 1) gB) ++ (vW cI cJ (qB 0) qv vv av))))) (fun _ => rfl) (fun _ => [va_rf (if 0 ≤ (-1) ∧ (-1) < (vB 4) then some (gB (-1).toNat) else none), .int (iI 1), .ref hc]) (fun _ => rfl) 5 rfl rfl rfl (fun _ H locs hp31 hW => ?_)
    rw [if_neg (show ¬ (0 ≤ (-1 : Int) ∧ (-1 : Int) < vB 4) by omega)]
    refine W.eq (g2 := F0 m 34 ls [.null, .int (iI 1), .ref hc]) rfl ?_
    refine lv_aload_n hx hb dX10_undo_34 rfl (lv_at hl 0 rfl) ?_
    refine z_get (v := .ref (qc 2)) hx hb hts hiX10_undo_X10 hown hW 0 2 1 rfl rfl rfl (by decide) rfl dX10_undo_35 ?_
    refine z_callV (As := []) (rest := [.null, .int (iI 1), .ref hc]) F (c_X0_latestPlace  (qc 2) qy vy ay   (show 0 ≤ (vy 3) ∧ (vy 3) ≤ 10 by omega)) gX10_undo_X0_latestPlace rfl ziX0_latestPlace ⟨rfl, rfl, by decide, by decide⟩ rfl hl.1 rfl (Nat.le_of_ble_eq_true rfl) dX10_undo_38 ⟨Nat.zero_le _, Nat.zero_le _⟩ hW hA [1, 2, 3, 4] rfl (by decide) (fun _ => rfl) (fun _ => (dO cI cJ hc qc vc ac) ++ ((aW cI cJ (qc 2) qy vy ay) ++ ((bO cI cJ (qc 6) qB vB aB) ++ ((gW cO (qB 1) gB) ++ (vW cI cJ (qB 0) qv vv av))))) (fun _ => rfl) (fun _ => [.int (iI (if 0 < (vy 3) then (ay 2) ((vy 3) - 1) else -1)), .null, .int (iI 1), .ref hc]) (fun _ => rfl) 1 rfl rfl rfl (fun _ H locs hp38 hW => ?_)
    rw [if_pos (show 0 < vy 3 by omega), hpp]
    refine W.eq (g2 := F0 m 41 ls [.int (iI y), .null, .int (iI 1), .ref hc]) rfl ?_
    refine z_callV (As := [.int (iI 1), .null, .int (iI y)]) (rest := []) F (c_X10_takeBack1  hc qc vc ac qB vB aB qv vv av 1 y  (show 1 = 1 by omega) (show 0 ≤ y ∧ y < 240 by omega) (show 0 ≤ (vc 8) ∧ (vc 8) ≤ 239 by omega)) gX10_undo_X10_takeBack rfl ziX10_takeBack ⟨rfl, rfl, by decide, by decide⟩ rfl hl.1 rfl (Nat.le_of_ble_eq_true rfl) dX10_undo_41 ⟨Nat.zero_le _, Nat.zero_le _⟩ hW hA [0, 5, 6, 8, 9, 10] rfl (by decide) (fun _ => rfl) (fun _ => (dO cI cJ hc qc vc ac) ++ ((aW cI cJ (qc 2) qy vy ay) ++ ((bO cI cJ (qc 6) qB vB (uA aB 2 (uI ((aB 2)) ((vc 8)) ((aB 2) ((vc 8)) + (-1))))) ++ ((gW cO (qB 1) gB) ++ (vW cI cJ (qB 0) qv (uV vv 2 ((vv 2) - 1)) (uA (uA av 0 (uI ((av 0)) y 0)) 1 (uI ((av 1)) y 240))))))) (fun _ => rfl) (fun _ => []) (fun _ => rfl) 0 rfl rfl rfl (fun _ H locs hp41 hW => ?_)
    have hW : zW G (tyZ cI cJ cO) A s ((dO cI cJ hc qc vc ac) ++ ((aW cI cJ (qc 2) qy vy ay) ++ ((bO cI cJ (qc 6) qB vB (uA aB 2 (uI ((aB 2)) ((vc 8)) ((aB 2) ((vc 8)) + (-1))))) ++ ((gW cO (qB 1) gB) ++ (vW cI cJ (qB 0) qv (uV vv 2 ((vv 2) - 1)) (uA (uA av 0 (uI ((av 0)) y 0)) 1 (uI ((av 1)) y 240))))))) H locs := hW
    refine lv_aload_n hx hb dX10_undo_44 rfl (lv_at hl 0 rfl) ?_
    refine z_get (v := .ref (qc 2)) hx hb hts hiX10_undo_X10 hown hW 0 2 1 rfl rfl rfl (by decide) rfl dX10_undo_45 ?_
    refine z_callV (As := []) (rest := []) F (c_X0_dropLatest  (qc 2) qy vy ay   (show 1 ≤ (vy 3) ∧ (vy 3) ≤ 10 by omega)) gX10_undo_X0_dropLatest rfl ziX0_dropLatest ⟨rfl, rfl, by decide, by decide⟩ rfl hl.1 rfl (Nat.le_of_ble_eq_true rfl) dX10_undo_48 ⟨Nat.zero_le _, Nat.zero_le _⟩ hW hA [1, 2, 3, 4] rfl (by decide) (fun _ => rfl) (fun _ => (dO cI cJ hc qc vc ac) ++ ((aW cI cJ (qc 2) qy (uV vy 3 ((vy 3) - 1)) ay) ++ ((bO cI cJ (qc 6) qB vB (uA aB 2 (uI ((aB 2)) ((vc 8)) ((aB 2) ((vc 8)) + (-1))))) ++ ((gW cO (qB 1) gB) ++ (vW cI cJ (qB 0) qv (uV vv 2 ((vv 2) - 1)) (uA (uA av 0 (uI ((av 0)) y 0)) 1 (uI ((av 1)) y 240))))))) (fun _ => rfl) (fun _ => []) (fun _ => rfl) 1 rfl rfl rfl (fun _ H locs hp48 hW => ?_)
    have hW : zW G (tyZ cI cJ cO) A s ((dO cI cJ hc qc vc ac) ++ ((aW cI cJ (qc 2) qy (uV vy 3 ((vy 3) - 1)) ay) ++ ((bO cI cJ (qc 6) qB vB (uA aB 2 (uI ((aB 2)) ((vc 8)) ((aB 2) ((vc 8)) + (-1))))) ++ ((gW cO (qB 1) gB) ++ (vW cI cJ (qB 0) qv (uV vv 2 ((vv 2) - 1)) (uA (uA av 0 (uI ((av 0)) y 0)) 1 (uI ((av 1)) y 240))))))) H locs := hW
    refine lv_aload_n hx hb dX10_undo_51 rfl (lv_at hl 0 rfl) ?_
    refine z_get (v := .ref (qc 2)) hx hb hts hiX10_undo_X10 hown hW 0 2 1 rfl rfl rfl (by decide) rfl dX10_undo_52 ?_
    refine z_get (v := .int (iI ((vy 3) - 1))) hx hb hts hiX10_undo_X0 hown hW 1 3 2 rfl rfl rfl (by decide) rfl dX10_undo_55 ?_
    exact z_iret hx hb hr hlk hW () (by first | rfl | omega) trivial rfl dX10_undo_58
  · exfalso; omega
set_option maxHeartbeats 4000000 in
set_option maxRecDepth 100000 in
theorem c_X10_undo2 {l : Launch} {G : va_G} {cI cJ cO : ClassId}  (hc : Nat) (qc : Nat → Nat) (vc : Nat → Int) (ac : Nat → Int → Int) (qy : Nat → Nat) (vy : Nat → Int) (ay : Nat → Int → Int) (qB : Nat → Nat) (vB : Nat → Int) (aB : Nat → Int → Int) (gB : Nat → Nat) (he : Nat) (qe : Nat → Nat) (ve : Nat → Int) (ae : Nat → Int → Int)  (y : Int) (n : Int) (hy3 : 1 ≤ vy 3 ∧ vy 3 ≤ 10) (hkk : ay 0 (vy 3 - 1) = 2) (hll : ay 1 (vy 3 - 1) = n) (hpp : ay 2 (vy 3 - 1) = y) (hv4 : 0 ≤ vB 4 ∧ vB 4 ≤ 6) (h1 : 0 ≤ y ∧ y < 120) (hnow : 0 ≤ vc 8 ∧ vc 8 ≤ 239) (hn : 0 ≤ n ∧ n < vB 4) (hg : gB n.toNat = he) : zC l yX10_undo wsX10_undo { frames := 3, cells := 0, slots := 0, locals := 67 } G (tyZ cI cJ cO) (S := Unit) [.ref hc] ((dO cI cJ hc qc vc ac) ++ ((aW cI cJ (qc 2) qy vy ay) ++ ((bO cI cJ (qc 6) qB vB aB) ++ ((gW cO (qB 1) gB) ++ (lW cI cJ he qe ve ae))))) (zI (fun _ => vy 3 - 1)) (fun _ => True) (fun _ => (dO cI cJ hc qc vc ac) ++ ((aW cI cJ (qc 2) qy (uV vy 3 (vy 3 - 1)) ay) ++ ((bO cI cJ (qc 6) qB vB (uA aB 2 (uI (aB 2) (vc 8) (aB 2 (vc 8) + (-1))))) ++ ((gW cO (qB 1) gB) ++ (lW cI cJ he qe ve (uA (uA ae 2 (uI (ae 2) y 0)) 3 (uI (ae 3) y 240))))))) 0 0 := by
  refine z_start (cc := cX10_undo) (maxL := 1) (ret := (some .int)) (by decide) rfl (Nat.le_of_ble_eq_true rfl) ?_
  intro p e s m below meth c A ls F hr hlk hnm hAe hA hW hl
  have hx := F.1
  have hb := F.2.1
  have hown : s.vm.findClass RX10 = some m.cls := F.2.2.2.1
  have hts := F.2.2.2.2
  have hl : lv_has ls 1 [(0, .ref hc)] := hl
  refine lv_aload_n hx hb dX10_undo_0 rfl (lv_at hl 0 rfl) ?_
  refine z_get (v := .ref (qc 2)) hx hb hts hiX10_undo_X10 hown hW 0 2 1 rfl rfl rfl (by decide) rfl dX10_undo_1 ?_
  refine z_get (v := .int (iI (vy 3))) hx hb hts hiX10_undo_X0 hown hW 1 3 2 rfl rfl rfl (by decide) rfl dX10_undo_4 ?_
  refine z_if_ne (tgt := 12) hx hb dX10_undo_7 (by decide) ⟨by omega, by omega⟩ (fun c7 => ?_) (fun c7 => ?_)
  · refine lv_aload_n hx hb dX10_undo_12 rfl (lv_at hl 0 rfl) ?_
    refine lv_aload_n hx hb dX10_undo_13 rfl (lv_at hl 0 rfl) ?_
    refine z_get (v := .ref (qc 2)) hx hb hts hiX10_undo_X10 hown hW 0 2 1 rfl rfl rfl (by decide) rfl dX10_undo_14 ?_
    refine z_callV (As := []) (rest := [.ref hc]) F (c_X0_latestKind  (qc 2) qy vy ay   (show 0 ≤ (vy 3) ∧ (vy 3) ≤ 10 by omega)) gX10_undo_X0_latestKind rfl ziX0_latestKind ⟨rfl, rfl, by decide, by decide⟩ rfl hl.1 rfl (Nat.le_of_ble_eq_true rfl) dX10_undo_17 ⟨Nat.zero_le _, Nat.zero_le _⟩ hW hA [1, 2, 3, 4] rfl (by decide) (fun _ => rfl) (fun _ => (dO cI cJ hc qc vc ac) ++ ((aW cI cJ (qc 2) qy vy ay) ++ ((bO cI cJ (qc 6) qB vB aB) ++ ((gW cO (qB 1) gB) ++ (lW cI cJ he qe ve ae))))) (fun _ => rfl) (fun _ => [.int (iI (if 0 < (vy 3) then (ay 0) ((vy 3) - 1) else -1)), .ref hc]) (fun _ => rfl) 1 rfl rfl rfl (fun _ H locs hp17 hW => ?_)
    rw [if_pos (show 0 < vy 3 by omega), hkk]
    refine W.eq (g2 := F0 m 20 ls [.int (iI 2), .ref hc]) rfl ?_
    refine lv_aload_n hx hb dX10_undo_20 rfl (lv_at hl 0 rfl) ?_
    refine z_get (v := .ref (qc 6)) hx hb hts hiX10_undo_X10 hown hW 0 6 3 rfl rfl rfl (by decide) rfl dX10_undo_21 ?_
    refine lv_aload_n hx hb dX10_undo_24 rfl (lv_at hl 0 rfl) ?_
    refine z_get (v := .ref (qc 2)) hx hb hts hiX10_undo_X10 hown hW 0 2 1 rfl rfl rfl (by decide) rfl dX10_undo_25 ?_
    refine z_callV (As := []) (rest := [.ref (qc 6), .int (iI 2), .ref hc]) F (c_X0_latestLease  (qc 2) qy vy ay   (show 0 ≤ (vy 3) ∧ (vy 3) ≤ 10 by omega)) gX10_undo_X0_latestLease rfl ziX0_latestLease ⟨rfl, rfl, by decide, by decide⟩ rfl hl.1 rfl (Nat.le_of_ble_eq_true rfl) dX10_undo_28 ⟨Nat.zero_le _, Nat.zero_le _⟩ hW hA [1, 2, 3, 4] rfl (by decide) (fun _ => rfl) (fun _ => (dO cI cJ hc qc vc ac) ++ ((aW cI cJ (qc 2) qy vy ay) ++ ((bO cI cJ (qc 6) qB vB aB) ++ ((gW cO (qB 1) gB) ++ (lW cI cJ he qe ve ae))))) (fun _ => rfl) (fun _ => [.int (iI (if 0 < (vy 3) then (ay 1) ((vy 3) - 1) else -1)), .ref (qc 6), .int (iI 2), .ref hc]) (fun _ => rfl) 1 rfl rfl rfl (fun _ H locs hp28 hW => ?_)
    rw [if_pos (show 0 < vy 3 by omega), hll]
    refine W.eq (g2 := F0 m 31 ls [.int (iI n), .ref (qc 6), .int (iI 2), .ref hc]) rfl ?_
    refine z_callV (As := [.int (iI n)]) (rest := [.int (iI 2), .ref hc]) F (c_X1_leaseAt  (qc 6) qB vB aB gB n  (show -2147483648 ≤ n ∧ n < 2147483648 by omega) (show 0 ≤ (vB 4) ∧ (vB 4) ≤ 6 by omega)) gX10_undo_X1_leaseAt rfl ziX1_leaseAt ⟨rfl, rfl, by decide, by decide⟩ rfl hl.1 rfl (Nat.le_of_ble_eq_true rfl) dX10_undo_31 ⟨Nat.zero_le _, Nat.zero_le _⟩ hW hA [5, 6, 7] rfl (by decide) (fun _ => rfl) (fun _ => (dO cI cJ hc qc vc ac) ++ ((aW cI cJ (qc 2) qy vy ay) ++ ((bO cI cJ (qc 6) qB vB aB) ++ ((gW cO (qB 1) gB) ++ (lW cI cJ he qe ve ae))))) (fun _ => rfl) (fun _ => [va_rf (if 0 ≤ n ∧ n < (vB 4) then some (gB n.toNat) else none), .int (iI 2), .ref hc]) (fun _ => rfl) 5 rfl rfl rfl (fun _ H locs hp31 hW => ?_)
    rw [if_pos (show 0 ≤ n ∧ n < vB 4 by omega), hg]
    refine W.eq (g2 := F0 m 34 ls [.ref he, .int (iI 2), .ref hc]) rfl ?_
    refine lv_aload_n hx hb dX10_undo_34 rfl (lv_at hl 0 rfl) ?_
    refine z_get (v := .ref (qc 2)) hx hb hts hiX10_undo_X10 hown hW 0 2 1 rfl rfl rfl (by decide) rfl dX10_undo_35 ?_
    refine z_callV (As := []) (rest := [.ref he, .int (iI 2), .ref hc]) F (c_X0_latestPlace  (qc 2) qy vy ay   (show 0 ≤ (vy 3) ∧ (vy 3) ≤ 10 by omega)) gX10_undo_X0_latestPlace rfl ziX0_latestPlace ⟨rfl, rfl, by decide, by decide⟩ rfl hl.1 rfl (Nat.le_of_ble_eq_true rfl) dX10_undo_38 ⟨Nat.zero_le _, Nat.zero_le _⟩ hW hA [1, 2, 3, 4] rfl (by decide) (fun _ => rfl) (fun _ => (dO cI cJ hc qc vc ac) ++ ((aW cI cJ (qc 2) qy vy ay) ++ ((bO cI cJ (qc 6) qB vB aB) ++ ((gW cO (qB 1) gB) ++ (lW cI cJ he qe ve ae))))) (fun _ => rfl) (fun _ => [.int (iI (if 0 < (vy 3) then (ay 2) ((vy 3) - 1) else -1)), .ref he, .int (iI 2), .ref hc]) (fun _ => rfl) 1 rfl rfl rfl (fun _ H locs hp38 hW => ?_)
    rw [if_pos (show 0 < vy 3 by omega), hpp]
    refine W.eq (g2 := F0 m 41 ls [.int (iI y), .ref he, .int (iI 2), .ref hc]) rfl ?_
    refine z_callV (As := [.int (iI 2), .ref he, .int (iI y)]) (rest := []) F (c_X10_takeBack2  hc qc vc ac qB vB aB he qe ve ae 2 y  (show 2 = 2 by omega) (show 0 ≤ y ∧ y < 120 by omega) (show 0 ≤ (vc 8) ∧ (vc 8) ≤ 239 by omega)) gX10_undo_X10_takeBack rfl ziX10_takeBack ⟨rfl, rfl, by decide, by decide⟩ rfl hl.1 rfl (Nat.le_of_ble_eq_true rfl) dX10_undo_41 ⟨Nat.zero_le _, Nat.zero_le _⟩ hW hA [0, 5, 6, 8, 9, 10, 11, 12] rfl (by decide) (fun _ => rfl) (fun _ => (dO cI cJ hc qc vc ac) ++ ((aW cI cJ (qc 2) qy vy ay) ++ ((bO cI cJ (qc 6) qB vB (uA aB 2 (uI ((aB 2)) ((vc 8)) ((aB 2) ((vc 8)) + (-1))))) ++ ((gW cO (qB 1) gB) ++ (lW cI cJ he qe ve (uA (uA ae 2 (uI ((ae 2)) y 0)) 3 (uI ((ae 3)) y 240))))))) (fun _ => rfl) (fun _ => []) (fun _ => rfl) 0 rfl rfl rfl (fun _ H locs hp41 hW => ?_)
    have hW : zW G (tyZ cI cJ cO) A s ((dO cI cJ hc qc vc ac) ++ ((aW cI cJ (qc 2) qy vy ay) ++ ((bO cI cJ (qc 6) qB vB (uA aB 2 (uI ((aB 2)) ((vc 8)) ((aB 2) ((vc 8)) + (-1))))) ++ ((gW cO (qB 1) gB) ++ (lW cI cJ he qe ve (uA (uA ae 2 (uI ((ae 2)) y 0)) 3 (uI ((ae 3)) y 240))))))) H locs := hW
    refine lv_aload_n hx hb dX10_undo_44 rfl (lv_at hl 0 rfl) ?_
    refine z_get (v := .ref (qc 2)) hx hb hts hiX10_undo_X10 hown hW 0 2 1 rfl rfl rfl (by decide) rfl dX10_undo_45 ?_
    refine z_callV (As := []) (rest := []) F (c_X0_dropLatest  (qc 2) qy vy ay   (show 1 ≤ (vy 3) ∧ (vy 3) ≤ 10 by omega)) gX10_undo_X0_dropLatest rfl ziX0_dropLatest ⟨rfl, rfl, by decide, by decide⟩ rfl hl.1 rfl (Nat.le_of_ble_eq_true rfl) dX10_undo_48 ⟨Nat.zero_le _, Nat.zero_le _⟩ hW hA [1, 2, 3, 4] rfl (by decide) (fun _ => rfl) (fun _ => (dO cI cJ hc qc vc ac) ++ ((aW cI cJ (qc 2) qy (uV vy 3 ((vy 3) - 1)) ay) ++ ((bO cI cJ (qc 6) qB vB (uA aB 2 (uI ((aB 2)) ((vc 8)) ((aB 2) ((vc 8)) + (-1))))) ++ ((gW cO (qB 1) gB) ++ (lW cI cJ he qe ve (uA (uA ae 2 (uI ((ae 2)) y 0)) 3 (uI ((ae 3)) y 240))))))) (fun _ => rfl) (fun _ => []) (fun _ => rfl) 1 rfl rfl rfl (fun _ H locs hp48 hW => ?_)
    have hW : zW G (tyZ cI cJ cO) A s ((dO cI cJ hc qc vc ac) ++ ((aW cI cJ (qc 2) qy (uV vy 3 ((vy 3) - 1)) ay) ++ ((bO cI cJ (qc 6) qB vB (uA aB 2 (uI ((aB 2)) ((vc 8)) ((aB 2) ((vc 8)) + (-1))))) ++ ((gW cO (qB 1) gB) ++ (lW cI cJ he qe ve (uA (uA ae 2 (uI ((ae 2)) y 0)) 3 (uI ((ae 3)) y 240))))))) H locs := hW
    refine lv_aload_n hx hb dX10_undo_51 rfl (lv_at hl 0 rfl) ?_
    refine z_get (v := .ref (qc 2)) hx hb hts hiX10_undo_X10 hown hW 0 2 1 rfl rfl rfl (by decide) rfl dX10_undo_52 ?_
    refine z_get (v := .int (iI ((vy 3) - 1))) hx hb hts hiX10_undo_X0 hown hW 1 3 2 rfl rfl rfl (by decide) rfl dX10_undo_55 ?_
    exact z_iret hx hb hr hlk hW () (by first | rfl | omega) trivial rfl dX10_undo_58
  · exfalso; omega
set_option maxHeartbeats 4000000 in
set_option maxRecDepth 100000 in
theorem c_X10_undo3 {l : Launch} {G : va_G} {cI cJ cO : ClassId}  (hc : Nat) (qc : Nat → Nat) (vc : Nat → Int) (ac : Nat → Int → Int) (qy : Nat → Nat) (vy : Nat → Int) (ay : Nat → Int → Int) (qB : Nat → Nat) (vB : Nat → Int) (aB : Nat → Int → Int) (gB : Nat → Nat) (he : Nat) (qe : Nat → Nat) (ve : Nat → Int) (ae : Nat → Int → Int)  (y : Int) (n : Int) (hy3 : 1 ≤ vy 3 ∧ vy 3 ≤ 10) (hkk : ay 0 (vy 3 - 1) = 3) (hll : ay 1 (vy 3 - 1) = n) (hpp : ay 2 (vy 3 - 1) = y) (hv4 : 0 ≤ vB 4 ∧ vB 4 ≤ 6) (hnow : 0 ≤ vc 8 ∧ vc 8 ≤ 239) (hn : 0 ≤ n ∧ n < vB 4) (hg : gB n.toNat = he) : zC l yX10_undo wsX10_undo { frames := 3, cells := 0, slots := 0, locals := 67 } G (tyZ cI cJ cO) (S := Unit) [.ref hc] ((dO cI cJ hc qc vc ac) ++ ((aW cI cJ (qc 2) qy vy ay) ++ ((bO cI cJ (qc 6) qB vB aB) ++ ((gW cO (qB 1) gB) ++ (lW cI cJ he qe ve ae))))) (zI (fun _ => vy 3 - 1)) (fun _ => True) (fun _ => (dO cI cJ hc qc vc ac) ++ ((aW cI cJ (qc 2) qy (uV vy 3 (vy 3 - 1)) ay) ++ ((bO cI cJ (qc 6) qB vB (uA aB 2 (uI (aB 2) (vc 8) (aB 2 (vc 8) + (-1))))) ++ ((gW cO (qB 1) gB) ++ (lW cI cJ he qe (uV ve 13 240) ae))))) 0 0 := by
  refine z_start (cc := cX10_undo) (maxL := 1) (ret := (some .int)) (by decide) rfl (Nat.le_of_ble_eq_true rfl) ?_
  intro p e s m below meth c A ls F hr hlk hnm hAe hA hW hl
  have hx := F.1
  have hb := F.2.1
  have hown : s.vm.findClass RX10 = some m.cls := F.2.2.2.1
  have hts := F.2.2.2.2
  have hl : lv_has ls 1 [(0, .ref hc)] := hl
  refine lv_aload_n hx hb dX10_undo_0 rfl (lv_at hl 0 rfl) ?_
  refine z_get (v := .ref (qc 2)) hx hb hts hiX10_undo_X10 hown hW 0 2 1 rfl rfl rfl (by decide) rfl dX10_undo_1 ?_
  refine z_get (v := .int (iI (vy 3))) hx hb hts hiX10_undo_X0 hown hW 1 3 2 rfl rfl rfl (by decide) rfl dX10_undo_4 ?_
  refine z_if_ne (tgt := 12) hx hb dX10_undo_7 (by decide) ⟨by omega, by omega⟩ (fun c7 => ?_) (fun c7 => ?_)
  · refine lv_aload_n hx hb dX10_undo_12 rfl (lv_at hl 0 rfl) ?_
    refine lv_aload_n hx hb dX10_undo_13 rfl (lv_at hl 0 rfl) ?_
    refine z_get (v := .ref (qc 2)) hx hb hts hiX10_undo_X10 hown hW 0 2 1 rfl rfl rfl (by decide) rfl dX10_undo_14 ?_
    refine z_callV (As := []) (rest := [.ref hc]) F (c_X0_latestKind  (qc 2) qy vy ay   (show 0 ≤ (vy 3) ∧ (vy 3) ≤ 10 by omega)) gX10_undo_X0_latestKind rfl ziX0_latestKind ⟨rfl, rfl, by decide, by decide⟩ rfl hl.1 rfl (Nat.le_of_ble_eq_true rfl) dX10_undo_17 ⟨Nat.zero_le _, Nat.zero_le _⟩ hW hA [1, 2, 3, 4] rfl (by decide) (fun _ => rfl) (fun _ => (dO cI cJ hc qc vc ac) ++ ((aW cI cJ (qc 2) qy vy ay) ++ ((bO cI cJ (qc 6) qB vB aB) ++ ((gW cO (qB 1) gB) ++ (lW cI cJ he qe ve ae))))) (fun _ => rfl) (fun _ => [.int (iI (if 0 < (vy 3) then (ay 0) ((vy 3) - 1) else -1)), .ref hc]) (fun _ => rfl) 1 rfl rfl rfl (fun _ H locs hp17 hW => ?_)
    rw [if_pos (show 0 < vy 3 by omega), hkk]
    refine W.eq (g2 := F0 m 20 ls [.int (iI 3), .ref hc]) rfl ?_
    refine lv_aload_n hx hb dX10_undo_20 rfl (lv_at hl 0 rfl) ?_
    refine z_get (v := .ref (qc 6)) hx hb hts hiX10_undo_X10 hown hW 0 6 3 rfl rfl rfl (by decide) rfl dX10_undo_21 ?_
    refine lv_aload_n hx hb dX10_undo_24 rfl (lv_at hl 0 rfl) ?_
    refine z_get (v := .ref (qc 2)) hx hb hts hiX10_undo_X10 hown hW 0 2 1 rfl rfl rfl (by decide) rfl dX10_undo_25 ?_
    refine z_callV (As := []) (rest := [.ref (qc 6), .int (iI 3), .ref hc]) F (c_X0_latestLease  (qc 2) qy vy ay   (show 0 ≤ (vy 3) ∧ (vy 3) ≤ 10 by omega)) gX10_undo_X0_latestLease rfl ziX0_latestLease ⟨rfl, rfl, by decide, by decide⟩ rfl hl.1 rfl (Nat.le_of_ble_eq_true rfl) dX10_undo_28 ⟨Nat.zero_le _, Nat.zero_le _⟩ hW hA [1, 2, 3, 4] rfl (by decide) (fun _ => rfl) (fun _ => (dO cI cJ hc qc vc ac) ++ ((aW cI cJ (qc 2) qy vy ay) ++ ((bO cI cJ (qc 6) qB vB aB) ++ ((gW cO (qB 1) gB) ++ (lW cI cJ he qe ve ae))))) (fun _ => rfl) (fun _ => [.int (iI (if 0 < (vy 3) then (ay 1) ((vy 3) - 1) else -1)), .ref (qc 6), .int (iI 3), .ref hc]) (fun _ => rfl) 1 rfl rfl rfl (fun _ H locs hp28 hW => ?_)
    rw [if_pos (show 0 < vy 3 by omega), hll]
    refine W.eq (g2 := F0 m 31 ls [.int (iI n), .ref (qc 6), .int (iI 3), .ref hc]) rfl ?_
    refine z_callV (As := [.int (iI n)]) (rest := [.int (iI 3), .ref hc]) F (c_X1_leaseAt  (qc 6) qB vB aB gB n  (show -2147483648 ≤ n ∧ n < 2147483648 by omega) (show 0 ≤ (vB 4) ∧ (vB 4) ≤ 6 by omega)) gX10_undo_X1_leaseAt rfl ziX1_leaseAt ⟨rfl, rfl, by decide, by decide⟩ rfl hl.1 rfl (Nat.le_of_ble_eq_true rfl) dX10_undo_31 ⟨Nat.zero_le _, Nat.zero_le _⟩ hW hA [5, 6, 7] rfl (by decide) (fun _ => rfl) (fun _ => (dO cI cJ hc qc vc ac) ++ ((aW cI cJ (qc 2) qy vy ay) ++ ((bO cI cJ (qc 6) qB vB aB) ++ ((gW cO (qB 1) gB) ++ (lW cI cJ he qe ve ae))))) (fun _ => rfl) (fun _ => [va_rf (if 0 ≤ n ∧ n < (vB 4) then some (gB n.toNat) else none), .int (iI 3), .ref hc]) (fun _ => rfl) 5 rfl rfl rfl (fun _ H locs hp31 hW => ?_)
    rw [if_pos (show 0 ≤ n ∧ n < vB 4 by omega), hg]
    refine W.eq (g2 := F0 m 34 ls [.ref he, .int (iI 3), .ref hc]) rfl ?_
    refine lv_aload_n hx hb dX10_undo_34 rfl (lv_at hl 0 rfl) ?_
    refine z_get (v := .ref (qc 2)) hx hb hts hiX10_undo_X10 hown hW 0 2 1 rfl rfl rfl (by decide) rfl dX10_undo_35 ?_
    refine z_callV (As := []) (rest := [.ref he, .int (iI 3), .ref hc]) F (c_X0_latestPlace  (qc 2) qy vy ay   (show 0 ≤ (vy 3) ∧ (vy 3) ≤ 10 by omega)) gX10_undo_X0_latestPlace rfl ziX0_latestPlace ⟨rfl, rfl, by decide, by decide⟩ rfl hl.1 rfl (Nat.le_of_ble_eq_true rfl) dX10_undo_38 ⟨Nat.zero_le _, Nat.zero_le _⟩ hW hA [1, 2, 3, 4] rfl (by decide) (fun _ => rfl) (fun _ => (dO cI cJ hc qc vc ac) ++ ((aW cI cJ (qc 2) qy vy ay) ++ ((bO cI cJ (qc 6) qB vB aB) ++ ((gW cO (qB 1) gB) ++ (lW cI cJ he qe ve ae))))) (fun _ => rfl) (fun _ => [.int (iI (if 0 < (vy 3) then (ay 2) ((vy 3) - 1) else -1)), .ref he, .int (iI 3), .ref hc]) (fun _ => rfl) 1 rfl rfl rfl (fun _ H locs hp38 hW => ?_)
    rw [if_pos (show 0 < vy 3 by omega), hpp]
    refine W.eq (g2 := F0 m 41 ls [.int (iI y), .ref he, .int (iI 3), .ref hc]) rfl ?_
    refine z_callV (As := [.int (iI 3), .ref he, .int (iI y)]) (rest := []) F (c_X10_takeBack3  hc qc vc ac qB vB aB he qe ve ae 3 y  (show 3 = 3 by omega) (show 0 ≤ (vc 8) ∧ (vc 8) ≤ 239 by omega)) gX10_undo_X10_takeBack rfl ziX10_takeBack ⟨rfl, rfl, by decide, by decide⟩ rfl hl.1 rfl (Nat.le_of_ble_eq_true rfl) dX10_undo_41 ⟨Nat.zero_le _, Nat.zero_le _⟩ hW hA [0, 5, 6, 8, 9, 10, 11, 12] rfl (by decide) (fun _ => rfl) (fun _ => (dO cI cJ hc qc vc ac) ++ ((aW cI cJ (qc 2) qy vy ay) ++ ((bO cI cJ (qc 6) qB vB (uA aB 2 (uI ((aB 2)) ((vc 8)) ((aB 2) ((vc 8)) + (-1))))) ++ ((gW cO (qB 1) gB) ++ (lW cI cJ he qe (uV ve 13 240) ae))))) (fun _ => rfl) (fun _ => []) (fun _ => rfl) 0 rfl rfl rfl (fun _ H locs hp41 hW => ?_)
    have hW : zW G (tyZ cI cJ cO) A s ((dO cI cJ hc qc vc ac) ++ ((aW cI cJ (qc 2) qy vy ay) ++ ((bO cI cJ (qc 6) qB vB (uA aB 2 (uI ((aB 2)) ((vc 8)) ((aB 2) ((vc 8)) + (-1))))) ++ ((gW cO (qB 1) gB) ++ (lW cI cJ he qe (uV ve 13 240) ae))))) H locs := hW
    refine lv_aload_n hx hb dX10_undo_44 rfl (lv_at hl 0 rfl) ?_
    refine z_get (v := .ref (qc 2)) hx hb hts hiX10_undo_X10 hown hW 0 2 1 rfl rfl rfl (by decide) rfl dX10_undo_45 ?_
    refine z_callV (As := []) (rest := []) F (c_X0_dropLatest  (qc 2) qy vy ay   (show 1 ≤ (vy 3) ∧ (vy 3) ≤ 10 by omega)) gX10_undo_X0_dropLatest rfl ziX0_dropLatest ⟨rfl, rfl, by decide, by decide⟩ rfl hl.1 rfl (Nat.le_of_ble_eq_true rfl) dX10_undo_48 ⟨Nat.zero_le _, Nat.zero_le _⟩ hW hA [1, 2, 3, 4] rfl (by decide) (fun _ => rfl) (fun _ => (dO cI cJ hc qc vc ac) ++ ((aW cI cJ (qc 2) qy (uV vy 3 ((vy 3) - 1)) ay) ++ ((bO cI cJ (qc 6) qB vB (uA aB 2 (uI ((aB 2)) ((vc 8)) ((aB 2) ((vc 8)) + (-1))))) ++ ((gW cO (qB 1) gB) ++ (lW cI cJ he qe (uV ve 13 240) ae))))) (fun _ => rfl) (fun _ => []) (fun _ => rfl) 1 rfl rfl rfl (fun _ H locs hp48 hW => ?_)
    have hW : zW G (tyZ cI cJ cO) A s ((dO cI cJ hc qc vc ac) ++ ((aW cI cJ (qc 2) qy (uV vy 3 ((vy 3) - 1)) ay) ++ ((bO cI cJ (qc 6) qB vB (uA aB 2 (uI ((aB 2)) ((vc 8)) ((aB 2) ((vc 8)) + (-1))))) ++ ((gW cO (qB 1) gB) ++ (lW cI cJ he qe (uV ve 13 240) ae))))) H locs := hW
    refine lv_aload_n hx hb dX10_undo_51 rfl (lv_at hl 0 rfl) ?_
    refine z_get (v := .ref (qc 2)) hx hb hts hiX10_undo_X10 hown hW 0 2 1 rfl rfl rfl (by decide) rfl dX10_undo_52 ?_
    refine z_get (v := .int (iI ((vy 3) - 1))) hx hb hts hiX10_undo_X0 hown hW 1 3 2 rfl rfl rfl (by decide) rfl dX10_undo_55 ?_
    exact z_iret hx hb hr hlk hW () (by first | rfl | omega) trivial rfl dX10_undo_58
  · exfalso; omega
