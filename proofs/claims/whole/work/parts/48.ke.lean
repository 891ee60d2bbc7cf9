/-! the class: scan() -/
theorem hiX7_scan_X7 : ∀ w ∈ wsX70, w ∈ wsX7_scan := fun _ h => List.mem_cons_of_mem _ (List.mem_append_left _ (List.mem_append_right _ h))
theorem hiX7_scan_X6 : ∀ w ∈ wsX60, w ∈ wsX7_scan := fun _ h => List.mem_cons_of_mem _ (List.mem_append_right _ h)
theorem ziX7_scan : yX7_scan.cls = RX7 ∧ yX7_scan.cls ≠ "java/lang/invoke/MethodHandle" ∧ yX7_scan.cls ≠ "java/lang/invoke/VarHandle" ∧ (parseMethodDescriptor yX7_scan.desc).map (fun d => d.parameters.length) = some 1 := by decide +kernel
set_option maxHeartbeats 4000000 in
set_option maxRecDepth 100000 in
theorem c_X7_scan {l : Launch} {G : va_G} {cI cJ cO : ClassId} {aK aV : Nat → Nat}  (h : Nat) (q : Nat → Nat) (v : Nat → Int) (a : Nat → Int → Int) (hf : Nat) (qf : Nat → Nat) (vf : Nat → Int) (af : Nat → Int → Int)   (h2 : 0 ≤ vf 1 ∧ vf 1 ≤ 640) (hT : ∀ j : Int, 0 ≤ j → j < 640 → 0 ≤ af 0 j ∧ af 0 j ≤ 255) : zCK l yX7_scan wsX7_scan { frames := 7, cells := 0, slots := 0, locals := 172 } G (tyZ cI cJ cO) aK aV (S := Int × Int × (Int → Int) × (Int → Int) × (Int → Int)) [.ref h, .ref hf] ((sW cI cJ h q v a) ++ (tW cI cJ hf qf vf af)) (zN) (fun u => TKS (af 0) (vf 1) u.2.2.1 u.2.2.2.1 u.2.2.2.2 u.1) (fun u => (sW cI cJ h q (uV (uV v 3 u.1) 4 u.2.1) (uA (uA (uA a 0 u.2.2.1) 1 u.2.2.2.1) 2 u.2.2.2.2)) ++ (tW cI cJ hf qf vf af)) 0 0 := by
  refine z_startK (cc := cX7_scan) (maxL := 7) (ret := none) (by decide) rfl (Nat.le_of_ble_eq_true rfl) ?_
  intro p e s m below meth c A ls F hr hlk hnm hAe hA hW hl hX
  have hx := F.1
  have hb := F.2.1
  have hown : s.vm.findClass RX7 = some m.cls := F.2.2.2.1
  have hts := F.2.2.2.2
  have hl : lv_has ls 7 [(0, .ref h), (1, .ref hf)] := hl
  refine lv_aload_n hx hb dX7_scan_0 rfl (lv_at hl 0 rfl) ?_
  refine z_iconst (n := 0) hx hb dX7_scan_1 ?_
  refine z_put hx hb hts hiX7_scan_X7 tyX7 tyX7_ok nmX7 hown hW 0 3 1 rfl rfl (by decide) (Nat.le_of_ble_eq_true rfl) rfl rfl rfl rfl dX7_scan_2 (fun H locs hW => ?_)
  have hW : zW G (tyZ cI cJ cO) A s ((sW cI cJ h q (uV v 3 0) a) ++ (tW cI cJ hf qf vf af)) H locs := hW
  refine lv_aload_n hx hb dX7_scan_5 rfl (lv_at hl 1 rfl) ?_
  refine z_get (v := .int (iI (vf 1))) hx hb hts hiX7_scan_X6 hown hW 4 1 2 rfl rfl rfl (by decide) rfl dX7_scan_6 ?_
  refine z_sipush hx hb dX7_scan_9 (by decide +kernel) ?_
  refine z_mmin F hl.1 3 4 5 6 rfl rfl rfl rfl (by decide) (Nat.le_of_ble_eq_true rfl) ⟨Nat.zero_le _, Nat.zero_le _⟩ ⟨by omega, by omega⟩ (by decide) dX7_scan_12 ?_
  refine z_name (fun lm elm => ?_)
  have hlm : lm ≤ vf 1 ∧ lm ≤ 600 ∧ (lm = vf 1 ∨ lm = 600) := by rw [elm]; unfold zmin; split <;> omega
  refine lv_istore_n (lv' := [(2, .int (iI lm)), (0, .ref h), (1, .ref hf)]) hx hb dX7_scan_15 rfl hl (by decide) rfl (fun ls hl => ?_)
  refine z_iconst (n := 0) hx hb dX7_scan_16 ?_
  refine lv_istore_n (lv' := [(3, .int (iI 0)), (2, .int (iI lm)), (0, .ref h), (1, .ref hf)]) hx hb dX7_scan_17 rfl hl (by decide) rfl (fun ls hl => ?_)
  refine z_loop6 (fun (x3 : Int) (n3 : Int) (n4 : Int) (K0 : Int → Int) (K1 : Int → Int) (K2 : Int → Int) (ls : Array Slot) (H : Heap) (locs : List Loc) => (0 ≤ x3 ∧ x3 ≤ vf 1 ∧ 0 ≤ n3 ∧ n3 ≤ x3 ∧ n3 ≤ 600) ∧ (SK (af 0) (vf 1) x3 = SK (af 0) (vf 1) (POS (af 0) (vf 1) n3.toNat)) ∧ (TOK (af 0) (vf 1) K0 K1 K2 n3) ∧ (∀ k : Nat, (k : Int) < n3 → 2 ≤ K0 k) ∧ zW G (tyZ cI cJ cO) A s ((sW cI cJ h q (uV (uV v 3 n3) 4 n4) (uA (uA (uA a 0 K0) 1 K1) 2 K2)) ++ (tW cI cJ hf qf vf af)) H locs ∧ lv_has ls 7 [(3, .int (iI x3)), (2, .int (iI lm)), (0, .ref h), (1, .ref hf)]) (fun x3 n3 n4 K0 K1 K2 => (vf 1 - x3).toNat) ?_ 0 0 (v 4) (a 0) (a 1) (a 2) _ _ _ ⟨(by omega), rfl, (fun k hk => absurd hk (by omega)), (fun k hk => absurd hk (by omega)), hW, (lv_sub hl [0, 1, 2, 3] rfl)⟩
  intro x3 n3 n4 K0 K1 K2 ls H locs hI ih
  obtain ⟨i1, i2, i3, i4, hW, hl⟩ := hI
  refine lv_iload_n hx hb dX7_scan_18 rfl (lv_at hl 0 rfl) ?_
  refine lv_iload_n hx hb dX7_scan_19 rfl (lv_at hl 1 rfl) ?_
  refine z_icmp_ge (tgt := 107) hx hb dX7_scan_20 (by decide) ⟨by omega, by omega⟩ ⟨by omega, by omega⟩ (fun c20 => ?_) (fun c20 => ?_)
  · refine lv_aload_n hx hb dX7_scan_107 rfl (lv_at hl 2 rfl) ?_
    refine lv_aload_n hx hb dX7_scan_108 rfl (lv_at hl 3 rfl) ?_
    refine z_get (v := .int (iI (vf 1))) hx hb hts hiX7_scan_X6 hown hW 4 1 2 rfl rfl rfl (by decide) rfl dX7_scan_109 ?_
    refine z_join1 (fun (kk : Int) (ls : Array Slot) (H : Heap) (locs : List Loc) => (kk = KND (af 0) (vf 1) (POS (af 0) (vf 1) n3.toNat) ∧ lm = tkP (af 0) (vf 1) (POS (af 0) (vf 1) n3.toNat) ∧ 0 ≤ kk ∧ kk ≤ 1) ∧ zW G (tyZ cI cJ cO) A s ((sW cI cJ h q (uV (uV v 3 n3) 4 n4) (uA (uA (uA a 0 K0) 1 K1) 2 K2)) ++ (tW cI cJ hf qf vf af)) H locs ∧ lv_has ls 7 [(3, .int (iI x3)), (2, .int (iI lm)), (0, .ref h), (1, .ref hf)]) 123 (fun kk => [.int (iI kk), .ref h]) ?_ ?_
    · intro kk ls H locs hJ
      obtain ⟨u1, hW, hl⟩ := hJ
      refine lv_iload_n hx hb dX7_scan_123 rfl (lv_at hl 1 rfl) ?_
      refine z_iconst (n := 0) hx hb dX7_scan_124 ?_
      refine z_callV (As := [.int (iI kk), .int (iI lm), .int (iI 0)]) (rest := []) F (c_X7_add  h q (uV (uV v 3 n3) 4 n4) (uA (uA (uA a 0 K0) 1 K1) 2 K2) kk lm 0  (show 0 ≤ n3 ∧ n3 ≤ 600 by omega)) gX7_scan_X7_add rfl ziX7_add ⟨rfl, rfl, by decide, by decide⟩ rfl hl.1 rfl (Nat.le_of_ble_eq_true rfl) dX7_scan_125 ⟨Nat.zero_le _, Nat.zero_le _⟩ hW hA [0, 1, 2, 3] rfl (by decide) (fun _ => rfl) (fun _ => (sW cI cJ h q (uV (uV v 4 n4) 3 (n3 + 1)) (uA (uA (uA a 0 (uI (K0) (n3) kk)) 1 (uI (K1) (n3) lm)) 2 (uI (K2) (n3) 0))) ++ (tW cI cJ hf qf vf af)) (fun _ => rfl) (fun _ => []) (fun _ => rfl) 0 rfl rfl rfl (fun _ H locs hp125 hW => ?_)
      have hW : zW G (tyZ cI cJ cO) A s ((sW cI cJ h q (uV (uV v 4 n4) 3 (n3 + 1)) (uA (uA (uA a 0 (uI (K0) (n3) kk)) 1 (uI (K1) (n3) lm)) 2 (uI (K2) (n3) 0))) ++ (tW cI cJ hf qf vf af)) H locs := hW
      exact z_vret hx hb hr hlk hW (⟨n3 + 1, n4, uI (K0) (n3) kk, uI (K1) (n3) lm, uI (K2) (n3) 0⟩) (TKS_add i3 (by omega) i4 (by omega) u1.1 u1.2.1) rfl dX7_scan_128
    · intro J2
      refine z_sipush hx hb dX7_scan_112 (by decide +kernel) ?_
      refine z_icmp_le (tgt := 122) hx hb dX7_scan_115 (by decide) ⟨by omega, by omega⟩ (by decide) (fun c115 => ?_) (fun c115 => ?_)
      · refine z_iconst (n := 0) hx hb dX7_scan_122 ?_
        exact J2 0 _ _ _ ⟨(by have hle := (SK_R (T := af 0) (z := vf 1) (y := x3)).1; rw [i2] at hle; first | (have t := tok_long (T := af 0) (z := vf 1) (y := POS (af 0) (vf 1) n3.toNat) (by omega) (by omega); exact ⟨t.1.symm, by omega, by omega, by omega⟩) | (have e9 : x3 = vf 1 := (by omega); have t := tok_end (T := af 0) (z := vf 1) (y := POS (af 0) (vf 1) n3.toNat) (by omega) (by rw [← i2, e9]; exact SK_end (by omega)); exact ⟨t.1.symm, by omega, by omega, by omega⟩)), hW, (lv_sub hl [0, 1, 2, 3] rfl)⟩
      · refine z_iconst (n := 1) hx hb dX7_scan_118 ?_
        refine lv_goto (tgt := 123) hx hb dX7_scan_119 (by decide) ?_
        exact J2 1 _ _ _ ⟨(by have hle := (SK_R (T := af 0) (z := vf 1) (y := x3)).1; rw [i2] at hle; first | (have t := tok_long (T := af 0) (z := vf 1) (y := POS (af 0) (vf 1) n3.toNat) (by omega) (by omega); exact ⟨t.1.symm, by omega, by omega, by omega⟩) | (have e9 : x3 = vf 1 := (by omega); have t := tok_end (T := af 0) (z := vf 1) (y := POS (af 0) (vf 1) n3.toNat) (by omega) (by rw [← i2, e9]; exact SK_end (by omega)); exact ⟨t.1.symm, by omega, by omega, by omega⟩)), hW, (lv_sub hl [0, 1, 2, 3] rfl)⟩
  · refine lv_aload_n hx hb dX7_scan_23 rfl (lv_at hl 3 rfl) ?_
    refine lv_iload_n hx hb dX7_scan_24 rfl (lv_at hl 0 rfl) ?_
    refine z_callV (As := [.int (iI x3)]) (rest := []) F (c_X6_byteAt  hf qf vf af x3  (show -2147483648 ≤ x3 ∧ x3 < 2147483648 by omega) (show 0 ≤ (vf 1) ∧ (vf 1) ≤ 640 by omega)) gX7_scan_X6_byteAt rfl ziX6_byteAt ⟨rfl, rfl, by decide, by decide⟩ rfl hl.1 rfl (Nat.le_of_ble_eq_true rfl) dX7_scan_25 ⟨Nat.zero_le _, Nat.zero_le _⟩ hW hA [4, 5] rfl (by decide) (fun _ => rfl) (fun _ => (sW cI cJ h q (uV (uV v 3 n3) 4 n4) (uA (uA (uA a 0 K0) 1 K1) 2 K2)) ++ (tW cI cJ hf qf vf af)) (fun _ => rfl) (fun _ => [.int (iI (if 0 ≤ x3 ∧ x3 < (vf 1) then (af 0) x3 else -1))]) (fun _ => rfl) 4 rfl rfl rfl (fun _ H locs hp25 hW => ?_)
    rw [if_pos (show 0 ≤ x3 ∧ x3 < vf 1 by omega)]
    have hj := hT x3 (by omega) (by omega)
    have hB := BHD_R (T := af 0) (z := vf 1) (y := x3)
    refine lv_istore (lv' := [(4, .int (iI (af 0 x3))), (3, .int (iI x3)), (2, .int (iI lm)), (0, .ref h), (1, .ref hf)]) hx hb dX7_scan_28 hl (by decide) rfl (fun ls hl => ?_)
    refine lv_iload_n hx hb dX7_scan_30 rfl (lv_at hl 1 rfl) ?_
    refine z_iconst (n := 1) hx hb dX7_scan_31 ?_
    refine z_iadd hx hb dX7_scan_32 ?_
    refine lv_istore (lv' := [(5, .int (iI (x3 + 1))), (4, .int (iI (af 0 x3))), (3, .int (iI x3)), (2, .int (iI lm)), (0, .ref h), (1, .ref hf)]) hx hb dX7_scan_33 hl (by decide) rfl (fun ls hl => ?_)
    refine z_join6 (fun (c5 : Int) (m3 : Int) (m4 : Int) (L0 : Int → Int) (L1 : Int → Int) (L2 : Int → Int) (ls : Array Slot) (H : Heap) (locs : List Loc) => (0 ≤ m3 ∧ m3 ≤ x3 + 1 ∧ m3 ≤ 600 ∧ -1 ≤ c5 ∧ c5 ≤ 640) ∧ (zmax c5 (x3 + 1) ≤ vf 1 ∧ x3 + 1 ≤ zmax c5 (x3 + 1)) ∧ (SK (af 0) (vf 1) (zmax c5 (x3 + 1)) = SK (af 0) (vf 1) (POS (af 0) (vf 1) m3.toNat)) ∧ (TOK (af 0) (vf 1) L0 L1 L2 m3) ∧ (∀ k : Nat, (k : Int) < m3 → 2 ≤ L0 k) ∧ zW G (tyZ cI cJ cO) A s ((sW cI cJ h q (uV (uV v 3 m3) 4 m4) (uA (uA (uA a 0 L0) 1 L1) 2 L2)) ++ (tW cI cJ hf qf vf af)) H locs ∧ lv_has ls 7 [(5, .int (iI c5)), (3, .int (iI x3)), (2, .int (iI lm)), (0, .ref h), (1, .ref hf)]) 95 (fun c5 m3 m4 L0 L1 L2 => []) ?_ ?_
    · intro c5 m3 m4 L0 L1 L2 ls H locs hJ
      obtain ⟨g1, g2, g3, g4, g5, hW, hl⟩ := hJ
      refine lv_iload hx hb dX7_scan_95 (lv_at hl 0 rfl) ?_
      refine lv_iload_n hx hb dX7_scan_97 rfl (lv_at hl 1 rfl) ?_
      refine z_iconst (n := 1) hx hb dX7_scan_98 ?_
      refine z_iadd hx hb dX7_scan_99 ?_
      refine z_mmax F hl.1 8 9 5 10 rfl rfl rfl rfl (by decide) (Nat.le_of_ble_eq_true rfl) ⟨Nat.zero_le _, Nat.zero_le _⟩ ⟨by omega, by omega⟩ ⟨by omega, by omega⟩ dX7_scan_100 ?_
      refine z_name (fun nx enx => ?_)
      refine lv_istore_n (lv' := [(3, .int (iI nx)), (5, .int (iI c5)), (2, .int (iI lm)), (0, .ref h), (1, .ref hf)]) hx hb dX7_scan_103 rfl hl (by decide) rfl (fun ls hl => ?_)
      refine lv_goto (tgt := 18) hx hb dX7_scan_104 (by decide) ?_
      exact ih nx m3 m4 L0 L1 L2 _ _ _ ⟨(by omega), (by rw [enx]; exact g3), g4, g5, hW, (lv_sub hl [0, 2, 3, 4] rfl)⟩ (by omega)
    · intro J4
      refine lv_iload hx hb dX7_scan_35 (lv_at hl 1 rfl) ?_
      refine z_bipush hx hb dX7_scan_37 (by decide +kernel) ?_
      refine z_icmp_ne (tgt := 52) hx hb dX7_scan_39 (by decide) ⟨by omega, by omega⟩ (by decide) (fun c39 => ?_) (fun c39 => ?_)
      · refine lv_iload hx hb dX7_scan_52 (lv_at hl 1 rfl) ?_
        refine z_callS (As := [.int (iI (af 0 x3))]) (rest := []) F (c_X7_isBlank   (af 0 x3)  (show -2147483648 ≤ (af 0 x3) ∧ (af 0 x3) < 2147483648 by omega)) gX7_scan_X7_isBlank rfl ziX7_isBlank ⟨rfl, rfl, by decide, by decide⟩ rfl hl.1 rfl (Nat.le_of_ble_eq_true rfl) dX7_scan_54 ⟨Nat.zero_le _, Nat.zero_le _⟩ hW hA [] rfl (by decide) (fun _ => rfl) (fun _ => (sW cI cJ h q (uV (uV v 3 n3) 4 n4) (uA (uA (uA a 0 K0) 1 K1) 2 K2)) ++ (tW cI cJ hf qf vf af)) (fun _ => rfl) (fun _ => [.int (iI (bI ((af 0 x3) = 32 ∨ (af 0 x3) = 10)))]) (fun _ => rfl) (fun _ H locs hp54 hW => ?_)
        refine z_b_ne (tgt := 95) hx hb dX7_scan_57 (by decide) (fun c57 => ?_) (fun c57 => ?_)
        · exact J4 (x3 + 1) n3 n4 K0 K1 K2 _ _ _ ⟨(by omega), (by unfold zmax; split <;> omega), (by rw [← i2, SK_go ⟨by omega, c57⟩]; congr 1; unfold zmax; split <;> omega), i3, i4, hW, (lv_sub hl [0, 2, 3, 4, 5] rfl)⟩
        · have c57 : ¬ (af 0 x3 = 32 ∨ af 0 x3 = 10) := c57
          have hsk : SK (af 0) (vf 1) (POS (af 0) (vf 1) n3.toNat) = x3 := by rw [← i2]; exact SK_end (fun q9 => by have : af 0 x3 = 32 ∨ af 0 x3 = 10 := q9.2; omega)
          refine lv_aload_n hx hb dX7_scan_60 rfl (lv_at hl 5 rfl) ?_
          refine lv_iload_n hx hb dX7_scan_61 rfl (lv_at hl 2 rfl) ?_
          refine z_callS (As := [.ref hf, .int (iI x3)]) (rest := []) F (c_X7_endOfRun  hf qf vf af x3  (show 0 ≤ x3 ∧ x3 ≤ 640 by omega) (show 0 ≤ (vf 1) ∧ (vf 1) ≤ 640 by omega) hT) gX7_scan_X7_endOfRun rfl ziX7_endOfRun ⟨rfl, rfl, by decide, by decide⟩ rfl hl.1 rfl (Nat.le_of_ble_eq_true rfl) dX7_scan_62 ⟨Nat.zero_le _, Nat.zero_le _⟩ hW hA [4, 5] rfl (by decide) (fun _ => rfl) (fun _ => (sW cI cJ h q (uV (uV v 3 n3) 4 n4) (uA (uA (uA a 0 K0) 1 K1) 2 K2)) ++ (tW cI cJ hf qf vf af)) (fun _ => rfl) (fun _ => [.int (iI (BHD ((af 0)) ((vf 1)) x3))]) (fun _ => rfl) (fun _ H locs hp62 hW => ?_)
          refine lv_istore (lv' := [(5, .int (iI (BHD ((af 0)) ((vf 1)) x3))), (4, .int (iI (af 0 x3))), (3, .int (iI x3)), (2, .int (iI lm)), (0, .ref h), (1, .ref hf)]) hx hb dX7_scan_65 hl (by decide) rfl (fun ls hl => ?_)
          refine lv_aload_n hx hb dX7_scan_67 rfl (lv_at hl 4 rfl) ?_
          refine lv_aload_n hx hb dX7_scan_68 rfl (lv_at hl 5 rfl) ?_
          refine lv_iload_n hx hb dX7_scan_69 rfl (lv_at hl 2 rfl) ?_
          refine lv_iload hx hb dX7_scan_70 (lv_at hl 0 rfl) ?_
          refine z_callVK (As := [.ref hf, .int (iI x3), .int (iI (BHD ((af 0)) ((vf 1)) x3))]) (rest := []) F hX (c_X7_kindOfRun  h q (uV (uV v 3 n3) 4 n4) (uA (uA (uA a 0 K0) 1 K1) 2 K2) hf qf vf af x3 (BHD ((af 0)) ((vf 1)) x3)  (show 0 ≤ x3 ∧ x3 ≤ (BHD ((af 0)) ((vf 1)) x3) ∧ (BHD ((af 0)) ((vf 1)) x3) ≤ (vf 1) by omega) (show 0 ≤ (vf 1) ∧ (vf 1) ≤ 640 by omega) hT) gX7_scan_X7_kindOfRun rfl ziX7_kindOfRun ⟨rfl, rfl, by decide, by decide⟩ rfl hl.1 rfl (Nat.le_of_ble_eq_true rfl) dX7_scan_72 ⟨Nat.zero_le _, Nat.zero_le _⟩ hW hA [0, 1, 2, 3, 4, 5] rfl (by decide) (fun _ => rfl) (fun _ => (sW cI cJ h q (uV (uV v 3 n3) 4 (NX ((af 0)) x3 ((BHD ((af 0)) ((vf 1)) x3) - x3).toNat)) (uA (uA (uA a 0 K0) 1 K1) 2 K2)) ++ (tW cI cJ hf qf vf af)) (fun _ => rfl) (fun _ => [.int (iI (KR ((af 0)) x3 ((BHD ((af 0)) ((vf 1)) x3) - x3)))]) (fun _ => rfl) 0 rfl rfl rfl (fun _ H locs hp72 hW => ?_)
          have hW : zW G (tyZ cI cJ cO) A s ((sW cI cJ h q (uV (uV v 3 n3) 4 (NX ((af 0)) x3 ((BHD ((af 0)) ((vf 1)) x3) - x3).toNat)) (uA (uA (uA a 0 K0) 1 K1) 2 K2)) ++ (tW cI cJ hf qf vf af)) H locs := hW
          have hkr := WKD_R (WRD (af 0) x3 (BHD (af 0) (vf 1) x3 - x3).toNat)
          have hkR : 1 ≤ KR (af 0) x3 (BHD (af 0) (vf 1) x3 - x3) ∧ KR (af 0) x3 (BHD (af 0) (vf 1) x3 - x3) ≤ 15 ∧ KR (af 0) x3 (BHD (af 0) (vf 1) x3 - x3) ≠ 2 := by unfold KR; split; omega; split <;> omega
          refine lv_istore (lv' := [(6, .int (iI (KR ((af 0)) x3 ((BHD ((af 0)) ((vf 1)) x3) - x3)))), (5, .int (iI (BHD ((af 0)) ((vf 1)) x3))), (4, .int (iI (af 0 x3))), (3, .int (iI x3)), (2, .int (iI lm)), (0, .ref h), (1, .ref hf)]) hx hb dX7_scan_75 hl (by decide) rfl (fun ls hl => ?_)
          refine lv_aload_n hx hb dX7_scan_77 rfl (lv_at hl 5 rfl) ?_
          refine lv_iload hx hb dX7_scan_78 (lv_at hl 0 rfl) ?_
          refine lv_iload_n hx hb dX7_scan_80 rfl (lv_at hl 3 rfl) ?_
          refine lv_aload_n hx hb dX7_scan_81 rfl (lv_at hl 5 rfl) ?_
          refine z_get (v := .int (iI (NX ((af 0)) x3 ((BHD ((af 0)) ((vf 1)) x3) - x3).toNat))) hx hb hts hiX7_scan_X7 hown hW 0 4 7 rfl rfl rfl (by decide) rfl dX7_scan_82 ?_
          refine z_callV (As := [.int (iI (KR ((af 0)) x3 ((BHD ((af 0)) ((vf 1)) x3) - x3))), .int (iI x3), .int (iI (NX ((af 0)) x3 ((BHD ((af 0)) ((vf 1)) x3) - x3).toNat))]) (rest := []) F (c_X7_add  h q (uV (uV v 3 n3) 4 (NX ((af 0)) x3 ((BHD ((af 0)) ((vf 1)) x3) - x3).toNat)) (uA (uA (uA a 0 K0) 1 K1) 2 K2) (KR ((af 0)) x3 ((BHD ((af 0)) ((vf 1)) x3) - x3)) x3 (NX ((af 0)) x3 ((BHD ((af 0)) ((vf 1)) x3) - x3).toNat)  (show 0 ≤ n3 ∧ n3 ≤ 600 by omega)) gX7_scan_X7_add rfl ziX7_add ⟨rfl, rfl, by decide, by decide⟩ rfl hl.1 rfl (Nat.le_of_ble_eq_true rfl) dX7_scan_85 ⟨Nat.zero_le _, Nat.zero_le _⟩ hW hA [0, 1, 2, 3] rfl (by decide) (fun _ => rfl) (fun _ => (sW cI cJ h q (uV (uV v 4 (NX ((af 0)) x3 ((BHD ((af 0)) ((vf 1)) x3) - x3).toNat)) 3 (n3 + 1)) (uA (uA (uA a 0 (uI (K0) (n3) (KR ((af 0)) x3 ((BHD ((af 0)) ((vf 1)) x3) - x3)))) 1 (uI (K1) (n3) x3)) 2 (uI (K2) (n3) (NX ((af 0)) x3 ((BHD ((af 0)) ((vf 1)) x3) - x3).toNat)))) ++ (tW cI cJ hf qf vf af)) (fun _ => rfl) (fun _ => []) (fun _ => rfl) 0 rfl rfl rfl (fun _ H locs hp85 hW => ?_)
          have hW : zW G (tyZ cI cJ cO) A s ((sW cI cJ h q (uV (uV v 4 (NX ((af 0)) x3 ((BHD ((af 0)) ((vf 1)) x3) - x3).toNat)) 3 (n3 + 1)) (uA (uA (uA a 0 (uI (K0) (n3) (KR ((af 0)) x3 ((BHD ((af 0)) ((vf 1)) x3) - x3)))) 1 (uI (K1) (n3) x3)) 2 (uI (K2) (n3) (NX ((af 0)) x3 ((BHD ((af 0)) ((vf 1)) x3) - x3).toNat)))) ++ (tW cI cJ hf qf vf af)) H locs := hW
          refine lv_iload hx hb dX7_scan_88 (lv_at hl 0 rfl) ?_
          refine z_iconst (n := 1) hx hb dX7_scan_90 ?_
          refine z_icmp_ne (tgt := 95) hx hb dX7_scan_91 (by decide) ⟨by omega, by omega⟩ (by decide) (fun c91 => ?_) (fun c91 => ?_)
          · exact J4 (BHD ((af 0)) ((vf 1)) x3) (n3 + 1) (NX ((af 0)) x3 ((BHD ((af 0)) ((vf 1)) x3) - x3).toNat) (uI (K0) (n3) (KR ((af 0)) x3 ((BHD ((af 0)) ((vf 1)) x3) - x3))) (uI (K1) (n3) x3) (uI (K2) (n3) (NX ((af 0)) x3 ((BHD ((af 0)) ((vf 1)) x3) - x3).toNat)) _ _ _ ⟨(by omega), (by unfold zmax; split <;> omega), (by rw [show (n3 + 1).toNat = n3.toNat + 1 by omega]; show _ = SK (af 0) (vf 1) (tkB (af 0) (vf 1) (POS (af 0) (vf 1) n3.toNat)); rw [(tok_run hsk (by omega) (by omega) c39).2.1]), (TOK_add i3 (by omega) (tok_run hsk (by omega) (by omega) c39).1.symm (tok_P hsk (by omega)).symm (fun q => ((tok_run hsk (by omega) (by omega) c39).2.2 q).symm)), (two_add i4 (by omega)), hW, (lv_sub hl [1, 3, 4, 5, 6] rfl)⟩
          · exact z_vret hx hb hr hlk hW (⟨n3 + 1, NX ((af 0)) x3 ((BHD ((af 0)) ((vf 1)) x3) - x3).toNat, uI (K0) (n3) (KR ((af 0)) x3 ((BHD ((af 0)) ((vf 1)) x3) - x3)), uI (K1) (n3) x3, uI (K2) (n3) (NX ((af 0)) x3 ((BHD ((af 0)) ((vf 1)) x3) - x3).toNat)⟩) (TKS_add i3 (by omega) i4 (by omega) (tok_run hsk (by omega) (by omega) c39).1.symm (tok_P hsk (by omega)).symm) rfl dX7_scan_94
      · have hsk : SK (af 0) (vf 1) (POS (af 0) (vf 1) n3.toNat) = x3 := by rw [← i2]; exact SK_end (fun q9 => by have : af 0 x3 = 32 ∨ af 0 x3 = 10 := q9.2; omega)
        refine lv_aload_n hx hb dX7_scan_42 rfl (lv_at hl 4 rfl) ?_
        refine z_iconst (n := 2) hx hb dX7_scan_43 ?_
        refine lv_iload_n hx hb dX7_scan_44 rfl (lv_at hl 2 rfl) ?_
        refine z_iconst (n := 0) hx hb dX7_scan_45 ?_
        refine z_callV (As := [.int (iI 2), .int (iI x3), .int (iI 0)]) (rest := []) F (c_X7_add  h q (uV (uV v 3 n3) 4 n4) (uA (uA (uA a 0 K0) 1 K1) 2 K2) 2 x3 0  (show 0 ≤ n3 ∧ n3 ≤ 600 by omega)) gX7_scan_X7_add rfl ziX7_add ⟨rfl, rfl, by decide, by decide⟩ rfl hl.1 rfl (Nat.le_of_ble_eq_true rfl) dX7_scan_46 ⟨Nat.zero_le _, Nat.zero_le _⟩ hW hA [0, 1, 2, 3] rfl (by decide) (fun _ => rfl) (fun _ => (sW cI cJ h q (uV (uV v 4 n4) 3 (n3 + 1)) (uA (uA (uA a 0 (uI (K0) (n3) 2)) 1 (uI (K1) (n3) x3)) 2 (uI (K2) (n3) 0))) ++ (tW cI cJ hf qf vf af)) (fun _ => rfl) (fun _ => []) (fun _ => rfl) 0 rfl rfl rfl (fun _ H locs hp46 hW => ?_)
        have hW : zW G (tyZ cI cJ cO) A s ((sW cI cJ h q (uV (uV v 4 n4) 3 (n3 + 1)) (uA (uA (uA a 0 (uI (K0) (n3) 2)) 1 (uI (K1) (n3) x3)) 2 (uI (K2) (n3) 0))) ++ (tW cI cJ hf qf vf af)) H locs := hW
        refine lv_goto (tgt := 95) hx hb dX7_scan_49 (by decide) ?_
        exact J4 (x3 + 1) (n3 + 1) n4 (uI (K0) (n3) 2) (uI (K1) (n3) x3) (uI (K2) (n3) 0) _ _ _ ⟨(by omega), (by unfold zmax; split <;> omega), (by rw [show (n3 + 1).toNat = n3.toNat + 1 by omega]; show _ = SK (af 0) (vf 1) (tkB (af 0) (vf 1) (POS (af 0) (vf 1) n3.toNat)); rw [(tok_semi hsk (by omega) (by omega) c39).2]; congr 1; unfold zmax; split <;> omega), (TOK_add i3 (by omega) (tok_semi hsk (by omega) (by omega) c39).1.symm (tok_P hsk (by omega)).symm (fun q => absurd q (by decide))), (two_add i4 (by omega)), hW, (lv_sub hl [0, 2, 3, 4, 5] rfl)⟩
