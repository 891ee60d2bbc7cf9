/-! the model: a part -/
theorem PBc (k : Int) : PB k = 0 ∨ (k = 8 ∧ PB k = 1) ∨ (k = 12 ∧ PB k = 2) ∨ (k = 13 ∧ PB k = 4) ∨ (k = 14 ∧ PB k = 8) ∨ (k = 15 ∧ PB k = 16) := by
  unfold PB
  by_cases h8 : k = 8
  · subst h8; decide
  by_cases h12 : k = 12
  · subst h12; decide
  by_cases h13 : k = 13
  · subst h13; decide
  by_cases h14 : k = 14
  · subst h14; decide
  by_cases h15 : k = 15
  · subst h15; decide
  rw [if_neg h8, if_neg h12, if_neg h13, if_neg h14, if_neg h15]
  exact Or.inl rfl
theorem hiX11_readPart_X11 : ∀ w ∈ wsX110, w ∈ wsX11_readPart := fun _ h => List.mem_cons_of_mem _ (List.mem_append_right _ h)
theorem ziX11_readPart : yX11_readPart.cls = RX11 ∧ yX11_readPart.cls ≠ "java/lang/invoke/MethodHandle" ∧ yX11_readPart.cls ≠ "java/lang/invoke/VarHandle" ∧ (parseMethodDescriptor yX11_readPart.desc).map (fun d => d.parameters.length) = some 0 := by decide +kernel
set_option maxHeartbeats 4000000 in
set_option maxRecDepth 100000 in
theorem c_readPart {l : Launch} {G : va_G} {cI cJ cO : ClassId} (h : Nat) (q : Nat → Nat) (v : Nat → Int) (a : Nat → Int → Int)  (y : Int) (h3 : 0 ≤ v 3 ∧ v 3 ≤ 640) (hT : ∀ j : Int, 0 ≤ j → j < 640 → 0 ≤ a 1 j ∧ a 1 j ≤ 255) (hM : MT (a 1) (v 3) y (v 4) (v 5) (v 6) (v 7) (v 10)) (h2 : 1 ≤ a 12 2 ∧ a 12 2 ≤ 6) (hk9 : PB (KND (a 1) (v 3) y) ≠ 0) (hs : 0 ≤ a 12 ((483 + 500 * (a 12 2 - 1)) + 0) ∧ a 12 ((483 + 500 * (a 12 2 - 1)) + 0) ≤ 119 ∧ 1 ≤ a 12 ((483 + 500 * (a 12 2 - 1)) + 1) ∧ a 12 ((483 + 500 * (a 12 2 - 1)) + 1) ≤ 120) : zC l yX11_readPart wsX11_readPart { frames := 5, cells := 0, slots := 0, locals := 110 } G (tyZ cI cJ cO) (S := (Int) × (Int) × (Int → Int) × Int × Int × Int × Int × Int × Int × Int) [.ref h] (mW cI cJ h q v a) (zI (fun u => bI (u.1 = 0))) (fun u => Ppart (a 1) (v 3) (a 12 2 - 1) y (a 12) = (u.1, u.2.1, u.2.2.1) ∧ MT (a 1) (v 3) u.2.1 u.2.2.2.1 u.2.2.2.2.1 u.2.2.2.2.2.1 u.2.2.2.2.2.2.1 u.2.2.2.2.2.2.2.1 ∧ NF u.1 u.2.2.2.2.2.2.2.2.1 u.2.2.2.2.2.2.2.2.2 (tkP (a 1) (v 3) u.2.1) ∧ N8 u.1 u.2.2.2.2.2.2.2.2.1 (v 8)) (fun u => mW cI cJ h q (uV (uV (uV (uV (uV (uV (uV v 4 u.2.2.2.1) 5 u.2.2.2.2.1) 6 u.2.2.2.2.2.1) 7 u.2.2.2.2.2.2.1) 10 u.2.2.2.2.2.2.2.1) 8 u.2.2.2.2.2.2.2.2.1) 9 u.2.2.2.2.2.2.2.2.2) (uA a 12 u.2.2.1)) 0 0 := by
  refine z_start (cc := cX11_readPart) (maxL := 3) (ret := (some .boolean)) (by decide) rfl (Nat.le_of_ble_eq_true rfl) ?_
  intro p e s m below meth c A ls F hr hlk hnm hAe hA hW hl
  have hx := F.1
  have hb := F.2.1
  have hown : s.vm.findClass RX11 = some m.cls := F.2.2.2.1
  have hts := F.2.2.2.2
  have hl : lv_has ls 3 [(0, .ref h)] := hl
  have hR := MT_Rw hM (by omega) hT
  have hM0 := hM
  have h62 : v 6 = 2 := by have t := PBc (KND (a 1) (v 3) y); have k5 := (KND_S (T := a 1) (z := v 3) (y := y)).2.2.2.2.mp (by omega); exact hM.2.2.2.1.trans k5
  refine z_sipush hx hb dX11_readPart_0 (by decide +kernel) ?_
  refine z_sipush hx hb dX11_readPart_3 (by decide +kernel) ?_
  refine lv_aload_n hx hb dX11_readPart_6 rfl (lv_at hl 0 rfl) ?_
  refine z_get (v := .ref (q 12)) hx hb hts hiX11_readPart_X11 hown hW 0 12 1 rfl rfl rfl (by decide) rfl dX11_readPart_7 ?_
  refine z_iconst (n := 2) hx hb dX11_readPart_10 ?_
  refine z_iald (f := a 12) (i := 2) hx hb hW 3 0 rfl rfl (by decide) ⟨by omega, by omega⟩ dX11_readPart_11 ?_
  refine z_iconst (n := 1) hx hb dX11_readPart_12 ?_
  refine z_isub hx hb dX11_readPart_13 ?_
  refine z_imul hx hb dX11_readPart_14 ?_
  refine z_iadd hx hb dX11_readPart_15 ?_
  refine lv_istore_n (lv' := [(1, .int (iI (483 + (500 * (((a 12) 2) - 1))))), (0, .ref h)]) hx hb dX11_readPart_16 rfl hl (by decide) rfl (fun ls hl => ?_)
  refine lv_aload_n hx hb dX11_readPart_17 rfl (lv_at hl 1 rfl) ?_
  refine z_callV (As := []) (rest := []) F (c_partHere h q v a  y (show 0 ≤ (v 3) ∧ (v 3) ≤ 640 by omega) hT hM) gX11_readPart_X11_partHere rfl ziX11_partHere ⟨rfl, rfl, by decide, by decide⟩ rfl hl.1 rfl (Nat.le_of_ble_eq_true rfl) dX11_readPart_18 ⟨Nat.zero_le _, Nat.zero_le _⟩ hW hA [0, 1, 2, 3, 4, 5, 6, 7, 8, 9, 10] rfl (by decide) (fun _ => rfl) (fun _ => mW cI cJ h q v a) (fun _ => rfl) (fun _ => [.int (iI (PB (KND ((a 1)) ((v 3)) y)))]) (fun _ => rfl) 0 rfl rfl rfl (fun _ H locs hp18 hW => ?_)
  refine z_name (fun pt ept => ?_)
  rcases PBc (KND (a 1) (v 3) y) with e9 | ⟨hkn, e9⟩ | ⟨hkn, e9⟩ | ⟨hkn, e9⟩ | ⟨hkn, e9⟩ | ⟨hkn, e9⟩
  · exact absurd e9 hk9
  · have e1 : pt = 1 := ept.trans e9
    subst e1
    refine lv_istore_n (lv' := [(2, .int (iI 1)), (1, .int (iI (483 + (500 * (((a 12) 2) - 1))))), (0, .ref h)]) hx hb dX11_readPart_21 rfl hl (by decide) rfl (fun ls hl => ?_)
    refine lv_aload_n hx hb dX11_readPart_22 rfl (lv_at hl 2 rfl) ?_
    refine z_get (v := .ref (q 12)) hx hb hts hiX11_readPart_X11 hown hW 0 12 1 rfl rfl rfl (by decide) rfl dX11_readPart_23 ?_
    refine lv_iload_n hx hb dX11_readPart_26 rfl (lv_at hl 1 rfl) ?_
    refine z_bipush hx hb dX11_readPart_27 (by decide +kernel) ?_
    refine z_iadd hx hb dX11_readPart_29 ?_
    refine z_iald (f := a 12) (i := (483 + (500 * (((a 12) 2) - 1))) + 7) hx hb hW 3 0 rfl rfl (by decide) ⟨by omega, by omega⟩ dX11_readPart_30 ?_
    refine lv_iload_n hx hb dX11_readPart_31 rfl (lv_at hl 0 rfl) ?_
    refine z_iand hx hb dX11_readPart_32 ?_
    refine z_if_eq (tgt := 42) hx hb dX11_readPart_33 (by decide) (zand_R _ _) (fun c33 => ?_) (fun c33 => ?_)
    · refine lv_aload_n hx hb dX11_readPart_42 rfl (lv_at hl 2 rfl) ?_
      refine z_get (v := .ref (q 12)) hx hb hts hiX11_readPart_X11 hown hW 0 12 1 rfl rfl rfl (by decide) rfl dX11_readPart_43 ?_
      refine lv_iload_n hx hb dX11_readPart_46 rfl (lv_at hl 1 rfl) ?_
      refine z_bipush hx hb dX11_readPart_47 (by decide +kernel) ?_
      refine z_iadd hx hb dX11_readPart_49 ?_
      refine lv_dup2_11 hx hb dX11_readPart_50 rfl rfl ?_
      refine z_iald (f := a 12) (i := (483 + (500 * (((a 12) 2) - 1))) + 7) hx hb hW 3 0 rfl rfl (by decide) ⟨by omega, by omega⟩ dX11_readPart_51 ?_
      refine lv_iload_n hx hb dX11_readPart_52 rfl (lv_at hl 0 rfl) ?_
      refine z_ior hx hb dX11_readPart_53 ?_
      refine z_iast (f := a 12) (i := (483 + (500 * (((a 12) 2) - 1))) + 7) (z := zor ((a 12) ((483 + (500 * (((a 12) 2) - 1))) + 7)) 1) hx hb hW 3 0 rfl rfl (by decide) ⟨by omega, by omega⟩ dX11_readPart_54 (fun H locs hW => ?_)
      have hW : zW G (tyZ cI cJ cO) A s (mW cI cJ h q v (uA a 12 (uI (a 12) ((483 + (500 * (((a 12) 2) - 1))) + 7) (zor ((a 12) ((483 + (500 * (((a 12) 2) - 1))) + 7)) 1)))) H locs := hW
      refine lv_aload_n hx hb dX11_readPart_55 rfl (lv_at hl 2 rfl) ?_
      refine z_callV (As := []) (rest := []) F (c_go h q v (uA a 12 (uI (a 12) ((483 + (500 * (((a 12) 2) - 1))) + 7) (zor ((a 12) ((483 + (500 * (((a 12) 2) - 1))) + 7)) 1)))   (show 0 ≤ (v 3) ∧ (v 3) ≤ 640 by omega) (show 0 ≤ (v 4) ∧ (v 4) ≤ (v 3) by omega) hT) gX11_readPart_X11_go rfl ziX11_go ⟨rfl, rfl, by decide, by decide⟩ rfl hl.1 rfl (Nat.le_of_ble_eq_true rfl) dX11_readPart_56 ⟨Nat.zero_le _, Nat.zero_le _⟩ hW hA [0, 1, 2, 3, 4, 5, 6, 7, 8, 9, 10] rfl (by decide) (fun _ => rfl) (fun u => mW cI cJ h q (uV (uV (uV (uV (uV v 4 u.1) 5 u.2.1) 6 u.2.2.1) 7 u.2.2.2.1) 10 u.2.2.2.2) (uA a 12 (uI (a 12) ((483 + (500 * (((a 12) 2) - 1))) + 7) (zor ((a 12) ((483 + (500 * (((a 12) 2) - 1))) + 7)) 1)))) (fun _ => rfl) (fun u => []) (fun _ => rfl) 0 rfl rfl rfl (fun u H locs hp56 hW => ?_)
      obtain ⟨b4_1, b5_2, b6_3, b7_4, b10_5⟩ := u
      have hp56 : b4_1 = tkB ((a 1)) ((v 3)) ((v 4)) ∧ b5_2 = tkP ((a 1)) ((v 3)) ((v 4)) ∧ b6_3 = tkS ((a 1)) ((v 3)) ((v 4)) ∧ (b6_3 = 2 → b10_5 = tkW ((a 1)) ((v 3)) ((v 4))) ∧ (b6_3 = 3 → b7_4 = tkN ((a 1)) ((v 3)) ((v 4))) := hp56
      have hW : zW G (tyZ cI cJ cO) A s (mW cI cJ h q (uV (uV (uV (uV (uV v 4 b4_1) 5 b5_2) 6 b6_3) 7 b7_4) 10 b10_5) (uA a 12 (uI (a 12) ((483 + (500 * (((a 12) 2) - 1))) + 7) (zor ((a 12) ((483 + (500 * (((a 12) 2) - 1))) + 7)) 1)))) H locs := hW
      have hM : MT (a 1) (v 3) (tkB (a 1) (v 3) y) b4_1 b5_2 b6_3 b7_4 b10_5 := MT_go hM hp56
      clear hR hp56
      have hR := MT_Rw hM (by omega) hT
      refine lv_iload_n hx hb dX11_readPart_59 rfl (lv_at hl 0 rfl) ?_
      refine z_iconst (n := 1) hx hb dX11_readPart_60 ?_
      refine z_icmp_ne (tgt := 74) hx hb dX11_readPart_61 (by decide) (by decide) (by decide) (fun c61 => ?_) (fun c61 => ?_)
      · exfalso; omega
      · refine lv_aload_n hx hb dX11_readPart_64 rfl (lv_at hl 2 rfl) ?_
        refine lv_iload_n hx hb dX11_readPart_65 rfl (lv_at hl 1 rfl) ?_
        refine z_callV (As := [.int (iI (483 + (500 * (((a 12) 2) - 1))))]) (rest := []) F (c_readBy h q (uV (uV (uV (uV (uV v 4 b4_1) 5 b5_2) 6 b6_3) 7 b7_4) 10 b10_5) (uA a 12 (uI (a 12) ((483 + (500 * (((a 12) 2) - 1))) + 7) (zor ((a 12) ((483 + (500 * (((a 12) 2) - 1))) + 7)) 1))) (483 + (500 * (((a 12) 2) - 1))) (tkB (a 1) (v 3) y) (a 12 2 - 1) (show 0 ≤ (v 3) ∧ (v 3) ≤ 640 by omega) hT hM (show (483 + (500 * (((a 12) 2) - 1))) = 483 + 500 * (a 12 2 - 1) by omega) (show 0 ≤ (a 12 2 - 1) ∧ (a 12 2 - 1) ≤ 5 by omega)) gX11_readPart_X11_readBy rfl ziX11_readBy ⟨rfl, rfl, by decide, by decide⟩ rfl hl.1 rfl (Nat.le_of_ble_eq_true rfl) dX11_readPart_66 ⟨Nat.zero_le _, Nat.zero_le _⟩ hW hA [0, 1, 2, 3, 4, 5, 6, 7, 8, 9, 10] rfl (by decide) (fun _ => rfl) (fun u => mW cI cJ h q (uV (uV (uV (uV (uV (uV (uV v 4 u.2.2.2.1) 5 u.2.2.2.2.1) 6 u.2.2.2.2.2.1) 7 u.2.2.2.2.2.2.1) 10 u.2.2.2.2.2.2.2.1) 8 u.2.2.2.2.2.2.2.2.1) 9 u.2.2.2.2.2.2.2.2.2) (uA a 12 u.2.2.1)) (fun _ => rfl) (fun u => [.int (iI (bI (u.1 = 0)))]) (fun _ => rfl) 0 rfl rfl rfl (fun u H locs hp66 hW => ?_)
        obtain ⟨ff_6, yy_7, b12_8, b4_9, b5_10, b6_11, b7_12, b10_13, b8_14, b9_15⟩ := u
        have hp66 : Pby ((a 1)) ((v 3)) (a 12 2 - 1) (tkB (a 1) (v 3) y) ((uI (a 12) ((483 + (500 * (((a 12) 2) - 1))) + 7) (zor ((a 12) ((483 + (500 * (((a 12) 2) - 1))) + 7)) 1))) = (ff_6, yy_7, b12_8) ∧ MT ((a 1)) ((v 3)) yy_7 b4_9 b5_10 b6_11 b7_12 b10_13 ∧ NF ff_6 b8_14 b9_15 (tkP ((a 1)) ((v 3)) yy_7) ∧ N8 ff_6 b8_14 ((v 8)) := hp66
        have hW : zW G (tyZ cI cJ cO) A s (mW cI cJ h q (uV (uV (uV (uV (uV (uV (uV v 4 b4_9) 5 b5_10) 6 b6_11) 7 b7_12) 10 b10_13) 8 b8_14) 9 b9_15) (uA a 12 b12_8)) H locs := hW
        have hM : MT (a 1) (v 3) yy_7 b4_9 b5_10 b6_11 b7_12 b10_13 := hp66.2.1
        clear hR
        have hR := MT_Rw hM (by omega) hT
        refine z_b_ne (tgt := 74) hx hb dX11_readPart_69 (by decide) (fun c69 => ?_) (fun c69 => ?_)
        · refine lv_iload_n hx hb dX11_readPart_74 rfl (lv_at hl 0 rfl) ?_
          refine z_iconst (n := 2) hx hb dX11_readPart_75 ?_
          refine z_icmp_ne (tgt := 111) hx hb dX11_readPart_76 (by decide) (by decide) (by decide) (fun c76 => ?_) (fun c76 => ?_)
          · refine lv_iload_n hx hb dX11_readPart_111 rfl (lv_at hl 0 rfl) ?_
            refine z_iconst (n := 4) hx hb dX11_readPart_112 ?_
            refine z_icmp_ne (tgt := 148) hx hb dX11_readPart_113 (by decide) (by decide) (by decide) (fun c113 => ?_) (fun c113 => ?_)
            · refine lv_iload_n hx hb dX11_readPart_148 rfl (lv_at hl 0 rfl) ?_
              refine z_bipush hx hb dX11_readPart_149 (by decide +kernel) ?_
              refine z_icmp_ne (tgt := 196) hx hb dX11_readPart_151 (by decide) (by decide) (by decide) (fun c151 => ?_) (fun c151 => ?_)
              · refine lv_aload_n hx hb dX11_readPart_196 rfl (lv_at hl 2 rfl) ?_
                refine z_callV (As := []) (rest := []) F (c_readEnd h q (uV (uV (uV (uV (uV (uV (uV v 4 b4_9) 5 b5_10) 6 b6_11) 7 b7_12) 10 b10_13) 8 b8_14) 9 b9_15) (uA a 12 b12_8)  yy_7 (show 0 ≤ (v 3) ∧ (v 3) ≤ 640 by omega) hT hM) gX11_readPart_X11_readEnd rfl ziX11_readEnd ⟨rfl, rfl, by decide, by decide⟩ rfl hl.1 rfl (Nat.le_of_ble_eq_true rfl) dX11_readPart_197 ⟨Nat.zero_le _, Nat.zero_le _⟩ hW hA [0, 1, 2, 3, 4, 5, 6, 7, 8, 9, 10] rfl (by decide) (fun _ => rfl) (fun u => mW cI cJ h q (uV (uV (uV (uV (uV (uV (uV v 4 u.2.2.2.1) 5 u.2.2.2.2.1) 6 u.2.2.2.2.2.1) 7 u.2.2.2.2.2.2.1) 10 u.2.2.2.2.2.2.2.1) 8 u.2.2.2.2.2.2.2.2.1) 9 u.2.2.2.2.2.2.2.2.2) (uA a 12 u.2.2.1)) (fun _ => rfl) (fun u => [.int (iI (bI (u.1 = 0)))]) (fun _ => rfl) 0 rfl rfl rfl (fun u H locs hp197 hW => ?_)
                obtain ⟨ff_16, yy_17, b12_18, b4_19, b5_20, b6_21, b7_22, b10_23, b8_24, b9_25⟩ := u
                have hp197 : Pend ((a 1)) ((v 3)) yy_7 (b12_8) = (ff_16, yy_17, b12_18) ∧ MT ((a 1)) ((v 3)) yy_17 b4_19 b5_20 b6_21 b7_22 b10_23 ∧ NF ff_16 b8_24 b9_25 (tkP ((a 1)) ((v 3)) yy_17) ∧ N8 ff_16 b8_24 (b8_14) := hp197
                have hW : zW G (tyZ cI cJ cO) A s (mW cI cJ h q (uV (uV (uV (uV (uV (uV (uV v 4 b4_19) 5 b5_20) 6 b6_21) 7 b7_22) 10 b10_23) 8 b8_24) 9 b9_25) (uA a 12 b12_18)) H locs := hW
                have hM : MT (a 1) (v 3) yy_17 b4_19 b5_20 b6_21 b7_22 b10_23 := hp197.2.1
                clear hR
                have hR := MT_Rw hM (by omega) hT
                exact z_zret hx hb hr hlk (by unfold bI; split <;> omega) hW (⟨ff_16, yy_17, b12_18, b4_19, b5_20, b6_21, b7_22, b10_23, b8_24, b9_25⟩) rfl (show _ = _ ∧ MT _ _ _ _ _ _ _ _ ∧ NF _ _ _ _ ∧ N8 _ _ _ from ⟨by unfold Ppart; rw [← ept, if_neg (by omega), hkn]; unfold Ppt; rw [if_pos rfl, hp66.1, bnd_0 c69, hp197.1], hM, hp197.2.2.1, (fun q => (hp197.2.2.2 q).trans (hp66.2.2.2 c69))⟩) rfl dX11_readPart_200
              · exfalso; omega
            · exfalso; omega
          · exfalso; omega
        · refine z_iconst (n := 0) hx hb dX11_readPart_72 ?_
          exact z_zret hx hb hr hlk (by first | exact Or.inl rfl | exact Or.inr rfl | omega) hW (⟨ff_6, yy_7, b12_8, b4_9, b5_10, b6_11, b7_12, b10_13, b8_14, b9_15⟩) (bI_f c69) (show _ = _ ∧ MT _ _ _ _ _ _ _ _ ∧ NF _ _ _ _ ∧ N8 _ _ _ from ⟨by unfold Ppart; rw [← ept, if_neg (by omega), hkn]; unfold Ppt; rw [if_pos rfl, hp66.1, bnd_1 c69], hM, hp66.2.2.1, (fun q => absurd q c69)⟩) rfl dX11_readPart_73
    · refine lv_aload_n hx hb dX11_readPart_36 rfl (lv_at hl 2 rfl) ?_
      refine z_iconst (n := 4) hx hb dX11_readPart_37 ?_
      refine z_callV (As := [.int (iI 4)]) (rest := []) F (c_bad h q v a 4  (show 1 ≤ 4 ∧ 4 ≤ 4 by omega) (show 0 ≤ (v 6) ∧ (v 6) ≤ 4 by omega)) gX11_readPart_X11_bad rfl ziX11_bad ⟨rfl, rfl, by decide, by decide⟩ rfl hl.1 rfl (Nat.le_of_ble_eq_true rfl) dX11_readPart_38 ⟨Nat.zero_le _, Nat.zero_le _⟩ hW hA [0, 1, 2, 3, 4, 5, 6, 7, 8, 9, 10] rfl (by decide) (fun _ => rfl) (fun _ => mW cI cJ h q (uV (uV v 8 (if (v 6) = 1 then 1 else 4)) 9 (v 5)) a) (fun _ => rfl) (fun _ => [.int (iI 0)]) (fun _ => rfl) 0 rfl rfl rfl (fun _ H locs hp38 hW => ?_)
      exact z_zret hx hb hr hlk (by first | exact Or.inl rfl | exact Or.inr rfl | omega) hW (⟨4, y, a 12, v 4, v 5, v 6, v 7, v 10, if (v 6) = 1 then 1 else 4, (v 5)⟩) (bI_f (show ¬ (4 : Int) = 0 by decide)) (show _ = _ ∧ MT _ _ _ _ _ _ _ _ ∧ NF _ _ _ _ ∧ N8 _ _ _ from ⟨by unfold Ppart; rw [← ept, if_pos c33], hM, (fun _ => ⟨(by show (if _ = (1 : Int) then (1 : Int) else _) = _; split <;> omega), hM.2.2.1⟩), (fun q => absurd (show (4 : Int) = 0 from q) (by decide))⟩) rfl dX11_readPart_41
  · have e1 : pt = 2 := ept.trans e9
    subst e1
    refine lv_istore_n (lv' := [(2, .int (iI 2)), (1, .int (iI (483 + (500 * (((a 12) 2) - 1))))), (0, .ref h)]) hx hb dX11_readPart_21 rfl hl (by decide) rfl (fun ls hl => ?_)
    refine lv_aload_n hx hb dX11_readPart_22 rfl (lv_at hl 2 rfl) ?_
    refine z_get (v := .ref (q 12)) hx hb hts hiX11_readPart_X11 hown hW 0 12 1 rfl rfl rfl (by decide) rfl dX11_readPart_23 ?_
    refine lv_iload_n hx hb dX11_readPart_26 rfl (lv_at hl 1 rfl) ?_
    refine z_bipush hx hb dX11_readPart_27 (by decide +kernel) ?_
    refine z_iadd hx hb dX11_readPart_29 ?_
    refine z_iald (f := a 12) (i := (483 + (500 * (((a 12) 2) - 1))) + 7) hx hb hW 3 0 rfl rfl (by decide) ⟨by omega, by omega⟩ dX11_readPart_30 ?_
    refine lv_iload_n hx hb dX11_readPart_31 rfl (lv_at hl 0 rfl) ?_
    refine z_iand hx hb dX11_readPart_32 ?_
    refine z_if_eq (tgt := 42) hx hb dX11_readPart_33 (by decide) (zand_R _ _) (fun c33 => ?_) (fun c33 => ?_)
    · refine lv_aload_n hx hb dX11_readPart_42 rfl (lv_at hl 2 rfl) ?_
      refine z_get (v := .ref (q 12)) hx hb hts hiX11_readPart_X11 hown hW 0 12 1 rfl rfl rfl (by decide) rfl dX11_readPart_43 ?_
      refine lv_iload_n hx hb dX11_readPart_46 rfl (lv_at hl 1 rfl) ?_
      refine z_bipush hx hb dX11_readPart_47 (by decide +kernel) ?_
      refine z_iadd hx hb dX11_readPart_49 ?_
      refine lv_dup2_11 hx hb dX11_readPart_50 rfl rfl ?_
      refine z_iald (f := a 12) (i := (483 + (500 * (((a 12) 2) - 1))) + 7) hx hb hW 3 0 rfl rfl (by decide) ⟨by omega, by omega⟩ dX11_readPart_51 ?_
      refine lv_iload_n hx hb dX11_readPart_52 rfl (lv_at hl 0 rfl) ?_
      refine z_ior hx hb dX11_readPart_53 ?_
      refine z_iast (f := a 12) (i := (483 + (500 * (((a 12) 2) - 1))) + 7) (z := zor ((a 12) ((483 + (500 * (((a 12) 2) - 1))) + 7)) 2) hx hb hW 3 0 rfl rfl (by decide) ⟨by omega, by omega⟩ dX11_readPart_54 (fun H locs hW => ?_)
      have hW : zW G (tyZ cI cJ cO) A s (mW cI cJ h q v (uA a 12 (uI (a 12) ((483 + (500 * (((a 12) 2) - 1))) + 7) (zor ((a 12) ((483 + (500 * (((a 12) 2) - 1))) + 7)) 2)))) H locs := hW
      refine lv_aload_n hx hb dX11_readPart_55 rfl (lv_at hl 2 rfl) ?_
      refine z_callV (As := []) (rest := []) F (c_go h q v (uA a 12 (uI (a 12) ((483 + (500 * (((a 12) 2) - 1))) + 7) (zor ((a 12) ((483 + (500 * (((a 12) 2) - 1))) + 7)) 2)))   (show 0 ≤ (v 3) ∧ (v 3) ≤ 640 by omega) (show 0 ≤ (v 4) ∧ (v 4) ≤ (v 3) by omega) hT) gX11_readPart_X11_go rfl ziX11_go ⟨rfl, rfl, by decide, by decide⟩ rfl hl.1 rfl (Nat.le_of_ble_eq_true rfl) dX11_readPart_56 ⟨Nat.zero_le _, Nat.zero_le _⟩ hW hA [0, 1, 2, 3, 4, 5, 6, 7, 8, 9, 10] rfl (by decide) (fun _ => rfl) (fun u => mW cI cJ h q (uV (uV (uV (uV (uV v 4 u.1) 5 u.2.1) 6 u.2.2.1) 7 u.2.2.2.1) 10 u.2.2.2.2) (uA a 12 (uI (a 12) ((483 + (500 * (((a 12) 2) - 1))) + 7) (zor ((a 12) ((483 + (500 * (((a 12) 2) - 1))) + 7)) 2)))) (fun _ => rfl) (fun u => []) (fun _ => rfl) 0 rfl rfl rfl (fun u H locs hp56 hW => ?_)
      obtain ⟨b4_26, b5_27, b6_28, b7_29, b10_30⟩ := u
      have hp56 : b4_26 = tkB ((a 1)) ((v 3)) ((v 4)) ∧ b5_27 = tkP ((a 1)) ((v 3)) ((v 4)) ∧ b6_28 = tkS ((a 1)) ((v 3)) ((v 4)) ∧ (b6_28 = 2 → b10_30 = tkW ((a 1)) ((v 3)) ((v 4))) ∧ (b6_28 = 3 → b7_29 = tkN ((a 1)) ((v 3)) ((v 4))) := hp56
      have hW : zW G (tyZ cI cJ cO) A s (mW cI cJ h q (uV (uV (uV (uV (uV v 4 b4_26) 5 b5_27) 6 b6_28) 7 b7_29) 10 b10_30) (uA a 12 (uI (a 12) ((483 + (500 * (((a 12) 2) - 1))) + 7) (zor ((a 12) ((483 + (500 * (((a 12) 2) - 1))) + 7)) 2)))) H locs := hW
      have hM : MT (a 1) (v 3) (tkB (a 1) (v 3) y) b4_26 b5_27 b6_28 b7_29 b10_30 := MT_go hM hp56
      clear hR hp56
      have hR := MT_Rw hM (by omega) hT
      refine lv_iload_n hx hb dX11_readPart_59 rfl (lv_at hl 0 rfl) ?_
      refine z_iconst (n := 1) hx hb dX11_readPart_60 ?_
      refine z_icmp_ne (tgt := 74) hx hb dX11_readPart_61 (by decide) (by decide) (by decide) (fun c61 => ?_) (fun c61 => ?_)
      · refine lv_iload_n hx hb dX11_readPart_74 rfl (lv_at hl 0 rfl) ?_
        refine z_iconst (n := 2) hx hb dX11_readPart_75 ?_
        refine z_icmp_ne (tgt := 111) hx hb dX11_readPart_76 (by decide) (by decide) (by decide) (fun c76 => ?_) (fun c76 => ?_)
        · exfalso; omega
        · refine lv_aload_n hx hb dX11_readPart_79 rfl (lv_at hl 2 rfl) ?_
          refine lv_iload_n hx hb dX11_readPart_80 rfl (lv_at hl 1 rfl) ?_
          refine z_bipush hx hb dX11_readPart_81 (by decide +kernel) ?_
          refine z_iadd hx hb dX11_readPart_83 ?_
          refine z_iconst (n := 0) hx hb dX11_readPart_84 ?_
          refine z_sipush hx hb dX11_readPart_85 (by decide +kernel) ?_
          refine z_callV (As := [.int (iI ((483 + (500 * (((a 12) 2) - 1))) + 8)), .int (iI 0), .int (iI 999)]) (rest := []) F (c_told h q (uV (uV (uV (uV (uV v 4 b4_26) 5 b5_27) 6 b6_28) 7 b7_29) 10 b10_30) (uA a 12 (uI (a 12) ((483 + (500 * (((a 12) 2) - 1))) + 7) (zor ((a 12) ((483 + (500 * (((a 12) 2) - 1))) + 7)) 2))) ((483 + (500 * (((a 12) 2) - 1))) + 8) 0 999 (tkB (a 1) (v 3) y) (show 0 ≤ (v 3) ∧ (v 3) ≤ 640 by omega) hT hM (show 0 ≤ ((483 + (500 * (((a 12) 2) - 1))) + 8) ∧ ((483 + (500 * (((a 12) 2) - 1))) + 8) < 3483 by omega) (show -2147483648 ≤ 0 ∧ 0 < 2147483648 by omega) (show -2147483648 ≤ 999 ∧ 999 < 2147483648 by omega)) gX11_readPart_X11_told rfl ziX11_told ⟨rfl, rfl, by decide, by decide⟩ rfl hl.1 rfl (Nat.le_of_ble_eq_true rfl) dX11_readPart_88 ⟨Nat.zero_le _, Nat.zero_le _⟩ hW hA [0, 1, 2, 3, 4, 5, 6, 7, 8, 9, 10] rfl (by decide) (fun _ => rfl) (fun u => mW cI cJ h q (uV (uV (uV (uV (uV (uV (uV v 4 u.2.2.2.1) 5 u.2.2.2.2.1) 6 u.2.2.2.2.2.1) 7 u.2.2.2.2.2.2.1) 10 u.2.2.2.2.2.2.2.1) 8 u.2.2.2.2.2.2.2.2.1) 9 u.2.2.2.2.2.2.2.2.2) (uA a 12 u.2.2.1)) (fun _ => rfl) (fun u => [.int (iI (bI (u.1 = 0)))]) (fun _ => rfl) 0 rfl rfl rfl (fun u H locs hp88 hW => ?_)
          obtain ⟨ff_31, yy_32, b12_33, b4_34, b5_35, b6_36, b7_37, b10_38, b8_39, b9_40⟩ := u
          have hp88 : Pnum ((a 1)) ((v 3)) ((483 + (500 * (((a 12) 2) - 1))) + 8) 0 999 (tkB (a 1) (v 3) y) ((uI (a 12) ((483 + (500 * (((a 12) 2) - 1))) + 7) (zor ((a 12) ((483 + (500 * (((a 12) 2) - 1))) + 7)) 2))) = (ff_31, yy_32, b12_33) ∧ MT ((a 1)) ((v 3)) yy_32 b4_34 b5_35 b6_36 b7_37 b10_38 ∧ NF ff_31 b8_39 b9_40 (tkP ((a 1)) ((v 3)) yy_32) ∧ N8 ff_31 b8_39 ((v 8)) := hp88
          have hW : zW G (tyZ cI cJ cO) A s (mW cI cJ h q (uV (uV (uV (uV (uV (uV (uV v 4 b4_34) 5 b5_35) 6 b6_36) 7 b7_37) 10 b10_38) 8 b8_39) 9 b9_40) (uA a 12 b12_33)) H locs := hW
          have hM : MT (a 1) (v 3) yy_32 b4_34 b5_35 b6_36 b7_37 b10_38 := hp88.2.1
          clear hR
          have hR := MT_Rw hM (by omega) hT
          refine z_b_eq (tgt := 109) hx hb dX11_readPart_91 (by decide) (fun c91 => ?_) (fun c91 => ?_)
          · refine z_iconst (n := 0) hx hb dX11_readPart_109 ?_
            exact z_zret hx hb hr hlk (by first | exact Or.inl rfl | exact Or.inr rfl | omega) hW (⟨ff_31, yy_32, b12_33, b4_34, b5_35, b6_36, b7_37, b10_38, b8_39, b9_40⟩) (bI_f c91) (show _ = _ ∧ MT _ _ _ _ _ _ _ _ ∧ NF _ _ _ _ ∧ N8 _ _ _ from ⟨by unfold Ppart; rw [← ept, if_neg (by omega), hkn]; unfold Ppt; rw [if_neg (by decide), if_pos rfl, hp88.1, bnd_1 c91, bnd_1 c91], hM, hp88.2.2.1, (fun q => absurd q c91)⟩) rfl dX11_readPart_110
          · refine lv_aload_n hx hb dX11_readPart_94 rfl (lv_at hl 2 rfl) ?_
            refine lv_iload_n hx hb dX11_readPart_95 rfl (lv_at hl 1 rfl) ?_
            refine z_bipush hx hb dX11_readPart_96 (by decide +kernel) ?_
            refine z_iadd hx hb dX11_readPart_98 ?_
            refine z_iconst (n := 0) hx hb dX11_readPart_99 ?_
            refine z_sipush hx hb dX11_readPart_100 (by decide +kernel) ?_
            refine z_callV (As := [.int (iI ((483 + (500 * (((a 12) 2) - 1))) + 9)), .int (iI 0), .int (iI 999)]) (rest := []) F (c_told h q (uV (uV (uV (uV (uV (uV (uV v 4 b4_34) 5 b5_35) 6 b6_36) 7 b7_37) 10 b10_38) 8 b8_39) 9 b9_40) (uA a 12 b12_33) ((483 + (500 * (((a 12) 2) - 1))) + 9) 0 999 yy_32 (show 0 ≤ (v 3) ∧ (v 3) ≤ 640 by omega) hT hM (show 0 ≤ ((483 + (500 * (((a 12) 2) - 1))) + 9) ∧ ((483 + (500 * (((a 12) 2) - 1))) + 9) < 3483 by omega) (show -2147483648 ≤ 0 ∧ 0 < 2147483648 by omega) (show -2147483648 ≤ 999 ∧ 999 < 2147483648 by omega)) gX11_readPart_X11_told rfl ziX11_told ⟨rfl, rfl, by decide, by decide⟩ rfl hl.1 rfl (Nat.le_of_ble_eq_true rfl) dX11_readPart_103 ⟨Nat.zero_le _, Nat.zero_le _⟩ hW hA [0, 1, 2, 3, 4, 5, 6, 7, 8, 9, 10] rfl (by decide) (fun _ => rfl) (fun u => mW cI cJ h q (uV (uV (uV (uV (uV (uV (uV v 4 u.2.2.2.1) 5 u.2.2.2.2.1) 6 u.2.2.2.2.2.1) 7 u.2.2.2.2.2.2.1) 10 u.2.2.2.2.2.2.2.1) 8 u.2.2.2.2.2.2.2.2.1) 9 u.2.2.2.2.2.2.2.2.2) (uA a 12 u.2.2.1)) (fun _ => rfl) (fun u => [.int (iI (bI (u.1 = 0)))]) (fun _ => rfl) 0 rfl rfl rfl (fun u H locs hp103 hW => ?_)
            obtain ⟨ff_41, yy_42, b12_43, b4_44, b5_45, b6_46, b7_47, b10_48, b8_49, b9_50⟩ := u
            have hp103 : Pnum ((a 1)) ((v 3)) ((483 + (500 * (((a 12) 2) - 1))) + 9) 0 999 yy_32 (b12_33) = (ff_41, yy_42, b12_43) ∧ MT ((a 1)) ((v 3)) yy_42 b4_44 b5_45 b6_46 b7_47 b10_48 ∧ NF ff_41 b8_49 b9_50 (tkP ((a 1)) ((v 3)) yy_42) ∧ N8 ff_41 b8_49 (b8_39) := hp103
            have hW : zW G (tyZ cI cJ cO) A s (mW cI cJ h q (uV (uV (uV (uV (uV (uV (uV v 4 b4_44) 5 b5_45) 6 b6_46) 7 b7_47) 10 b10_48) 8 b8_49) 9 b9_50) (uA a 12 b12_43)) H locs := hW
            have hM : MT (a 1) (v 3) yy_42 b4_44 b5_45 b6_46 b7_47 b10_48 := hp103.2.1
            clear hR
            have hR := MT_Rw hM (by omega) hT
            refine z_b_ne (tgt := 111) hx hb dX11_readPart_106 (by decide) (fun c106 => ?_) (fun c106 => ?_)
            · refine lv_iload_n hx hb dX11_readPart_111 rfl (lv_at hl 0 rfl) ?_
              refine z_iconst (n := 4) hx hb dX11_readPart_112 ?_
              refine z_icmp_ne (tgt := 148) hx hb dX11_readPart_113 (by decide) (by decide) (by decide) (fun c113 => ?_) (fun c113 => ?_)
              · refine lv_iload_n hx hb dX11_readPart_148 rfl (lv_at hl 0 rfl) ?_
                refine z_bipush hx hb dX11_readPart_149 (by decide +kernel) ?_
                refine z_icmp_ne (tgt := 196) hx hb dX11_readPart_151 (by decide) (by decide) (by decide) (fun c151 => ?_) (fun c151 => ?_)
                · refine lv_aload_n hx hb dX11_readPart_196 rfl (lv_at hl 2 rfl) ?_
                  refine z_callV (As := []) (rest := []) F (c_readEnd h q (uV (uV (uV (uV (uV (uV (uV v 4 b4_44) 5 b5_45) 6 b6_46) 7 b7_47) 10 b10_48) 8 b8_49) 9 b9_50) (uA a 12 b12_43)  yy_42 (show 0 ≤ (v 3) ∧ (v 3) ≤ 640 by omega) hT hM) gX11_readPart_X11_readEnd rfl ziX11_readEnd ⟨rfl, rfl, by decide, by decide⟩ rfl hl.1 rfl (Nat.le_of_ble_eq_true rfl) dX11_readPart_197 ⟨Nat.zero_le _, Nat.zero_le _⟩ hW hA [0, 1, 2, 3, 4, 5, 6, 7, 8, 9, 10] rfl (by decide) (fun _ => rfl) (fun u => mW cI cJ h q (uV (uV (uV (uV (uV (uV (uV v 4 u.2.2.2.1) 5 u.2.2.2.2.1) 6 u.2.2.2.2.2.1) 7 u.2.2.2.2.2.2.1) 10 u.2.2.2.2.2.2.2.1) 8 u.2.2.2.2.2.2.2.2.1) 9 u.2.2.2.2.2.2.2.2.2) (uA a 12 u.2.2.1)) (fun _ => rfl) (fun u => [.int (iI (bI (u.1 = 0)))]) (fun _ => rfl) 0 rfl rfl rfl (fun u H locs hp197 hW => ?_)
                  obtain ⟨ff_51, yy_52, b12_53, b4_54, b5_55, b6_56, b7_57, b10_58, b8_59, b9_60⟩ := u
                  have hp197 : Pend ((a 1)) ((v 3)) yy_42 (b12_43) = (ff_51, yy_52, b12_53) ∧ MT ((a 1)) ((v 3)) yy_52 b4_54 b5_55 b6_56 b7_57 b10_58 ∧ NF ff_51 b8_59 b9_60 (tkP ((a 1)) ((v 3)) yy_52) ∧ N8 ff_51 b8_59 (b8_49) := hp197
                  have hW : zW G (tyZ cI cJ cO) A s (mW cI cJ h q (uV (uV (uV (uV (uV (uV (uV v 4 b4_54) 5 b5_55) 6 b6_56) 7 b7_57) 10 b10_58) 8 b8_59) 9 b9_60) (uA a 12 b12_53)) H locs := hW
                  have hM : MT (a 1) (v 3) yy_52 b4_54 b5_55 b6_56 b7_57 b10_58 := hp197.2.1
                  clear hR
                  have hR := MT_Rw hM (by omega) hT
                  exact z_zret hx hb hr hlk (by unfold bI; split <;> omega) hW (⟨ff_51, yy_52, b12_53, b4_54, b5_55, b6_56, b7_57, b10_58, b8_59, b9_60⟩) rfl (show _ = _ ∧ MT _ _ _ _ _ _ _ _ ∧ NF _ _ _ _ ∧ N8 _ _ _ from ⟨by unfold Ppart; rw [← ept, if_neg (by omega), hkn]; unfold Ppt; rw [if_neg (by decide), if_pos rfl, hp88.1, bnd_0 c91, hp103.1, bnd_0 c106, hp197.1], hM, hp197.2.2.1, (fun q => (hp197.2.2.2 q).trans ((hp103.2.2.2 c106).trans (hp88.2.2.2 c91)))⟩) rfl dX11_readPart_200
                · exfalso; omega
              · exfalso; omega
            · refine z_iconst (n := 0) hx hb dX11_readPart_109 ?_
              exact z_zret hx hb hr hlk (by first | exact Or.inl rfl | exact Or.inr rfl | omega) hW (⟨ff_41, yy_42, b12_43, b4_44, b5_45, b6_46, b7_47, b10_48, b8_49, b9_50⟩) (bI_f c106) (show _ = _ ∧ MT _ _ _ _ _ _ _ _ ∧ NF _ _ _ _ ∧ N8 _ _ _ from ⟨by unfold Ppart; rw [← ept, if_neg (by omega), hkn]; unfold Ppt; rw [if_neg (by decide), if_pos rfl, hp88.1, bnd_0 c91, hp103.1, bnd_1 c106], hM, hp103.2.2.1, (fun q => absurd q c106)⟩) rfl dX11_readPart_110
      · exfalso; omega
    · refine lv_aload_n hx hb dX11_readPart_36 rfl (lv_at hl 2 rfl) ?_
      refine z_iconst (n := 4) hx hb dX11_readPart_37 ?_
      refine z_callV (As := [.int (iI 4)]) (rest := []) F (c_bad h q v a 4  (show 1 ≤ 4 ∧ 4 ≤ 4 by omega) (show 0 ≤ (v 6) ∧ (v 6) ≤ 4 by omega)) gX11_readPart_X11_bad rfl ziX11_bad ⟨rfl, rfl, by decide, by decide⟩ rfl hl.1 rfl (Nat.le_of_ble_eq_true rfl) dX11_readPart_38 ⟨Nat.zero_le _, Nat.zero_le _⟩ hW hA [0, 1, 2, 3, 4, 5, 6, 7, 8, 9, 10] rfl (by decide) (fun _ => rfl) (fun _ => mW cI cJ h q (uV (uV v 8 (if (v 6) = 1 then 1 else 4)) 9 (v 5)) a) (fun _ => rfl) (fun _ => [.int (iI 0)]) (fun _ => rfl) 0 rfl rfl rfl (fun _ H locs hp38 hW => ?_)
      exact z_zret hx hb hr hlk (by first | exact Or.inl rfl | exact Or.inr rfl | omega) hW (⟨4, y, a 12, v 4, v 5, v 6, v 7, v 10, if (v 6) = 1 then 1 else 4, (v 5)⟩) (bI_f (show ¬ (4 : Int) = 0 by decide)) (show _ = _ ∧ MT _ _ _ _ _ _ _ _ ∧ NF _ _ _ _ ∧ N8 _ _ _ from ⟨by unfold Ppart; rw [← ept, if_pos c33], hM, (fun _ => ⟨(by show (if _ = (1 : Int) then (1 : Int) else _) = _; split <;> omega), hM.2.2.1⟩), (fun q => absurd (show (4 : Int) = 0 from q) (by decide))⟩) rfl dX11_readPart_41
  · have e1 : pt = 4 := ept.trans e9
    subst e1
    refine lv_istore_n (lv' := [(2, .int (iI 4)), (1, .int (iI (483 + (500 * (((a 12) 2) - 1))))), (0, .ref h)]) hx hb dX11_readPart_21 rfl hl (by decide) rfl (fun ls hl => ?_)
    refine lv_aload_n hx hb dX11_readPart_22 rfl (lv_at hl 2 rfl) ?_
    refine z_get (v := .ref (q 12)) hx hb hts hiX11_readPart_X11 hown hW 0 12 1 rfl rfl rfl (by decide) rfl dX11_readPart_23 ?_
    refine lv_iload_n hx hb dX11_readPart_26 rfl (lv_at hl 1 rfl) ?_
    refine z_bipush hx hb dX11_readPart_27 (by decide +kernel) ?_
    refine z_iadd hx hb dX11_readPart_29 ?_
    refine z_iald (f := a 12) (i := (483 + (500 * (((a 12) 2) - 1))) + 7) hx hb hW 3 0 rfl rfl (by decide) ⟨by omega, by omega⟩ dX11_readPart_30 ?_
    refine lv_iload_n hx hb dX11_readPart_31 rfl (lv_at hl 0 rfl) ?_
    refine z_iand hx hb dX11_readPart_32 ?_
    refine z_if_eq (tgt := 42) hx hb dX11_readPart_33 (by decide) (zand_R _ _) (fun c33 => ?_) (fun c33 => ?_)
    · refine lv_aload_n hx hb dX11_readPart_42 rfl (lv_at hl 2 rfl) ?_
      refine z_get (v := .ref (q 12)) hx hb hts hiX11_readPart_X11 hown hW 0 12 1 rfl rfl rfl (by decide) rfl dX11_readPart_43 ?_
      refine lv_iload_n hx hb dX11_readPart_46 rfl (lv_at hl 1 rfl) ?_
      refine z_bipush hx hb dX11_readPart_47 (by decide +kernel) ?_
      refine z_iadd hx hb dX11_readPart_49 ?_
      refine lv_dup2_11 hx hb dX11_readPart_50 rfl rfl ?_
      refine z_iald (f := a 12) (i := (483 + (500 * (((a 12) 2) - 1))) + 7) hx hb hW 3 0 rfl rfl (by decide) ⟨by omega, by omega⟩ dX11_readPart_51 ?_
      refine lv_iload_n hx hb dX11_readPart_52 rfl (lv_at hl 0 rfl) ?_
      refine z_ior hx hb dX11_readPart_53 ?_
      refine z_iast (f := a 12) (i := (483 + (500 * (((a 12) 2) - 1))) + 7) (z := zor ((a 12) ((483 + (500 * (((a 12) 2) - 1))) + 7)) 4) hx hb hW 3 0 rfl rfl (by decide) ⟨by omega, by omega⟩ dX11_readPart_54 (fun H locs hW => ?_)
      have hW : zW G (tyZ cI cJ cO) A s (mW cI cJ h q v (uA a 12 (uI (a 12) ((483 + (500 * (((a 12) 2) - 1))) + 7) (zor ((a 12) ((483 + (500 * (((a 12) 2) - 1))) + 7)) 4)))) H locs := hW
      refine lv_aload_n hx hb dX11_readPart_55 rfl (lv_at hl 2 rfl) ?_
      refine z_callV (As := []) (rest := []) F (c_go h q v (uA a 12 (uI (a 12) ((483 + (500 * (((a 12) 2) - 1))) + 7) (zor ((a 12) ((483 + (500 * (((a 12) 2) - 1))) + 7)) 4)))   (show 0 ≤ (v 3) ∧ (v 3) ≤ 640 by omega) (show 0 ≤ (v 4) ∧ (v 4) ≤ (v 3) by omega) hT) gX11_readPart_X11_go rfl ziX11_go ⟨rfl, rfl, by decide, by decide⟩ rfl hl.1 rfl (Nat.le_of_ble_eq_true rfl) dX11_readPart_56 ⟨Nat.zero_le _, Nat.zero_le _⟩ hW hA [0, 1, 2, 3, 4, 5, 6, 7, 8, 9, 10] rfl (by decide) (fun _ => rfl) (fun u => mW cI cJ h q (uV (uV (uV (uV (uV v 4 u.1) 5 u.2.1) 6 u.2.2.1) 7 u.2.2.2.1) 10 u.2.2.2.2) (uA a 12 (uI (a 12) ((483 + (500 * (((a 12) 2) - 1))) + 7) (zor ((a 12) ((483 + (500 * (((a 12) 2) - 1))) + 7)) 4)))) (fun _ => rfl) (fun u => []) (fun _ => rfl) 0 rfl rfl rfl (fun u H locs hp56 hW => ?_)
      obtain ⟨b4_61, b5_62, b6_63, b7_64, b10_65⟩ := u
      have hp56 : b4_61 = tkB ((a 1)) ((v 3)) ((v 4)) ∧ b5_62 = tkP ((a 1)) ((v 3)) ((v 4)) ∧ b6_63 = tkS ((a 1)) ((v 3)) ((v 4)) ∧ (b6_63 = 2 → b10_65 = tkW ((a 1)) ((v 3)) ((v 4))) ∧ (b6_63 = 3 → b7_64 = tkN ((a 1)) ((v 3)) ((v 4))) := hp56
      have hW : zW G (tyZ cI cJ cO) A s (mW cI cJ h q (uV (uV (uV (uV (uV v 4 b4_61) 5 b5_62) 6 b6_63) 7 b7_64) 10 b10_65) (uA a 12 (uI (a 12) ((483 + (500 * (((a 12) 2) - 1))) + 7) (zor ((a 12) ((483 + (500 * (((a 12) 2) - 1))) + 7)) 4)))) H locs := hW
      have hM : MT (a 1) (v 3) (tkB (a 1) (v 3) y) b4_61 b5_62 b6_63 b7_64 b10_65 := MT_go hM hp56
      clear hR hp56
      have hR := MT_Rw hM (by omega) hT
      refine lv_iload_n hx hb dX11_readPart_59 rfl (lv_at hl 0 rfl) ?_
      refine z_iconst (n := 1) hx hb dX11_readPart_60 ?_
      refine z_icmp_ne (tgt := 74) hx hb dX11_readPart_61 (by decide) (by decide) (by decide) (fun c61 => ?_) (fun c61 => ?_)
      · refine lv_iload_n hx hb dX11_readPart_74 rfl (lv_at hl 0 rfl) ?_
        refine z_iconst (n := 2) hx hb dX11_readPart_75 ?_
        refine z_icmp_ne (tgt := 111) hx hb dX11_readPart_76 (by decide) (by decide) (by decide) (fun c76 => ?_) (fun c76 => ?_)
        · refine lv_iload_n hx hb dX11_readPart_111 rfl (lv_at hl 0 rfl) ?_
          refine z_iconst (n := 4) hx hb dX11_readPart_112 ?_
          refine z_icmp_ne (tgt := 148) hx hb dX11_readPart_113 (by decide) (by decide) (by decide) (fun c113 => ?_) (fun c113 => ?_)
          · exfalso; omega
          · refine lv_aload_n hx hb dX11_readPart_116 rfl (lv_at hl 2 rfl) ?_
            refine lv_iload_n hx hb dX11_readPart_117 rfl (lv_at hl 1 rfl) ?_
            refine z_bipush hx hb dX11_readPart_118 (by decide +kernel) ?_
            refine z_iadd hx hb dX11_readPart_120 ?_
            refine z_iconst (n := 0) hx hb dX11_readPart_121 ?_
            refine z_sipush hx hb dX11_readPart_122 (by decide +kernel) ?_
            refine z_callV (As := [.int (iI ((483 + (500 * (((a 12) 2) - 1))) + 10)), .int (iI 0), .int (iI 999)]) (rest := []) F (c_told h q (uV (uV (uV (uV (uV v 4 b4_61) 5 b5_62) 6 b6_63) 7 b7_64) 10 b10_65) (uA a 12 (uI (a 12) ((483 + (500 * (((a 12) 2) - 1))) + 7) (zor ((a 12) ((483 + (500 * (((a 12) 2) - 1))) + 7)) 4))) ((483 + (500 * (((a 12) 2) - 1))) + 10) 0 999 (tkB (a 1) (v 3) y) (show 0 ≤ (v 3) ∧ (v 3) ≤ 640 by omega) hT hM (show 0 ≤ ((483 + (500 * (((a 12) 2) - 1))) + 10) ∧ ((483 + (500 * (((a 12) 2) - 1))) + 10) < 3483 by omega) (show -2147483648 ≤ 0 ∧ 0 < 2147483648 by omega) (show -2147483648 ≤ 999 ∧ 999 < 2147483648 by omega)) gX11_readPart_X11_told rfl ziX11_told ⟨rfl, rfl, by decide, by decide⟩ rfl hl.1 rfl (Nat.le_of_ble_eq_true rfl) dX11_readPart_125 ⟨Nat.zero_le _, Nat.zero_le _⟩ hW hA [0, 1, 2, 3, 4, 5, 6, 7, 8, 9, 10] rfl (by decide) (fun _ => rfl) (fun u => mW cI cJ h q (uV (uV (uV (uV (uV (uV (uV v 4 u.2.2.2.1) 5 u.2.2.2.2.1) 6 u.2.2.2.2.2.1) 7 u.2.2.2.2.2.2.1) 10 u.2.2.2.2.2.2.2.1) 8 u.2.2.2.2.2.2.2.2.1) 9 u.2.2.2.2.2.2.2.2.2) (uA a 12 u.2.2.1)) (fun _ => rfl) (fun u => [.int (iI (bI (u.1 = 0)))]) (fun _ => rfl) 0 rfl rfl rfl (fun u H locs hp125 hW => ?_)
            obtain ⟨ff_66, yy_67, b12_68, b4_69, b5_70, b6_71, b7_72, b10_73, b8_74, b9_75⟩ := u
            have hp125 : Pnum ((a 1)) ((v 3)) ((483 + (500 * (((a 12) 2) - 1))) + 10) 0 999 (tkB (a 1) (v 3) y) ((uI (a 12) ((483 + (500 * (((a 12) 2) - 1))) + 7) (zor ((a 12) ((483 + (500 * (((a 12) 2) - 1))) + 7)) 4))) = (ff_66, yy_67, b12_68) ∧ MT ((a 1)) ((v 3)) yy_67 b4_69 b5_70 b6_71 b7_72 b10_73 ∧ NF ff_66 b8_74 b9_75 (tkP ((a 1)) ((v 3)) yy_67) ∧ N8 ff_66 b8_74 ((v 8)) := hp125
            have hW : zW G (tyZ cI cJ cO) A s (mW cI cJ h q (uV (uV (uV (uV (uV (uV (uV v 4 b4_69) 5 b5_70) 6 b6_71) 7 b7_72) 10 b10_73) 8 b8_74) 9 b9_75) (uA a 12 b12_68)) H locs := hW
            have hM : MT (a 1) (v 3) yy_67 b4_69 b5_70 b6_71 b7_72 b10_73 := hp125.2.1
            clear hR
            have hR := MT_Rw hM (by omega) hT
            refine z_b_eq (tgt := 146) hx hb dX11_readPart_128 (by decide) (fun c128 => ?_) (fun c128 => ?_)
            · refine z_iconst (n := 0) hx hb dX11_readPart_146 ?_
              exact z_zret hx hb hr hlk (by first | exact Or.inl rfl | exact Or.inr rfl | omega) hW (⟨ff_66, yy_67, b12_68, b4_69, b5_70, b6_71, b7_72, b10_73, b8_74, b9_75⟩) (bI_f c128) (show _ = _ ∧ MT _ _ _ _ _ _ _ _ ∧ NF _ _ _ _ ∧ N8 _ _ _ from ⟨by unfold Ppart; rw [← ept, if_neg (by omega), hkn]; unfold Ppt; rw [if_neg (by decide), if_neg (by decide), if_pos rfl, hp125.1, bnd_1 c128, bnd_1 c128], hM, hp125.2.2.1, (fun q => absurd q c128)⟩) rfl dX11_readPart_147
            · refine lv_aload_n hx hb dX11_readPart_131 rfl (lv_at hl 2 rfl) ?_
              refine lv_iload_n hx hb dX11_readPart_132 rfl (lv_at hl 1 rfl) ?_
              refine z_bipush hx hb dX11_readPart_133 (by decide +kernel) ?_
              refine z_iadd hx hb dX11_readPart_135 ?_
              refine z_iconst (n := 0) hx hb dX11_readPart_136 ?_
              refine z_sipush hx hb dX11_readPart_137 (by decide +kernel) ?_
              refine z_callV (As := [.int (iI ((483 + (500 * (((a 12) 2) - 1))) + 11)), .int (iI 0), .int (iI 999)]) (rest := []) F (c_told h q (uV (uV (uV (uV (uV (uV (uV v 4 b4_69) 5 b5_70) 6 b6_71) 7 b7_72) 10 b10_73) 8 b8_74) 9 b9_75) (uA a 12 b12_68) ((483 + (500 * (((a 12) 2) - 1))) + 11) 0 999 yy_67 (show 0 ≤ (v 3) ∧ (v 3) ≤ 640 by omega) hT hM (show 0 ≤ ((483 + (500 * (((a 12) 2) - 1))) + 11) ∧ ((483 + (500 * (((a 12) 2) - 1))) + 11) < 3483 by omega) (show -2147483648 ≤ 0 ∧ 0 < 2147483648 by omega) (show -2147483648 ≤ 999 ∧ 999 < 2147483648 by omega)) gX11_readPart_X11_told rfl ziX11_told ⟨rfl, rfl, by decide, by decide⟩ rfl hl.1 rfl (Nat.le_of_ble_eq_true rfl) dX11_readPart_140 ⟨Nat.zero_le _, Nat.zero_le _⟩ hW hA [0, 1, 2, 3, 4, 5, 6, 7, 8, 9, 10] rfl (by decide) (fun _ => rfl) (fun u => mW cI cJ h q (uV (uV (uV (uV (uV (uV (uV v 4 u.2.2.2.1) 5 u.2.2.2.2.1) 6 u.2.2.2.2.2.1) 7 u.2.2.2.2.2.2.1) 10 u.2.2.2.2.2.2.2.1) 8 u.2.2.2.2.2.2.2.2.1) 9 u.2.2.2.2.2.2.2.2.2) (uA a 12 u.2.2.1)) (fun _ => rfl) (fun u => [.int (iI (bI (u.1 = 0)))]) (fun _ => rfl) 0 rfl rfl rfl (fun u H locs hp140 hW => ?_)
              obtain ⟨ff_76, yy_77, b12_78, b4_79, b5_80, b6_81, b7_82, b10_83, b8_84, b9_85⟩ := u
              have hp140 : Pnum ((a 1)) ((v 3)) ((483 + (500 * (((a 12) 2) - 1))) + 11) 0 999 yy_67 (b12_68) = (ff_76, yy_77, b12_78) ∧ MT ((a 1)) ((v 3)) yy_77 b4_79 b5_80 b6_81 b7_82 b10_83 ∧ NF ff_76 b8_84 b9_85 (tkP ((a 1)) ((v 3)) yy_77) ∧ N8 ff_76 b8_84 (b8_74) := hp140
              have hW : zW G (tyZ cI cJ cO) A s (mW cI cJ h q (uV (uV (uV (uV (uV (uV (uV v 4 b4_79) 5 b5_80) 6 b6_81) 7 b7_82) 10 b10_83) 8 b8_84) 9 b9_85) (uA a 12 b12_78)) H locs := hW
              have hM : MT (a 1) (v 3) yy_77 b4_79 b5_80 b6_81 b7_82 b10_83 := hp140.2.1
              clear hR
              have hR := MT_Rw hM (by omega) hT
              refine z_b_ne (tgt := 148) hx hb dX11_readPart_143 (by decide) (fun c143 => ?_) (fun c143 => ?_)
              · refine lv_iload_n hx hb dX11_readPart_148 rfl (lv_at hl 0 rfl) ?_
                refine z_bipush hx hb dX11_readPart_149 (by decide +kernel) ?_
                refine z_icmp_ne (tgt := 196) hx hb dX11_readPart_151 (by decide) (by decide) (by decide) (fun c151 => ?_) (fun c151 => ?_)
                · refine lv_aload_n hx hb dX11_readPart_196 rfl (lv_at hl 2 rfl) ?_
                  refine z_callV (As := []) (rest := []) F (c_readEnd h q (uV (uV (uV (uV (uV (uV (uV v 4 b4_79) 5 b5_80) 6 b6_81) 7 b7_82) 10 b10_83) 8 b8_84) 9 b9_85) (uA a 12 b12_78)  yy_77 (show 0 ≤ (v 3) ∧ (v 3) ≤ 640 by omega) hT hM) gX11_readPart_X11_readEnd rfl ziX11_readEnd ⟨rfl, rfl, by decide, by decide⟩ rfl hl.1 rfl (Nat.le_of_ble_eq_true rfl) dX11_readPart_197 ⟨Nat.zero_le _, Nat.zero_le _⟩ hW hA [0, 1, 2, 3, 4, 5, 6, 7, 8, 9, 10] rfl (by decide) (fun _ => rfl) (fun u => mW cI cJ h q (uV (uV (uV (uV (uV (uV (uV v 4 u.2.2.2.1) 5 u.2.2.2.2.1) 6 u.2.2.2.2.2.1) 7 u.2.2.2.2.2.2.1) 10 u.2.2.2.2.2.2.2.1) 8 u.2.2.2.2.2.2.2.2.1) 9 u.2.2.2.2.2.2.2.2.2) (uA a 12 u.2.2.1)) (fun _ => rfl) (fun u => [.int (iI (bI (u.1 = 0)))]) (fun _ => rfl) 0 rfl rfl rfl (fun u H locs hp197 hW => ?_)
                  obtain ⟨ff_86, yy_87, b12_88, b4_89, b5_90, b6_91, b7_92, b10_93, b8_94, b9_95⟩ := u
                  have hp197 : Pend ((a 1)) ((v 3)) yy_77 (b12_78) = (ff_86, yy_87, b12_88) ∧ MT ((a 1)) ((v 3)) yy_87 b4_89 b5_90 b6_91 b7_92 b10_93 ∧ NF ff_86 b8_94 b9_95 (tkP ((a 1)) ((v 3)) yy_87) ∧ N8 ff_86 b8_94 (b8_84) := hp197
                  have hW : zW G (tyZ cI cJ cO) A s (mW cI cJ h q (uV (uV (uV (uV (uV (uV (uV v 4 b4_89) 5 b5_90) 6 b6_91) 7 b7_92) 10 b10_93) 8 b8_94) 9 b9_95) (uA a 12 b12_88)) H locs := hW
                  have hM : MT (a 1) (v 3) yy_87 b4_89 b5_90 b6_91 b7_92 b10_93 := hp197.2.1
                  clear hR
                  have hR := MT_Rw hM (by omega) hT
                  exact z_zret hx hb hr hlk (by unfold bI; split <;> omega) hW (⟨ff_86, yy_87, b12_88, b4_89, b5_90, b6_91, b7_92, b10_93, b8_94, b9_95⟩) rfl (show _ = _ ∧ MT _ _ _ _ _ _ _ _ ∧ NF _ _ _ _ ∧ N8 _ _ _ from ⟨by unfold Ppart; rw [← ept, if_neg (by omega), hkn]; unfold Ppt; rw [if_neg (by decide), if_neg (by decide), if_pos rfl, hp125.1, bnd_0 c128, hp140.1, bnd_0 c143, hp197.1], hM, hp197.2.2.1, (fun q => (hp197.2.2.2 q).trans ((hp140.2.2.2 c143).trans (hp125.2.2.2 c128)))⟩) rfl dX11_readPart_200
                · exfalso; omega
              · refine z_iconst (n := 0) hx hb dX11_readPart_146 ?_
                exact z_zret hx hb hr hlk (by first | exact Or.inl rfl | exact Or.inr rfl | omega) hW (⟨ff_76, yy_77, b12_78, b4_79, b5_80, b6_81, b7_82, b10_83, b8_84, b9_85⟩) (bI_f c143) (show _ = _ ∧ MT _ _ _ _ _ _ _ _ ∧ NF _ _ _ _ ∧ N8 _ _ _ from ⟨by unfold Ppart; rw [← ept, if_neg (by omega), hkn]; unfold Ppt; rw [if_neg (by decide), if_neg (by decide), if_pos rfl, hp125.1, bnd_0 c128, hp140.1, bnd_1 c143], hM, hp140.2.2.1, (fun q => absurd q c143)⟩) rfl dX11_readPart_147
        · exfalso; omega
      · exfalso; omega
    · refine lv_aload_n hx hb dX11_readPart_36 rfl (lv_at hl 2 rfl) ?_
      refine z_iconst (n := 4) hx hb dX11_readPart_37 ?_
      refine z_callV (As := [.int (iI 4)]) (rest := []) F (c_bad h q v a 4  (show 1 ≤ 4 ∧ 4 ≤ 4 by omega) (show 0 ≤ (v 6) ∧ (v 6) ≤ 4 by omega)) gX11_readPart_X11_bad rfl ziX11_bad ⟨rfl, rfl, by decide, by decide⟩ rfl hl.1 rfl (Nat.le_of_ble_eq_true rfl) dX11_readPart_38 ⟨Nat.zero_le _, Nat.zero_le _⟩ hW hA [0, 1, 2, 3, 4, 5, 6, 7, 8, 9, 10] rfl (by decide) (fun _ => rfl) (fun _ => mW cI cJ h q (uV (uV v 8 (if (v 6) = 1 then 1 else 4)) 9 (v 5)) a) (fun _ => rfl) (fun _ => [.int (iI 0)]) (fun _ => rfl) 0 rfl rfl rfl (fun _ H locs hp38 hW => ?_)
      exact z_zret hx hb hr hlk (by first | exact Or.inl rfl | exact Or.inr rfl | omega) hW (⟨4, y, a 12, v 4, v 5, v 6, v 7, v 10, if (v 6) = 1 then 1 else 4, (v 5)⟩) (bI_f (show ¬ (4 : Int) = 0 by decide)) (show _ = _ ∧ MT _ _ _ _ _ _ _ _ ∧ NF _ _ _ _ ∧ N8 _ _ _ from ⟨by unfold Ppart; rw [← ept, if_pos c33], hM, (fun _ => ⟨(by show (if _ = (1 : Int) then (1 : Int) else _) = _; split <;> omega), hM.2.2.1⟩), (fun q => absurd (show (4 : Int) = 0 from q) (by decide))⟩) rfl dX11_readPart_41
  · have e1 : pt = 8 := ept.trans e9
    subst e1
    refine lv_istore_n (lv' := [(2, .int (iI 8)), (1, .int (iI (483 + (500 * (((a 12) 2) - 1))))), (0, .ref h)]) hx hb dX11_readPart_21 rfl hl (by decide) rfl (fun ls hl => ?_)
    refine lv_aload_n hx hb dX11_readPart_22 rfl (lv_at hl 2 rfl) ?_
    refine z_get (v := .ref (q 12)) hx hb hts hiX11_readPart_X11 hown hW 0 12 1 rfl rfl rfl (by decide) rfl dX11_readPart_23 ?_
    refine lv_iload_n hx hb dX11_readPart_26 rfl (lv_at hl 1 rfl) ?_
    refine z_bipush hx hb dX11_readPart_27 (by decide +kernel) ?_
    refine z_iadd hx hb dX11_readPart_29 ?_
    refine z_iald (f := a 12) (i := (483 + (500 * (((a 12) 2) - 1))) + 7) hx hb hW 3 0 rfl rfl (by decide) ⟨by omega, by omega⟩ dX11_readPart_30 ?_
    refine lv_iload_n hx hb dX11_readPart_31 rfl (lv_at hl 0 rfl) ?_
    refine z_iand hx hb dX11_readPart_32 ?_
    refine z_if_eq (tgt := 42) hx hb dX11_readPart_33 (by decide) (zand_R _ _) (fun c33 => ?_) (fun c33 => ?_)
    · refine lv_aload_n hx hb dX11_readPart_42 rfl (lv_at hl 2 rfl) ?_
      refine z_get (v := .ref (q 12)) hx hb hts hiX11_readPart_X11 hown hW 0 12 1 rfl rfl rfl (by decide) rfl dX11_readPart_43 ?_
      refine lv_iload_n hx hb dX11_readPart_46 rfl (lv_at hl 1 rfl) ?_
      refine z_bipush hx hb dX11_readPart_47 (by decide +kernel) ?_
      refine z_iadd hx hb dX11_readPart_49 ?_
      refine lv_dup2_11 hx hb dX11_readPart_50 rfl rfl ?_
      refine z_iald (f := a 12) (i := (483 + (500 * (((a 12) 2) - 1))) + 7) hx hb hW 3 0 rfl rfl (by decide) ⟨by omega, by omega⟩ dX11_readPart_51 ?_
      refine lv_iload_n hx hb dX11_readPart_52 rfl (lv_at hl 0 rfl) ?_
      refine z_ior hx hb dX11_readPart_53 ?_
      refine z_iast (f := a 12) (i := (483 + (500 * (((a 12) 2) - 1))) + 7) (z := zor ((a 12) ((483 + (500 * (((a 12) 2) - 1))) + 7)) 8) hx hb hW 3 0 rfl rfl (by decide) ⟨by omega, by omega⟩ dX11_readPart_54 (fun H locs hW => ?_)
      have hW : zW G (tyZ cI cJ cO) A s (mW cI cJ h q v (uA a 12 (uI (a 12) ((483 + (500 * (((a 12) 2) - 1))) + 7) (zor ((a 12) ((483 + (500 * (((a 12) 2) - 1))) + 7)) 8)))) H locs := hW
      refine lv_aload_n hx hb dX11_readPart_55 rfl (lv_at hl 2 rfl) ?_
      refine z_callV (As := []) (rest := []) F (c_go h q v (uA a 12 (uI (a 12) ((483 + (500 * (((a 12) 2) - 1))) + 7) (zor ((a 12) ((483 + (500 * (((a 12) 2) - 1))) + 7)) 8)))   (show 0 ≤ (v 3) ∧ (v 3) ≤ 640 by omega) (show 0 ≤ (v 4) ∧ (v 4) ≤ (v 3) by omega) hT) gX11_readPart_X11_go rfl ziX11_go ⟨rfl, rfl, by decide, by decide⟩ rfl hl.1 rfl (Nat.le_of_ble_eq_true rfl) dX11_readPart_56 ⟨Nat.zero_le _, Nat.zero_le _⟩ hW hA [0, 1, 2, 3, 4, 5, 6, 7, 8, 9, 10] rfl (by decide) (fun _ => rfl) (fun u => mW cI cJ h q (uV (uV (uV (uV (uV v 4 u.1) 5 u.2.1) 6 u.2.2.1) 7 u.2.2.2.1) 10 u.2.2.2.2) (uA a 12 (uI (a 12) ((483 + (500 * (((a 12) 2) - 1))) + 7) (zor ((a 12) ((483 + (500 * (((a 12) 2) - 1))) + 7)) 8)))) (fun _ => rfl) (fun u => []) (fun _ => rfl) 0 rfl rfl rfl (fun u H locs hp56 hW => ?_)
      obtain ⟨b4_96, b5_97, b6_98, b7_99, b10_100⟩ := u
      have hp56 : b4_96 = tkB ((a 1)) ((v 3)) ((v 4)) ∧ b5_97 = tkP ((a 1)) ((v 3)) ((v 4)) ∧ b6_98 = tkS ((a 1)) ((v 3)) ((v 4)) ∧ (b6_98 = 2 → b10_100 = tkW ((a 1)) ((v 3)) ((v 4))) ∧ (b6_98 = 3 → b7_99 = tkN ((a 1)) ((v 3)) ((v 4))) := hp56
      have hW : zW G (tyZ cI cJ cO) A s (mW cI cJ h q (uV (uV (uV (uV (uV v 4 b4_96) 5 b5_97) 6 b6_98) 7 b7_99) 10 b10_100) (uA a 12 (uI (a 12) ((483 + (500 * (((a 12) 2) - 1))) + 7) (zor ((a 12) ((483 + (500 * (((a 12) 2) - 1))) + 7)) 8)))) H locs := hW
      have hM : MT (a 1) (v 3) (tkB (a 1) (v 3) y) b4_96 b5_97 b6_98 b7_99 b10_100 := MT_go hM hp56
      clear hR hp56
      have hR := MT_Rw hM (by omega) hT
      refine lv_iload_n hx hb dX11_readPart_59 rfl (lv_at hl 0 rfl) ?_
      refine z_iconst (n := 1) hx hb dX11_readPart_60 ?_
      refine z_icmp_ne (tgt := 74) hx hb dX11_readPart_61 (by decide) (by decide) (by decide) (fun c61 => ?_) (fun c61 => ?_)
      · refine lv_iload_n hx hb dX11_readPart_74 rfl (lv_at hl 0 rfl) ?_
        refine z_iconst (n := 2) hx hb dX11_readPart_75 ?_
        refine z_icmp_ne (tgt := 111) hx hb dX11_readPart_76 (by decide) (by decide) (by decide) (fun c76 => ?_) (fun c76 => ?_)
        · refine lv_iload_n hx hb dX11_readPart_111 rfl (lv_at hl 0 rfl) ?_
          refine z_iconst (n := 4) hx hb dX11_readPart_112 ?_
          refine z_icmp_ne (tgt := 148) hx hb dX11_readPart_113 (by decide) (by decide) (by decide) (fun c113 => ?_) (fun c113 => ?_)
          · refine lv_iload_n hx hb dX11_readPart_148 rfl (lv_at hl 0 rfl) ?_
            refine z_bipush hx hb dX11_readPart_149 (by decide +kernel) ?_
            refine z_icmp_ne (tgt := 196) hx hb dX11_readPart_151 (by decide) (by decide) (by decide) (fun c151 => ?_) (fun c151 => ?_)
            · refine lv_aload_n hx hb dX11_readPart_196 rfl (lv_at hl 2 rfl) ?_
              refine z_callV (As := []) (rest := []) F (c_readEnd h q (uV (uV (uV (uV (uV v 4 b4_96) 5 b5_97) 6 b6_98) 7 b7_99) 10 b10_100) (uA a 12 (uI (a 12) ((483 + (500 * (((a 12) 2) - 1))) + 7) (zor ((a 12) ((483 + (500 * (((a 12) 2) - 1))) + 7)) 8)))  (tkB (a 1) (v 3) y) (show 0 ≤ (v 3) ∧ (v 3) ≤ 640 by omega) hT hM) gX11_readPart_X11_readEnd rfl ziX11_readEnd ⟨rfl, rfl, by decide, by decide⟩ rfl hl.1 rfl (Nat.le_of_ble_eq_true rfl) dX11_readPart_197 ⟨Nat.zero_le _, Nat.zero_le _⟩ hW hA [0, 1, 2, 3, 4, 5, 6, 7, 8, 9, 10] rfl (by decide) (fun _ => rfl) (fun u => mW cI cJ h q (uV (uV (uV (uV (uV (uV (uV v 4 u.2.2.2.1) 5 u.2.2.2.2.1) 6 u.2.2.2.2.2.1) 7 u.2.2.2.2.2.2.1) 10 u.2.2.2.2.2.2.2.1) 8 u.2.2.2.2.2.2.2.2.1) 9 u.2.2.2.2.2.2.2.2.2) (uA a 12 u.2.2.1)) (fun _ => rfl) (fun u => [.int (iI (bI (u.1 = 0)))]) (fun _ => rfl) 0 rfl rfl rfl (fun u H locs hp197 hW => ?_)
              obtain ⟨ff_101, yy_102, b12_103, b4_104, b5_105, b6_106, b7_107, b10_108, b8_109, b9_110⟩ := u
              have hp197 : Pend ((a 1)) ((v 3)) (tkB (a 1) (v 3) y) ((uI (a 12) ((483 + (500 * (((a 12) 2) - 1))) + 7) (zor ((a 12) ((483 + (500 * (((a 12) 2) - 1))) + 7)) 8))) = (ff_101, yy_102, b12_103) ∧ MT ((a 1)) ((v 3)) yy_102 b4_104 b5_105 b6_106 b7_107 b10_108 ∧ NF ff_101 b8_109 b9_110 (tkP ((a 1)) ((v 3)) yy_102) ∧ N8 ff_101 b8_109 ((v 8)) := hp197
              have hW : zW G (tyZ cI cJ cO) A s (mW cI cJ h q (uV (uV (uV (uV (uV (uV (uV v 4 b4_104) 5 b5_105) 6 b6_106) 7 b7_107) 10 b10_108) 8 b8_109) 9 b9_110) (uA a 12 b12_103)) H locs := hW
              have hM : MT (a 1) (v 3) yy_102 b4_104 b5_105 b6_106 b7_107 b10_108 := hp197.2.1
              clear hR
              have hR := MT_Rw hM (by omega) hT
              exact z_zret hx hb hr hlk (by unfold bI; split <;> omega) hW (⟨ff_101, yy_102, b12_103, b4_104, b5_105, b6_106, b7_107, b10_108, b8_109, b9_110⟩) rfl (show _ = _ ∧ MT _ _ _ _ _ _ _ _ ∧ NF _ _ _ _ ∧ N8 _ _ _ from ⟨by unfold Ppart; rw [← ept, if_neg (by omega), hkn]; unfold Ppt; rw [if_neg (by decide), if_neg (by decide), if_neg (by decide), if_neg (by decide), bnd_0 rfl, hp197.1], hM, hp197.2.2.1, (fun q => hp197.2.2.2 q)⟩) rfl dX11_readPart_200
            · exfalso; omega
          · exfalso; omega
        · exfalso; omega
      · exfalso; omega
    · refine lv_aload_n hx hb dX11_readPart_36 rfl (lv_at hl 2 rfl) ?_
      refine z_iconst (n := 4) hx hb dX11_readPart_37 ?_
      refine z_callV (As := [.int (iI 4)]) (rest := []) F (c_bad h q v a 4  (show 1 ≤ 4 ∧ 4 ≤ 4 by omega) (show 0 ≤ (v 6) ∧ (v 6) ≤ 4 by omega)) gX11_readPart_X11_bad rfl ziX11_bad ⟨rfl, rfl, by decide, by decide⟩ rfl hl.1 rfl (Nat.le_of_ble_eq_true rfl) dX11_readPart_38 ⟨Nat.zero_le _, Nat.zero_le _⟩ hW hA [0, 1, 2, 3, 4, 5, 6, 7, 8, 9, 10] rfl (by decide) (fun _ => rfl) (fun _ => mW cI cJ h q (uV (uV v 8 (if (v 6) = 1 then 1 else 4)) 9 (v 5)) a) (fun _ => rfl) (fun _ => [.int (iI 0)]) (fun _ => rfl) 0 rfl rfl rfl (fun _ H locs hp38 hW => ?_)
      exact z_zret hx hb hr hlk (by first | exact Or.inl rfl | exact Or.inr rfl | omega) hW (⟨4, y, a 12, v 4, v 5, v 6, v 7, v 10, if (v 6) = 1 then 1 else 4, (v 5)⟩) (bI_f (show ¬ (4 : Int) = 0 by decide)) (show _ = _ ∧ MT _ _ _ _ _ _ _ _ ∧ NF _ _ _ _ ∧ N8 _ _ _ from ⟨by unfold Ppart; rw [← ept, if_pos c33], hM, (fun _ => ⟨(by show (if _ = (1 : Int) then (1 : Int) else _) = _; split <;> omega), hM.2.2.1⟩), (fun q => absurd (show (4 : Int) = 0 from q) (by decide))⟩) rfl dX11_readPart_41
  · have e1 : pt = 16 := ept.trans e9
    subst e1
    refine lv_istore_n (lv' := [(2, .int (iI 16)), (1, .int (iI (483 + (500 * (((a 12) 2) - 1))))), (0, .ref h)]) hx hb dX11_readPart_21 rfl hl (by decide) rfl (fun ls hl => ?_)
    refine lv_aload_n hx hb dX11_readPart_22 rfl (lv_at hl 2 rfl) ?_
    refine z_get (v := .ref (q 12)) hx hb hts hiX11_readPart_X11 hown hW 0 12 1 rfl rfl rfl (by decide) rfl dX11_readPart_23 ?_
    refine lv_iload_n hx hb dX11_readPart_26 rfl (lv_at hl 1 rfl) ?_
    refine z_bipush hx hb dX11_readPart_27 (by decide +kernel) ?_
    refine z_iadd hx hb dX11_readPart_29 ?_
    refine z_iald (f := a 12) (i := (483 + (500 * (((a 12) 2) - 1))) + 7) hx hb hW 3 0 rfl rfl (by decide) ⟨by omega, by omega⟩ dX11_readPart_30 ?_
    refine lv_iload_n hx hb dX11_readPart_31 rfl (lv_at hl 0 rfl) ?_
    refine z_iand hx hb dX11_readPart_32 ?_
    refine z_if_eq (tgt := 42) hx hb dX11_readPart_33 (by decide) (zand_R _ _) (fun c33 => ?_) (fun c33 => ?_)
    · refine lv_aload_n hx hb dX11_readPart_42 rfl (lv_at hl 2 rfl) ?_
      refine z_get (v := .ref (q 12)) hx hb hts hiX11_readPart_X11 hown hW 0 12 1 rfl rfl rfl (by decide) rfl dX11_readPart_43 ?_
      refine lv_iload_n hx hb dX11_readPart_46 rfl (lv_at hl 1 rfl) ?_
      refine z_bipush hx hb dX11_readPart_47 (by decide +kernel) ?_
      refine z_iadd hx hb dX11_readPart_49 ?_
      refine lv_dup2_11 hx hb dX11_readPart_50 rfl rfl ?_
      refine z_iald (f := a 12) (i := (483 + (500 * (((a 12) 2) - 1))) + 7) hx hb hW 3 0 rfl rfl (by decide) ⟨by omega, by omega⟩ dX11_readPart_51 ?_
      refine lv_iload_n hx hb dX11_readPart_52 rfl (lv_at hl 0 rfl) ?_
      refine z_ior hx hb dX11_readPart_53 ?_
      refine z_iast (f := a 12) (i := (483 + (500 * (((a 12) 2) - 1))) + 7) (z := zor ((a 12) ((483 + (500 * (((a 12) 2) - 1))) + 7)) 16) hx hb hW 3 0 rfl rfl (by decide) ⟨by omega, by omega⟩ dX11_readPart_54 (fun H locs hW => ?_)
      have hW : zW G (tyZ cI cJ cO) A s (mW cI cJ h q v (uA a 12 (uI (a 12) ((483 + (500 * (((a 12) 2) - 1))) + 7) (zor ((a 12) ((483 + (500 * (((a 12) 2) - 1))) + 7)) 16)))) H locs := hW
      refine lv_aload_n hx hb dX11_readPart_55 rfl (lv_at hl 2 rfl) ?_
      refine z_callV (As := []) (rest := []) F (c_go h q v (uA a 12 (uI (a 12) ((483 + (500 * (((a 12) 2) - 1))) + 7) (zor ((a 12) ((483 + (500 * (((a 12) 2) - 1))) + 7)) 16)))   (show 0 ≤ (v 3) ∧ (v 3) ≤ 640 by omega) (show 0 ≤ (v 4) ∧ (v 4) ≤ (v 3) by omega) hT) gX11_readPart_X11_go rfl ziX11_go ⟨rfl, rfl, by decide, by decide⟩ rfl hl.1 rfl (Nat.le_of_ble_eq_true rfl) dX11_readPart_56 ⟨Nat.zero_le _, Nat.zero_le _⟩ hW hA [0, 1, 2, 3, 4, 5, 6, 7, 8, 9, 10] rfl (by decide) (fun _ => rfl) (fun u => mW cI cJ h q (uV (uV (uV (uV (uV v 4 u.1) 5 u.2.1) 6 u.2.2.1) 7 u.2.2.2.1) 10 u.2.2.2.2) (uA a 12 (uI (a 12) ((483 + (500 * (((a 12) 2) - 1))) + 7) (zor ((a 12) ((483 + (500 * (((a 12) 2) - 1))) + 7)) 16)))) (fun _ => rfl) (fun u => []) (fun _ => rfl) 0 rfl rfl rfl (fun u H locs hp56 hW => ?_)
      obtain ⟨b4_111, b5_112, b6_113, b7_114, b10_115⟩ := u
      have hp56 : b4_111 = tkB ((a 1)) ((v 3)) ((v 4)) ∧ b5_112 = tkP ((a 1)) ((v 3)) ((v 4)) ∧ b6_113 = tkS ((a 1)) ((v 3)) ((v 4)) ∧ (b6_113 = 2 → b10_115 = tkW ((a 1)) ((v 3)) ((v 4))) ∧ (b6_113 = 3 → b7_114 = tkN ((a 1)) ((v 3)) ((v 4))) := hp56
      have hW : zW G (tyZ cI cJ cO) A s (mW cI cJ h q (uV (uV (uV (uV (uV v 4 b4_111) 5 b5_112) 6 b6_113) 7 b7_114) 10 b10_115) (uA a 12 (uI (a 12) ((483 + (500 * (((a 12) 2) - 1))) + 7) (zor ((a 12) ((483 + (500 * (((a 12) 2) - 1))) + 7)) 16)))) H locs := hW
      have hM : MT (a 1) (v 3) (tkB (a 1) (v 3) y) b4_111 b5_112 b6_113 b7_114 b10_115 := MT_go hM hp56
      clear hR hp56
      have hR := MT_Rw hM (by omega) hT
      refine lv_iload_n hx hb dX11_readPart_59 rfl (lv_at hl 0 rfl) ?_
      refine z_iconst (n := 1) hx hb dX11_readPart_60 ?_
      refine z_icmp_ne (tgt := 74) hx hb dX11_readPart_61 (by decide) (by decide) (by decide) (fun c61 => ?_) (fun c61 => ?_)
      · refine lv_iload_n hx hb dX11_readPart_74 rfl (lv_at hl 0 rfl) ?_
        refine z_iconst (n := 2) hx hb dX11_readPart_75 ?_
        refine z_icmp_ne (tgt := 111) hx hb dX11_readPart_76 (by decide) (by decide) (by decide) (fun c76 => ?_) (fun c76 => ?_)
        · refine lv_iload_n hx hb dX11_readPart_111 rfl (lv_at hl 0 rfl) ?_
          refine z_iconst (n := 4) hx hb dX11_readPart_112 ?_
          refine z_icmp_ne (tgt := 148) hx hb dX11_readPart_113 (by decide) (by decide) (by decide) (fun c113 => ?_) (fun c113 => ?_)
          · refine lv_iload_n hx hb dX11_readPart_148 rfl (lv_at hl 0 rfl) ?_
            refine z_bipush hx hb dX11_readPart_149 (by decide +kernel) ?_
            refine z_icmp_ne (tgt := 196) hx hb dX11_readPart_151 (by decide) (by decide) (by decide) (fun c151 => ?_) (fun c151 => ?_)
            · exfalso; omega
            · refine lv_aload_n hx hb dX11_readPart_154 rfl (lv_at hl 2 rfl) ?_
              refine lv_iload_n hx hb dX11_readPart_155 rfl (lv_at hl 1 rfl) ?_
              refine z_bipush hx hb dX11_readPart_156 (by decide +kernel) ?_
              refine z_iadd hx hb dX11_readPart_158 ?_
              refine lv_aload_n hx hb dX11_readPart_159 rfl (lv_at hl 2 rfl) ?_
              refine z_get (v := .ref (q 12)) hx hb hts hiX11_readPart_X11 hown hW 0 12 1 rfl rfl rfl (by decide) rfl dX11_readPart_160 ?_
              refine lv_iload_n hx hb dX11_readPart_163 rfl (lv_at hl 1 rfl) ?_
              refine z_iconst (n := 0) hx hb dX11_readPart_164 ?_
              refine z_iadd hx hb dX11_readPart_165 ?_
              refine z_iald (f := uI (a 12) ((483 + (500 * (((a 12) 2) - 1))) + 7) (zor ((a 12) ((483 + (500 * (((a 12) 2) - 1))) + 7)) 16)) (i := (483 + (500 * (((a 12) 2) - 1))) + 0) hx hb hW 3 0 rfl rfl (by decide) ⟨by omega, by omega⟩ dX11_readPart_166 ?_
              refine z_iconst (n := 1) hx hb dX11_readPart_167 ?_
              refine z_iadd hx hb dX11_readPart_168 ?_
              refine lv_aload_n hx hb dX11_readPart_169 rfl (lv_at hl 2 rfl) ?_
              refine z_get (v := .ref (q 12)) hx hb hts hiX11_readPart_X11 hown hW 0 12 1 rfl rfl rfl (by decide) rfl dX11_readPart_170 ?_
              refine lv_iload_n hx hb dX11_readPart_173 rfl (lv_at hl 1 rfl) ?_
              refine z_iconst (n := 0) hx hb dX11_readPart_174 ?_
              refine z_iadd hx hb dX11_readPart_175 ?_
              refine z_iald (f := uI (a 12) ((483 + (500 * (((a 12) 2) - 1))) + 7) (zor ((a 12) ((483 + (500 * (((a 12) 2) - 1))) + 7)) 16)) (i := (483 + (500 * (((a 12) 2) - 1))) + 0) hx hb hW 3 0 rfl rfl (by decide) ⟨by omega, by omega⟩ dX11_readPart_176 ?_
              refine lv_aload_n hx hb dX11_readPart_177 rfl (lv_at hl 2 rfl) ?_
              refine z_get (v := .ref (q 12)) hx hb hts hiX11_readPart_X11 hown hW 0 12 1 rfl rfl rfl (by decide) rfl dX11_readPart_178 ?_
              refine lv_iload_n hx hb dX11_readPart_181 rfl (lv_at hl 1 rfl) ?_
              refine z_iconst (n := 1) hx hb dX11_readPart_182 ?_
              refine z_iadd hx hb dX11_readPart_183 ?_
              refine z_iald (f := uI (a 12) ((483 + (500 * (((a 12) 2) - 1))) + 7) (zor ((a 12) ((483 + (500 * (((a 12) 2) - 1))) + 7)) 16)) (i := (483 + (500 * (((a 12) 2) - 1))) + 1) hx hb hW 3 0 rfl rfl (by decide) ⟨by omega, by omega⟩ dX11_readPart_184 ?_
              refine z_iadd hx hb dX11_readPart_185 ?_
              refine z_iconst (n := 1) hx hb dX11_readPart_186 ?_
              refine z_isub hx hb dX11_readPart_187 ?_
              have hu0 : (uI (a 12) ((483 + (500 * (((a 12) 2) - 1))) + 7) (zor ((a 12) ((483 + (500 * (((a 12) 2) - 1))) + 7)) 16)) ((483 + 500 * (a 12 2 - 1)) + 0) = a 12 ((483 + 500 * (a 12 2 - 1)) + 0) := uI_n (by omega)
              have hu1 : (uI (a 12) ((483 + (500 * (((a 12) 2) - 1))) + 7) (zor ((a 12) ((483 + (500 * (((a 12) 2) - 1))) + 7)) 16)) ((483 + 500 * (a 12 2 - 1)) + 1) = a 12 ((483 + 500 * (a 12 2 - 1)) + 1) := uI_n (by omega)
              refine z_callV (As := [.int (iI ((483 + (500 * (((a 12) 2) - 1))) + 12)), .int (iI (((uI (a 12) ((483 + (500 * (((a 12) 2) - 1))) + 7) (zor ((a 12) ((483 + (500 * (((a 12) 2) - 1))) + 7)) 16)) ((483 + (500 * (((a 12) 2) - 1))) + 0)) + 1)), .int (iI ((((uI (a 12) ((483 + (500 * (((a 12) 2) - 1))) + 7) (zor ((a 12) ((483 + (500 * (((a 12) 2) - 1))) + 7)) 16)) ((483 + (500 * (((a 12) 2) - 1))) + 0)) + ((uI (a 12) ((483 + (500 * (((a 12) 2) - 1))) + 7) (zor ((a 12) ((483 + (500 * (((a 12) 2) - 1))) + 7)) 16)) ((483 + (500 * (((a 12) 2) - 1))) + 1))) - 1))]) (rest := []) F (c_told h q (uV (uV (uV (uV (uV v 4 b4_111) 5 b5_112) 6 b6_113) 7 b7_114) 10 b10_115) (uA a 12 (uI (a 12) ((483 + (500 * (((a 12) 2) - 1))) + 7) (zor ((a 12) ((483 + (500 * (((a 12) 2) - 1))) + 7)) 16))) ((483 + (500 * (((a 12) 2) - 1))) + 12) (((uI (a 12) ((483 + (500 * (((a 12) 2) - 1))) + 7) (zor ((a 12) ((483 + (500 * (((a 12) 2) - 1))) + 7)) 16)) ((483 + (500 * (((a 12) 2) - 1))) + 0)) + 1) ((((uI (a 12) ((483 + (500 * (((a 12) 2) - 1))) + 7) (zor ((a 12) ((483 + (500 * (((a 12) 2) - 1))) + 7)) 16)) ((483 + (500 * (((a 12) 2) - 1))) + 0)) + ((uI (a 12) ((483 + (500 * (((a 12) 2) - 1))) + 7) (zor ((a 12) ((483 + (500 * (((a 12) 2) - 1))) + 7)) 16)) ((483 + (500 * (((a 12) 2) - 1))) + 1))) - 1) (tkB (a 1) (v 3) y) (show 0 ≤ (v 3) ∧ (v 3) ≤ 640 by omega) hT hM (show 0 ≤ ((483 + (500 * (((a 12) 2) - 1))) + 12) ∧ ((483 + (500 * (((a 12) 2) - 1))) + 12) < 3483 by omega) (show -2147483648 ≤ (((uI (a 12) ((483 + (500 * (((a 12) 2) - 1))) + 7) (zor ((a 12) ((483 + (500 * (((a 12) 2) - 1))) + 7)) 16)) ((483 + (500 * (((a 12) 2) - 1))) + 0)) + 1) ∧ (((uI (a 12) ((483 + (500 * (((a 12) 2) - 1))) + 7) (zor ((a 12) ((483 + (500 * (((a 12) 2) - 1))) + 7)) 16)) ((483 + (500 * (((a 12) 2) - 1))) + 0)) + 1) < 2147483648 by omega) (show -2147483648 ≤ ((((uI (a 12) ((483 + (500 * (((a 12) 2) - 1))) + 7) (zor ((a 12) ((483 + (500 * (((a 12) 2) - 1))) + 7)) 16)) ((483 + (500 * (((a 12) 2) - 1))) + 0)) + ((uI (a 12) ((483 + (500 * (((a 12) 2) - 1))) + 7) (zor ((a 12) ((483 + (500 * (((a 12) 2) - 1))) + 7)) 16)) ((483 + (500 * (((a 12) 2) - 1))) + 1))) - 1) ∧ ((((uI (a 12) ((483 + (500 * (((a 12) 2) - 1))) + 7) (zor ((a 12) ((483 + (500 * (((a 12) 2) - 1))) + 7)) 16)) ((483 + (500 * (((a 12) 2) - 1))) + 0)) + ((uI (a 12) ((483 + (500 * (((a 12) 2) - 1))) + 7) (zor ((a 12) ((483 + (500 * (((a 12) 2) - 1))) + 7)) 16)) ((483 + (500 * (((a 12) 2) - 1))) + 1))) - 1) < 2147483648 by omega)) gX11_readPart_X11_told rfl ziX11_told ⟨rfl, rfl, by decide, by decide⟩ rfl hl.1 rfl (Nat.le_of_ble_eq_true rfl) dX11_readPart_188 ⟨Nat.zero_le _, Nat.zero_le _⟩ hW hA [0, 1, 2, 3, 4, 5, 6, 7, 8, 9, 10] rfl (by decide) (fun _ => rfl) (fun u => mW cI cJ h q (uV (uV (uV (uV (uV (uV (uV v 4 u.2.2.2.1) 5 u.2.2.2.2.1) 6 u.2.2.2.2.2.1) 7 u.2.2.2.2.2.2.1) 10 u.2.2.2.2.2.2.2.1) 8 u.2.2.2.2.2.2.2.2.1) 9 u.2.2.2.2.2.2.2.2.2) (uA a 12 u.2.2.1)) (fun _ => rfl) (fun u => [.int (iI (bI (u.1 = 0)))]) (fun _ => rfl) 0 rfl rfl rfl (fun u H locs hp188 hW => ?_)
              obtain ⟨ff_116, yy_117, b12_118, b4_119, b5_120, b6_121, b7_122, b10_123, b8_124, b9_125⟩ := u
              have hp188 : Pnum ((a 1)) ((v 3)) ((483 + (500 * (((a 12) 2) - 1))) + 12) (((uI (a 12) ((483 + (500 * (((a 12) 2) - 1))) + 7) (zor ((a 12) ((483 + (500 * (((a 12) 2) - 1))) + 7)) 16)) ((483 + (500 * (((a 12) 2) - 1))) + 0)) + 1) ((((uI (a 12) ((483 + (500 * (((a 12) 2) - 1))) + 7) (zor ((a 12) ((483 + (500 * (((a 12) 2) - 1))) + 7)) 16)) ((483 + (500 * (((a 12) 2) - 1))) + 0)) + ((uI (a 12) ((483 + (500 * (((a 12) 2) - 1))) + 7) (zor ((a 12) ((483 + (500 * (((a 12) 2) - 1))) + 7)) 16)) ((483 + (500 * (((a 12) 2) - 1))) + 1))) - 1) (tkB (a 1) (v 3) y) ((uI (a 12) ((483 + (500 * (((a 12) 2) - 1))) + 7) (zor ((a 12) ((483 + (500 * (((a 12) 2) - 1))) + 7)) 16))) = (ff_116, yy_117, b12_118) ∧ MT ((a 1)) ((v 3)) yy_117 b4_119 b5_120 b6_121 b7_122 b10_123 ∧ NF ff_116 b8_124 b9_125 (tkP ((a 1)) ((v 3)) yy_117) ∧ N8 ff_116 b8_124 ((v 8)) := hp188
              have hW : zW G (tyZ cI cJ cO) A s (mW cI cJ h q (uV (uV (uV (uV (uV (uV (uV v 4 b4_119) 5 b5_120) 6 b6_121) 7 b7_122) 10 b10_123) 8 b8_124) 9 b9_125) (uA a 12 b12_118)) H locs := hW
              have hM : MT (a 1) (v 3) yy_117 b4_119 b5_120 b6_121 b7_122 b10_123 := hp188.2.1
              clear hR
              have hR := MT_Rw hM (by omega) hT
              refine z_b_ne (tgt := 196) hx hb dX11_readPart_191 (by decide) (fun c191 => ?_) (fun c191 => ?_)
              · refine lv_aload_n hx hb dX11_readPart_196 rfl (lv_at hl 2 rfl) ?_
                refine z_callV (As := []) (rest := []) F (c_readEnd h q (uV (uV (uV (uV (uV (uV (uV v 4 b4_119) 5 b5_120) 6 b6_121) 7 b7_122) 10 b10_123) 8 b8_124) 9 b9_125) (uA a 12 b12_118)  yy_117 (show 0 ≤ (v 3) ∧ (v 3) ≤ 640 by omega) hT hM) gX11_readPart_X11_readEnd rfl ziX11_readEnd ⟨rfl, rfl, by decide, by decide⟩ rfl hl.1 rfl (Nat.le_of_ble_eq_true rfl) dX11_readPart_197 ⟨Nat.zero_le _, Nat.zero_le _⟩ hW hA [0, 1, 2, 3, 4, 5, 6, 7, 8, 9, 10] rfl (by decide) (fun _ => rfl) (fun u => mW cI cJ h q (uV (uV (uV (uV (uV (uV (uV v 4 u.2.2.2.1) 5 u.2.2.2.2.1) 6 u.2.2.2.2.2.1) 7 u.2.2.2.2.2.2.1) 10 u.2.2.2.2.2.2.2.1) 8 u.2.2.2.2.2.2.2.2.1) 9 u.2.2.2.2.2.2.2.2.2) (uA a 12 u.2.2.1)) (fun _ => rfl) (fun u => [.int (iI (bI (u.1 = 0)))]) (fun _ => rfl) 0 rfl rfl rfl (fun u H locs hp197 hW => ?_)
                obtain ⟨ff_126, yy_127, b12_128, b4_129, b5_130, b6_131, b7_132, b10_133, b8_134, b9_135⟩ := u
                have hp197 : Pend ((a 1)) ((v 3)) yy_117 (b12_118) = (ff_126, yy_127, b12_128) ∧ MT ((a 1)) ((v 3)) yy_127 b4_129 b5_130 b6_131 b7_132 b10_133 ∧ NF ff_126 b8_134 b9_135 (tkP ((a 1)) ((v 3)) yy_127) ∧ N8 ff_126 b8_134 (b8_124) := hp197
                have hW : zW G (tyZ cI cJ cO) A s (mW cI cJ h q (uV (uV (uV (uV (uV (uV (uV v 4 b4_129) 5 b5_130) 6 b6_131) 7 b7_132) 10 b10_133) 8 b8_134) 9 b9_135) (uA a 12 b12_128)) H locs := hW
                have hM : MT (a 1) (v 3) yy_127 b4_129 b5_130 b6_131 b7_132 b10_133 := hp197.2.1
                clear hR
                have hR := MT_Rw hM (by omega) hT
                exact z_zret hx hb hr hlk (by unfold bI; split <;> omega) hW (⟨ff_126, yy_127, b12_128, b4_129, b5_130, b6_131, b7_132, b10_133, b8_134, b9_135⟩) rfl (show _ = _ ∧ MT _ _ _ _ _ _ _ _ ∧ NF _ _ _ _ ∧ N8 _ _ _ from ⟨by unfold Ppart; rw [← ept, if_neg (by omega), hkn]; unfold Ppt; rw [if_neg (by decide), if_neg (by decide), if_neg (by decide), if_pos rfl, hp188.1, bnd_0 c191, hp197.1], hM, hp197.2.2.1, (fun q => (hp197.2.2.2 q).trans (hp188.2.2.2 c191))⟩) rfl dX11_readPart_200
              · refine z_iconst (n := 0) hx hb dX11_readPart_194 ?_
                exact z_zret hx hb hr hlk (by first | exact Or.inl rfl | exact Or.inr rfl | omega) hW (⟨ff_116, yy_117, b12_118, b4_119, b5_120, b6_121, b7_122, b10_123, b8_124, b9_125⟩) (bI_f c191) (show _ = _ ∧ MT _ _ _ _ _ _ _ _ ∧ NF _ _ _ _ ∧ N8 _ _ _ from ⟨by unfold Ppart; rw [← ept, if_neg (by omega), hkn]; unfold Ppt; rw [if_neg (by decide), if_neg (by decide), if_neg (by decide), if_pos rfl, hp188.1, bnd_1 c191], hM, hp188.2.2.1, (fun q => absurd q c191)⟩) rfl dX11_readPart_195
          · exfalso; omega
        · exfalso; omega
      · exfalso; omega
    · refine lv_aload_n hx hb dX11_readPart_36 rfl (lv_at hl 2 rfl) ?_
      refine z_iconst (n := 4) hx hb dX11_readPart_37 ?_
      refine z_callV (As := [.int (iI 4)]) (rest := []) F (c_bad h q v a 4  (show 1 ≤ 4 ∧ 4 ≤ 4 by omega) (show 0 ≤ (v 6) ∧ (v 6) ≤ 4 by omega)) gX11_readPart_X11_bad rfl ziX11_bad ⟨rfl, rfl, by decide, by decide⟩ rfl hl.1 rfl (Nat.le_of_ble_eq_true rfl) dX11_readPart_38 ⟨Nat.zero_le _, Nat.zero_le _⟩ hW hA [0, 1, 2, 3, 4, 5, 6, 7, 8, 9, 10] rfl (by decide) (fun _ => rfl) (fun _ => mW cI cJ h q (uV (uV v 8 (if (v 6) = 1 then 1 else 4)) 9 (v 5)) a) (fun _ => rfl) (fun _ => [.int (iI 0)]) (fun _ => rfl) 0 rfl rfl rfl (fun _ H locs hp38 hW => ?_)
      exact z_zret hx hb hr hlk (by first | exact Or.inl rfl | exact Or.inr rfl | omega) hW (⟨4, y, a 12, v 4, v 5, v 6, v 7, v 10, if (v 6) = 1 then 1 else 4, (v 5)⟩) (bI_f (show ¬ (4 : Int) = 0 by decide)) (show _ = _ ∧ MT _ _ _ _ _ _ _ _ ∧ NF _ _ _ _ ∧ N8 _ _ _ from ⟨by unfold Ppart; rw [← ept, if_pos c33], hM, (fun _ => ⟨(by show (if _ = (1 : Int) then (1 : Int) else _) = _; split <;> omega), hM.2.2.1⟩), (fun q => absurd (show (4 : Int) = 0 from q) (by decide))⟩) rfl dX11_readPart_41
