theorem hiX11_readLease_X11 : ∀ w ∈ wsX110, w ∈ wsX11_readLease := fun _ h => List.mem_cons_of_mem _ (List.mem_append_right _ h)
theorem ziX11_readLease : yX11_readLease.cls = RX11 ∧ yX11_readLease.cls ≠ "java/lang/invoke/MethodHandle" ∧ yX11_readLease.cls ≠ "java/lang/invoke/VarHandle" ∧ (parseMethodDescriptor yX11_readLease.desc).map (fun d => d.parameters.length) = some 0 := by decide +kernel
set_option maxHeartbeats 4000000 in
set_option maxRecDepth 100000 in
theorem c_readLease {l : Launch} {G : va_G} {cI cJ cO : ClassId} (h : Nat) (q : Nat → Nat) (v : Nat → Int) (a : Nat → Int → Int)  (y : Int) (h3 : 0 ≤ v 3 ∧ v 3 ≤ 640) (hT : ∀ j : Int, 0 ≤ j → j < 640 → 0 ≤ a 1 j ∧ a 1 j ≤ 255) (hM : MT (a 1) (v 3) y (v 4) (v 5) (v 6) (v 7) (v 10)) (h2 : 0 ≤ a 12 2 ∧ a 12 2 ≤ 6) (hk9 : KND (a 1) (v 3) y = 7) : zC l yX11_readLease wsX11_readLease { frames := 3, cells := 0, slots := 0, locals := 68 } G (tyZ cI cJ cO) (S := (Int) × (Int) × (Int → Int) × Int × Int × Int × Int × Int × Int × Int) [.ref h] (mW cI cJ h q v a) (zI (fun u => bI (u.1 = 0))) (fun u => Plel (a 1) (v 3) y (a 12) = (u.1, u.2.1, u.2.2.1) ∧ MT (a 1) (v 3) u.2.1 u.2.2.2.1 u.2.2.2.2.1 u.2.2.2.2.2.1 u.2.2.2.2.2.2.1 u.2.2.2.2.2.2.2.1 ∧ NF u.1 u.2.2.2.2.2.2.2.2.1 u.2.2.2.2.2.2.2.2.2 (tkP (a 1) (v 3) u.2.1) ∧ N8 u.1 u.2.2.2.2.2.2.2.2.1 (v 8)) (fun u => mW cI cJ h q (uV (uV (uV (uV (uV (uV (uV v 4 u.2.2.2.1) 5 u.2.2.2.2.1) 6 u.2.2.2.2.2.1) 7 u.2.2.2.2.2.2.1) 10 u.2.2.2.2.2.2.2.1) 8 u.2.2.2.2.2.2.2.2.1) 9 u.2.2.2.2.2.2.2.2.2) (uA a 12 u.2.2.1)) 0 0 := by
  refine z_start (cc := cX11_readLease) (maxL := 2) (ret := (some .boolean)) (by decide) rfl (Nat.le_of_ble_eq_true rfl) ?_
  intro p e s m below meth c A ls F hr hlk hnm hAe hA hW hl
  have hx := F.1
  have hb := F.2.1
  have hown : s.vm.findClass RX11 = some m.cls := F.2.2.2.1
  have hts := F.2.2.2.2
  have hl : lv_has ls 2 [(0, .ref h)] := hl
  have hR := MT_Rw hM (by omega) hT
  have hM0 := hM
  have hkk := KND_7.mp hk9
  have h62 : v 6 = 2 := hM.2.2.2.1.trans hkk.1
  refine lv_aload_n hx hb dX11_readLease_0 rfl (lv_at hl 0 rfl) ?_
  refine z_get (v := .ref (q 12)) hx hb hts hiX11_readLease_X11 hown hW 0 12 1 rfl rfl rfl (by decide) rfl dX11_readLease_1 ?_
  refine z_iconst (n := 2) hx hb dX11_readLease_4 ?_
  refine z_iald (f := a 12) (i := 2) hx hb hW 3 0 rfl rfl (by decide) ⟨by omega, by omega⟩ dX11_readLease_5 ?_
  refine z_bipush hx hb dX11_readLease_6 (by decide +kernel) ?_
  refine z_icmp_ne (tgt := 17) hx hb dX11_readLease_8 (by decide) ⟨by omega, by omega⟩ (by decide) (fun c8 => ?_) (fun c8 => ?_)
  · refine lv_aload_n hx hb dX11_readLease_17 rfl (lv_at hl 0 rfl) ?_
    refine z_callV (As := []) (rest := []) F (c_go h q v a   (show 0 ≤ (v 3) ∧ (v 3) ≤ 640 by omega) (show 0 ≤ (v 4) ∧ (v 4) ≤ (v 3) by omega) hT) gX11_readLease_X11_go rfl ziX11_go ⟨rfl, rfl, by decide, by decide⟩ rfl hl.1 rfl (Nat.le_of_ble_eq_true rfl) dX11_readLease_18 ⟨Nat.zero_le _, Nat.zero_le _⟩ hW hA [0, 1, 2, 3, 4, 5, 6, 7, 8, 9, 10] rfl (by decide) (fun _ => rfl) (fun u => mW cI cJ h q (uV (uV (uV (uV (uV v 4 u.1) 5 u.2.1) 6 u.2.2.1) 7 u.2.2.2.1) 10 u.2.2.2.2) a) (fun _ => rfl) (fun u => []) (fun _ => rfl) 0 rfl rfl rfl (fun u H locs hp18 hW => ?_)
    obtain ⟨b4_1, b5_2, b6_3, b7_4, b10_5⟩ := u
    have hp18 : b4_1 = tkB ((a 1)) ((v 3)) ((v 4)) ∧ b5_2 = tkP ((a 1)) ((v 3)) ((v 4)) ∧ b6_3 = tkS ((a 1)) ((v 3)) ((v 4)) ∧ (b6_3 = 2 → b10_5 = tkW ((a 1)) ((v 3)) ((v 4))) ∧ (b6_3 = 3 → b7_4 = tkN ((a 1)) ((v 3)) ((v 4))) := hp18
    have hW : zW G (tyZ cI cJ cO) A s (mW cI cJ h q (uV (uV (uV (uV (uV v 4 b4_1) 5 b5_2) 6 b6_3) 7 b7_4) 10 b10_5) a) H locs := hW
    have hM : MT (a 1) (v 3) (tkB (a 1) (v 3) y) b4_1 b5_2 b6_3 b7_4 b10_5 := MT_go hM hp18
    clear hR hp18
    have hR := MT_Rw hM (by omega) hT
    refine z_sipush hx hb dX11_readLease_21 (by decide +kernel) ?_
    refine z_sipush hx hb dX11_readLease_24 (by decide +kernel) ?_
    refine lv_aload_n hx hb dX11_readLease_27 rfl (lv_at hl 0 rfl) ?_
    refine z_get (v := .ref (q 12)) hx hb hts hiX11_readLease_X11 hown hW 0 12 1 rfl rfl rfl (by decide) rfl dX11_readLease_28 ?_
    refine z_iconst (n := 2) hx hb dX11_readLease_31 ?_
    refine z_iald (f := a 12) (i := 2) hx hb hW 3 0 rfl rfl (by decide) ⟨by omega, by omega⟩ dX11_readLease_32 ?_
    refine z_imul hx hb dX11_readLease_33 ?_
    refine z_iadd hx hb dX11_readLease_34 ?_
    refine lv_istore_n (lv' := [(1, .int (iI (483 + (500 * ((a 12) 2))))), (0, .ref h)]) hx hb dX11_readLease_35 rfl hl (by decide) rfl (fun ls hl => ?_)
    refine lv_aload_n hx hb dX11_readLease_36 rfl (lv_at hl 1 rfl) ?_
    refine lv_iload_n hx hb dX11_readLease_37 rfl (lv_at hl 0 rfl) ?_
    refine z_iconst (n := 0) hx hb dX11_readLease_38 ?_
    refine z_iadd hx hb dX11_readLease_39 ?_
    refine z_iconst (n := 0) hx hb dX11_readLease_40 ?_
    refine z_bipush hx hb dX11_readLease_41 (by decide +kernel) ?_
    refine z_callV (As := [.int (iI ((483 + (500 * ((a 12) 2))) + 0)), .int (iI 0), .int (iI 119)]) (rest := []) F (c_told h q (uV (uV (uV (uV (uV v 4 b4_1) 5 b5_2) 6 b6_3) 7 b7_4) 10 b10_5) a ((483 + (500 * ((a 12) 2))) + 0) 0 119 (tkB (a 1) (v 3) y) (show 0 ≤ (v 3) ∧ (v 3) ≤ 640 by omega) hT hM (show 0 ≤ ((483 + (500 * ((a 12) 2))) + 0) ∧ ((483 + (500 * ((a 12) 2))) + 0) < 3483 by omega) (show -2147483648 ≤ 0 ∧ 0 < 2147483648 by omega) (show -2147483648 ≤ 119 ∧ 119 < 2147483648 by omega)) gX11_readLease_X11_told rfl ziX11_told ⟨rfl, rfl, by decide, by decide⟩ rfl hl.1 rfl (Nat.le_of_ble_eq_true rfl) dX11_readLease_43 ⟨Nat.zero_le _, Nat.zero_le _⟩ hW hA [0, 1, 2, 3, 4, 5, 6, 7, 8, 9, 10] rfl (by decide) (fun _ => rfl) (fun u => mW cI cJ h q (uV (uV (uV (uV (uV (uV (uV v 4 u.2.2.2.1) 5 u.2.2.2.2.1) 6 u.2.2.2.2.2.1) 7 u.2.2.2.2.2.2.1) 10 u.2.2.2.2.2.2.2.1) 8 u.2.2.2.2.2.2.2.2.1) 9 u.2.2.2.2.2.2.2.2.2) (uA a 12 u.2.2.1)) (fun _ => rfl) (fun u => [.int (iI (bI (u.1 = 0)))]) (fun _ => rfl) 0 rfl rfl rfl (fun u H locs hp43 hW => ?_)
    obtain ⟨ff_6, yy_7, b12_8, b4_9, b5_10, b6_11, b7_12, b10_13, b8_14, b9_15⟩ := u
    have hp43 : Pnum ((a 1)) ((v 3)) ((483 + (500 * ((a 12) 2))) + 0) 0 119 (tkB (a 1) (v 3) y) ((a 12)) = (ff_6, yy_7, b12_8) ∧ MT ((a 1)) ((v 3)) yy_7 b4_9 b5_10 b6_11 b7_12 b10_13 ∧ NF ff_6 b8_14 b9_15 (tkP ((a 1)) ((v 3)) yy_7) ∧ N8 ff_6 b8_14 ((v 8)) := hp43
    have hW : zW G (tyZ cI cJ cO) A s (mW cI cJ h q (uV (uV (uV (uV (uV (uV (uV v 4 b4_9) 5 b5_10) 6 b6_11) 7 b7_12) 10 b10_13) 8 b8_14) 9 b9_15) (uA a 12 b12_8)) H locs := hW
    have hM : MT (a 1) (v 3) yy_7 b4_9 b5_10 b6_11 b7_12 b10_13 := hp43.2.1
    clear hR
    have hR := MT_Rw hM (by omega) hT
    refine z_b_eq (tgt := 107) hx hb dX11_readLease_46 (by decide) (fun c46 => ?_) (fun c46 => ?_)
    · refine z_iconst (n := 0) hx hb dX11_readLease_107 ?_
      exact z_zret hx hb hr hlk (by first | exact Or.inl rfl | exact Or.inr rfl | omega) hW (⟨ff_6, yy_7, b12_8, b4_9, b5_10, b6_11, b7_12, b10_13, b8_14, b9_15⟩) (bI_f c46) (show _ = _ ∧ MT _ _ _ _ _ _ _ _ ∧ NF _ _ _ _ ∧ N8 _ _ _ from ⟨by unfold Plel Ple; rw [if_neg c8, hp43.1, bnd_1 c46], hM, hp43.2.2.1, (fun q => absurd q c46)⟩) rfl dX11_readLease_108
    · refine lv_aload_n hx hb dX11_readLease_49 rfl (lv_at hl 1 rfl) ?_
      refine lv_iload_n hx hb dX11_readLease_50 rfl (lv_at hl 0 rfl) ?_
      refine z_iconst (n := 1) hx hb dX11_readLease_51 ?_
      refine z_iadd hx hb dX11_readLease_52 ?_
      refine z_iconst (n := 1) hx hb dX11_readLease_53 ?_
      refine z_bipush hx hb dX11_readLease_54 (by decide +kernel) ?_
      refine z_callV (As := [.int (iI ((483 + (500 * ((a 12) 2))) + 1)), .int (iI 1), .int (iI 120)]) (rest := []) F (c_told h q (uV (uV (uV (uV (uV (uV (uV v 4 b4_9) 5 b5_10) 6 b6_11) 7 b7_12) 10 b10_13) 8 b8_14) 9 b9_15) (uA a 12 b12_8) ((483 + (500 * ((a 12) 2))) + 1) 1 120 yy_7 (show 0 ≤ (v 3) ∧ (v 3) ≤ 640 by omega) hT hM (show 0 ≤ ((483 + (500 * ((a 12) 2))) + 1) ∧ ((483 + (500 * ((a 12) 2))) + 1) < 3483 by omega) (show -2147483648 ≤ 1 ∧ 1 < 2147483648 by omega) (show -2147483648 ≤ 120 ∧ 120 < 2147483648 by omega)) gX11_readLease_X11_told rfl ziX11_told ⟨rfl, rfl, by decide, by decide⟩ rfl hl.1 rfl (Nat.le_of_ble_eq_true rfl) dX11_readLease_56 ⟨Nat.zero_le _, Nat.zero_le _⟩ hW hA [0, 1, 2, 3, 4, 5, 6, 7, 8, 9, 10] rfl (by decide) (fun _ => rfl) (fun u => mW cI cJ h q (uV (uV (uV (uV (uV (uV (uV v 4 u.2.2.2.1) 5 u.2.2.2.2.1) 6 u.2.2.2.2.2.1) 7 u.2.2.2.2.2.2.1) 10 u.2.2.2.2.2.2.2.1) 8 u.2.2.2.2.2.2.2.2.1) 9 u.2.2.2.2.2.2.2.2.2) (uA a 12 u.2.2.1)) (fun _ => rfl) (fun u => [.int (iI (bI (u.1 = 0)))]) (fun _ => rfl) 0 rfl rfl rfl (fun u H locs hp56 hW => ?_)
      obtain ⟨ff_16, yy_17, b12_18, b4_19, b5_20, b6_21, b7_22, b10_23, b8_24, b9_25⟩ := u
      have hp56 : Pnum ((a 1)) ((v 3)) ((483 + (500 * ((a 12) 2))) + 1) 1 120 yy_7 (b12_8) = (ff_16, yy_17, b12_18) ∧ MT ((a 1)) ((v 3)) yy_17 b4_19 b5_20 b6_21 b7_22 b10_23 ∧ NF ff_16 b8_24 b9_25 (tkP ((a 1)) ((v 3)) yy_17) ∧ N8 ff_16 b8_24 (b8_14) := hp56
      have hW : zW G (tyZ cI cJ cO) A s (mW cI cJ h q (uV (uV (uV (uV (uV (uV (uV v 4 b4_19) 5 b5_20) 6 b6_21) 7 b7_22) 10 b10_23) 8 b8_24) 9 b9_25) (uA a 12 b12_18)) H locs := hW
      have hM : MT (a 1) (v 3) yy_17 b4_19 b5_20 b6_21 b7_22 b10_23 := hp56.2.1
      clear hR
      have hR := MT_Rw hM (by omega) hT
      refine z_b_eq (tgt := 107) hx hb dX11_readLease_59 (by decide) (fun c59 => ?_) (fun c59 => ?_)
      · refine z_iconst (n := 0) hx hb dX11_readLease_107 ?_
        exact z_zret hx hb hr hlk (by first | exact Or.inl rfl | exact Or.inr rfl | omega) hW (⟨ff_16, yy_17, b12_18, b4_19, b5_20, b6_21, b7_22, b10_23, b8_24, b9_25⟩) (bI_f c59) (show _ = _ ∧ MT _ _ _ _ _ _ _ _ ∧ NF _ _ _ _ ∧ N8 _ _ _ from ⟨by unfold Plel Ple; rw [if_neg c8, hp43.1, bnd_0 c46, hp56.1, bnd_1 c59], hM, hp56.2.2.1, (fun q => absurd q c59)⟩) rfl dX11_readLease_108
      · refine lv_aload_n hx hb dX11_readLease_62 rfl (lv_at hl 1 rfl) ?_
        refine lv_iload_n hx hb dX11_readLease_63 rfl (lv_at hl 0 rfl) ?_
        refine z_iconst (n := 2) hx hb dX11_readLease_64 ?_
        refine z_iadd hx hb dX11_readLease_65 ?_
        refine z_iconst (n := 1) hx hb dX11_readLease_66 ?_
        refine z_ldc hx hb (99999) hown (hts _ (List.mem_of_getElem? (i := 2) rfl)) (by decide +kernel) dX11_readLease_67 ?_
        refine z_callV (As := [.int (iI ((483 + (500 * ((a 12) 2))) + 2)), .int (iI 1), .int (iI 99999)]) (rest := []) F (c_told h q (uV (uV (uV (uV (uV (uV (uV v 4 b4_19) 5 b5_20) 6 b6_21) 7 b7_22) 10 b10_23) 8 b8_24) 9 b9_25) (uA a 12 b12_18) ((483 + (500 * ((a 12) 2))) + 2) 1 99999 yy_17 (show 0 ≤ (v 3) ∧ (v 3) ≤ 640 by omega) hT hM (show 0 ≤ ((483 + (500 * ((a 12) 2))) + 2) ∧ ((483 + (500 * ((a 12) 2))) + 2) < 3483 by omega) (show -2147483648 ≤ 1 ∧ 1 < 2147483648 by omega) (show -2147483648 ≤ 99999 ∧ 99999 < 2147483648 by omega)) gX11_readLease_X11_told rfl ziX11_told ⟨rfl, rfl, by decide, by decide⟩ rfl hl.1 rfl (Nat.le_of_ble_eq_true rfl) dX11_readLease_69 ⟨Nat.zero_le _, Nat.zero_le _⟩ hW hA [0, 1, 2, 3, 4, 5, 6, 7, 8, 9, 10] rfl (by decide) (fun _ => rfl) (fun u => mW cI cJ h q (uV (uV (uV (uV (uV (uV (uV v 4 u.2.2.2.1) 5 u.2.2.2.2.1) 6 u.2.2.2.2.2.1) 7 u.2.2.2.2.2.2.1) 10 u.2.2.2.2.2.2.2.1) 8 u.2.2.2.2.2.2.2.2.1) 9 u.2.2.2.2.2.2.2.2.2) (uA a 12 u.2.2.1)) (fun _ => rfl) (fun u => [.int (iI (bI (u.1 = 0)))]) (fun _ => rfl) 0 rfl rfl rfl (fun u H locs hp69 hW => ?_)
        obtain ⟨ff_26, yy_27, b12_28, b4_29, b5_30, b6_31, b7_32, b10_33, b8_34, b9_35⟩ := u
        have hp69 : Pnum ((a 1)) ((v 3)) ((483 + (500 * ((a 12) 2))) + 2) 1 99999 yy_17 (b12_18) = (ff_26, yy_27, b12_28) ∧ MT ((a 1)) ((v 3)) yy_27 b4_29 b5_30 b6_31 b7_32 b10_33 ∧ NF ff_26 b8_34 b9_35 (tkP ((a 1)) ((v 3)) yy_27) ∧ N8 ff_26 b8_34 (b8_24) := hp69
        have hW : zW G (tyZ cI cJ cO) A s (mW cI cJ h q (uV (uV (uV (uV (uV (uV (uV v 4 b4_29) 5 b5_30) 6 b6_31) 7 b7_32) 10 b10_33) 8 b8_34) 9 b9_35) (uA a 12 b12_28)) H locs := hW
        have hM : MT (a 1) (v 3) yy_27 b4_29 b5_30 b6_31 b7_32 b10_33 := hp69.2.1
        clear hR
        have hR := MT_Rw hM (by omega) hT
        refine z_b_eq (tgt := 107) hx hb dX11_readLease_72 (by decide) (fun c72 => ?_) (fun c72 => ?_)
        · refine z_iconst (n := 0) hx hb dX11_readLease_107 ?_
          exact z_zret hx hb hr hlk (by first | exact Or.inl rfl | exact Or.inr rfl | omega) hW (⟨ff_26, yy_27, b12_28, b4_29, b5_30, b6_31, b7_32, b10_33, b8_34, b9_35⟩) (bI_f c72) (show _ = _ ∧ MT _ _ _ _ _ _ _ _ ∧ NF _ _ _ _ ∧ N8 _ _ _ from ⟨by unfold Plel Ple; rw [if_neg c8, hp43.1, bnd_0 c46, hp56.1, bnd_0 c59, hp69.1, bnd_1 c72], hM, hp69.2.2.1, (fun q => absurd q c72)⟩) rfl dX11_readLease_108
        · refine lv_aload_n hx hb dX11_readLease_75 rfl (lv_at hl 1 rfl) ?_
          refine lv_iload_n hx hb dX11_readLease_76 rfl (lv_at hl 0 rfl) ?_
          refine z_iconst (n := 3) hx hb dX11_readLease_77 ?_
          refine z_iadd hx hb dX11_readLease_78 ?_
          refine z_iconst (n := 1) hx hb dX11_readLease_79 ?_
          refine z_bipush hx hb dX11_readLease_80 (by decide +kernel) ?_
          refine z_callV (As := [.int (iI ((483 + (500 * ((a 12) 2))) + 3)), .int (iI 1), .int (iI 60)]) (rest := []) F (c_told h q (uV (uV (uV (uV (uV (uV (uV v 4 b4_29) 5 b5_30) 6 b6_31) 7 b7_32) 10 b10_33) 8 b8_34) 9 b9_35) (uA a 12 b12_28) ((483 + (500 * ((a 12) 2))) + 3) 1 60 yy_27 (show 0 ≤ (v 3) ∧ (v 3) ≤ 640 by omega) hT hM (show 0 ≤ ((483 + (500 * ((a 12) 2))) + 3) ∧ ((483 + (500 * ((a 12) 2))) + 3) < 3483 by omega) (show -2147483648 ≤ 1 ∧ 1 < 2147483648 by omega) (show -2147483648 ≤ 60 ∧ 60 < 2147483648 by omega)) gX11_readLease_X11_told rfl ziX11_told ⟨rfl, rfl, by decide, by decide⟩ rfl hl.1 rfl (Nat.le_of_ble_eq_true rfl) dX11_readLease_82 ⟨Nat.zero_le _, Nat.zero_le _⟩ hW hA [0, 1, 2, 3, 4, 5, 6, 7, 8, 9, 10] rfl (by decide) (fun _ => rfl) (fun u => mW cI cJ h q (uV (uV (uV (uV (uV (uV (uV v 4 u.2.2.2.1) 5 u.2.2.2.2.1) 6 u.2.2.2.2.2.1) 7 u.2.2.2.2.2.2.1) 10 u.2.2.2.2.2.2.2.1) 8 u.2.2.2.2.2.2.2.2.1) 9 u.2.2.2.2.2.2.2.2.2) (uA a 12 u.2.2.1)) (fun _ => rfl) (fun u => [.int (iI (bI (u.1 = 0)))]) (fun _ => rfl) 0 rfl rfl rfl (fun u H locs hp82 hW => ?_)
          obtain ⟨ff_36, yy_37, b12_38, b4_39, b5_40, b6_41, b7_42, b10_43, b8_44, b9_45⟩ := u
          have hp82 : Pnum ((a 1)) ((v 3)) ((483 + (500 * ((a 12) 2))) + 3) 1 60 yy_27 (b12_28) = (ff_36, yy_37, b12_38) ∧ MT ((a 1)) ((v 3)) yy_37 b4_39 b5_40 b6_41 b7_42 b10_43 ∧ NF ff_36 b8_44 b9_45 (tkP ((a 1)) ((v 3)) yy_37) ∧ N8 ff_36 b8_44 (b8_34) := hp82
          have hW : zW G (tyZ cI cJ cO) A s (mW cI cJ h q (uV (uV (uV (uV (uV (uV (uV v 4 b4_39) 5 b5_40) 6 b6_41) 7 b7_42) 10 b10_43) 8 b8_44) 9 b9_45) (uA a 12 b12_38)) H locs := hW
          have hM : MT (a 1) (v 3) yy_37 b4_39 b5_40 b6_41 b7_42 b10_43 := hp82.2.1
          clear hR
          have hR := MT_Rw hM (by omega) hT
          refine z_b_eq (tgt := 107) hx hb dX11_readLease_85 (by decide) (fun c85 => ?_) (fun c85 => ?_)
          · refine z_iconst (n := 0) hx hb dX11_readLease_107 ?_
            exact z_zret hx hb hr hlk (by first | exact Or.inl rfl | exact Or.inr rfl | omega) hW (⟨ff_36, yy_37, b12_38, b4_39, b5_40, b6_41, b7_42, b10_43, b8_44, b9_45⟩) (bI_f c85) (show _ = _ ∧ MT _ _ _ _ _ _ _ _ ∧ NF _ _ _ _ ∧ N8 _ _ _ from ⟨by unfold Plel Ple; rw [if_neg c8, hp43.1, bnd_0 c46, hp56.1, bnd_0 c59, hp69.1, bnd_0 c72, hp82.1, bnd_1 c85], hM, hp82.2.2.1, (fun q => absurd q c85)⟩) rfl dX11_readLease_108
          · refine lv_aload_n hx hb dX11_readLease_88 rfl (lv_at hl 1 rfl) ?_
            refine lv_iload_n hx hb dX11_readLease_89 rfl (lv_at hl 0 rfl) ?_
            refine z_iconst (n := 4) hx hb dX11_readLease_90 ?_
            refine z_iadd hx hb dX11_readLease_91 ?_
            refine z_iconst (n := 0) hx hb dX11_readLease_92 ?_
            have e56 := Pnum_0 hp56.1 c59
            have e69 := Pnum_0 hp69.1 c72
            have e82 := Pnum_0 hp82.1 c85
            have htm : 1 ≤ b12_38 (483 + 500 * a 12 2 + 1) ∧ b12_38 (483 + 500 * a 12 2 + 1) ≤ 120 := by rw [e82.2.2.2, uI_n (by omega), e69.2.2.2, uI_n (by omega), e56.2.2.2, uI_s]; omega
            refine lv_aload_n hx hb dX11_readLease_93 rfl (lv_at hl 1 rfl) ?_
            refine z_get (v := .ref (q 12)) hx hb hts hiX11_readLease_X11 hown hW 0 12 1 rfl rfl rfl (by decide) rfl dX11_readLease_94 ?_
            refine lv_iload_n hx hb dX11_readLease_97 rfl (lv_at hl 0 rfl) ?_
            refine z_iconst (n := 1) hx hb dX11_readLease_98 ?_
            refine z_iadd hx hb dX11_readLease_99 ?_
            refine z_iald (f := b12_38) (i := (483 + (500 * ((a 12) 2))) + 1) hx hb hW 3 0 rfl rfl (by decide) ⟨by omega, by omega⟩ dX11_readLease_100 ?_
            refine z_callV (As := [.int (iI ((483 + (500 * ((a 12) 2))) + 4)), .int (iI 0), .int (iI (b12_38 ((483 + (500 * ((a 12) 2))) + 1)))]) (rest := []) F (c_told h q (uV (uV (uV (uV (uV (uV (uV v 4 b4_39) 5 b5_40) 6 b6_41) 7 b7_42) 10 b10_43) 8 b8_44) 9 b9_45) (uA a 12 b12_38) ((483 + (500 * ((a 12) 2))) + 4) 0 (b12_38 ((483 + (500 * ((a 12) 2))) + 1)) yy_37 (show 0 ≤ (v 3) ∧ (v 3) ≤ 640 by omega) hT hM (show 0 ≤ ((483 + (500 * ((a 12) 2))) + 4) ∧ ((483 + (500 * ((a 12) 2))) + 4) < 3483 by omega) (show -2147483648 ≤ 0 ∧ 0 < 2147483648 by omega) (show -2147483648 ≤ (b12_38 ((483 + (500 * ((a 12) 2))) + 1)) ∧ (b12_38 ((483 + (500 * ((a 12) 2))) + 1)) < 2147483648 by omega)) gX11_readLease_X11_told rfl ziX11_told ⟨rfl, rfl, by decide, by decide⟩ rfl hl.1 rfl (Nat.le_of_ble_eq_true rfl) dX11_readLease_101 ⟨Nat.zero_le _, Nat.zero_le _⟩ hW hA [0, 1, 2, 3, 4, 5, 6, 7, 8, 9, 10] rfl (by decide) (fun _ => rfl) (fun u => mW cI cJ h q (uV (uV (uV (uV (uV (uV (uV v 4 u.2.2.2.1) 5 u.2.2.2.2.1) 6 u.2.2.2.2.2.1) 7 u.2.2.2.2.2.2.1) 10 u.2.2.2.2.2.2.2.1) 8 u.2.2.2.2.2.2.2.2.1) 9 u.2.2.2.2.2.2.2.2.2) (uA a 12 u.2.2.1)) (fun _ => rfl) (fun u => [.int (iI (bI (u.1 = 0)))]) (fun _ => rfl) 0 rfl rfl rfl (fun u H locs hp101 hW => ?_)
            obtain ⟨ff_46, yy_47, b12_48, b4_49, b5_50, b6_51, b7_52, b10_53, b8_54, b9_55⟩ := u
            have hp101 : Pnum ((a 1)) ((v 3)) ((483 + (500 * ((a 12) 2))) + 4) 0 (b12_38 ((483 + (500 * ((a 12) 2))) + 1)) yy_37 (b12_38) = (ff_46, yy_47, b12_48) ∧ MT ((a 1)) ((v 3)) yy_47 b4_49 b5_50 b6_51 b7_52 b10_53 ∧ NF ff_46 b8_54 b9_55 (tkP ((a 1)) ((v 3)) yy_47) ∧ N8 ff_46 b8_54 (b8_44) := hp101
            have hW : zW G (tyZ cI cJ cO) A s (mW cI cJ h q (uV (uV (uV (uV (uV (uV (uV v 4 b4_49) 5 b5_50) 6 b6_51) 7 b7_52) 10 b10_53) 8 b8_54) 9 b9_55) (uA a 12 b12_48)) H locs := hW
            have hM : MT (a 1) (v 3) yy_47 b4_49 b5_50 b6_51 b7_52 b10_53 := hp101.2.1
            clear hR
            have hR := MT_Rw hM (by omega) hT
            refine z_b_ne (tgt := 109) hx hb dX11_readLease_104 (by decide) (fun c104 => ?_) (fun c104 => ?_)
            · refine lv_aload_n hx hb dX11_readLease_109 rfl (lv_at hl 1 rfl) ?_
              refine z_get (v := .ref (q 12)) hx hb hts hiX11_readLease_X11 hown hW 0 12 1 rfl rfl rfl (by decide) rfl dX11_readLease_110 ?_
              refine z_iconst (n := 2) hx hb dX11_readLease_113 ?_
              refine lv_dup2_11 hx hb dX11_readLease_114 rfl rfl ?_
              refine z_iald (f := b12_48) (i := 2) hx hb hW 3 0 rfl rfl (by decide) ⟨by omega, by omega⟩ dX11_readLease_115 ?_
              refine z_iconst (n := 1) hx hb dX11_readLease_116 ?_
              refine z_iadd hx hb dX11_readLease_117 ?_
              refine z_iast (f := b12_48) (i := 2) (z := (b12_48 2) + 1) hx hb hW 3 0 rfl rfl (by decide) ⟨by omega, by omega⟩ dX11_readLease_118 (fun H locs hW => ?_)
              have hW : zW G (tyZ cI cJ cO) A s (mW cI cJ h q (uV (uV (uV (uV (uV (uV (uV v 4 b4_49) 5 b5_50) 6 b6_51) 7 b7_52) 10 b10_53) 8 b8_54) 9 b9_55) (uA a 12 (uI b12_48 2 ((b12_48 2) + 1)))) H locs := hW
              refine lv_aload_n hx hb dX11_readLease_119 rfl (lv_at hl 1 rfl) ?_
              refine z_callV (As := []) (rest := []) F (c_readEnd h q (uV (uV (uV (uV (uV (uV (uV v 4 b4_49) 5 b5_50) 6 b6_51) 7 b7_52) 10 b10_53) 8 b8_54) 9 b9_55) (uA a 12 (uI b12_48 2 ((b12_48 2) + 1)))  yy_47 (show 0 ≤ (v 3) ∧ (v 3) ≤ 640 by omega) hT hM) gX11_readLease_X11_readEnd rfl ziX11_readEnd ⟨rfl, rfl, by decide, by decide⟩ rfl hl.1 rfl (Nat.le_of_ble_eq_true rfl) dX11_readLease_120 ⟨Nat.zero_le _, Nat.zero_le _⟩ hW hA [0, 1, 2, 3, 4, 5, 6, 7, 8, 9, 10] rfl (by decide) (fun _ => rfl) (fun u => mW cI cJ h q (uV (uV (uV (uV (uV (uV (uV v 4 u.2.2.2.1) 5 u.2.2.2.2.1) 6 u.2.2.2.2.2.1) 7 u.2.2.2.2.2.2.1) 10 u.2.2.2.2.2.2.2.1) 8 u.2.2.2.2.2.2.2.2.1) 9 u.2.2.2.2.2.2.2.2.2) (uA a 12 u.2.2.1)) (fun _ => rfl) (fun u => [.int (iI (bI (u.1 = 0)))]) (fun _ => rfl) 0 rfl rfl rfl (fun u H locs hp120 hW => ?_)
              obtain ⟨ff_56, yy_57, b12_58, b4_59, b5_60, b6_61, b7_62, b10_63, b8_64, b9_65⟩ := u
              have hp120 : Pend ((a 1)) ((v 3)) yy_47 ((uI b12_48 2 ((b12_48 2) + 1))) = (ff_56, yy_57, b12_58) ∧ MT ((a 1)) ((v 3)) yy_57 b4_59 b5_60 b6_61 b7_62 b10_63 ∧ NF ff_56 b8_64 b9_65 (tkP ((a 1)) ((v 3)) yy_57) ∧ N8 ff_56 b8_64 (b8_54) := hp120
              have hW : zW G (tyZ cI cJ cO) A s (mW cI cJ h q (uV (uV (uV (uV (uV (uV (uV v 4 b4_59) 5 b5_60) 6 b6_61) 7 b7_62) 10 b10_63) 8 b8_64) 9 b9_65) (uA a 12 b12_58)) H locs := hW
              have hM : MT (a 1) (v 3) yy_57 b4_59 b5_60 b6_61 b7_62 b10_63 := hp120.2.1
              clear hR
              have hR := MT_Rw hM (by omega) hT
              exact z_zret hx hb hr hlk (by unfold bI; split <;> omega) hW (⟨ff_56, yy_57, b12_58, b4_59, b5_60, b6_61, b7_62, b10_63, b8_64, b9_65⟩) rfl (show _ = _ ∧ MT _ _ _ _ _ _ _ _ ∧ NF _ _ _ _ ∧ N8 _ _ _ from ⟨by unfold Plel Ple; rw [if_neg c8, hp43.1, bnd_0 c46, hp56.1, bnd_0 c59, hp69.1, bnd_0 c72, hp82.1, bnd_0 c85, hp101.1, bnd_0 c104, hp120.1], hM, hp120.2.2.1, (fun q => (hp120.2.2.2 q).trans ((hp101.2.2.2 c104).trans ((hp82.2.2.2 c85).trans ((hp69.2.2.2 c72).trans ((hp56.2.2.2 c59).trans (hp43.2.2.2 c46))))))⟩) rfl dX11_readLease_123
            · refine z_iconst (n := 0) hx hb dX11_readLease_107 ?_
              exact z_zret hx hb hr hlk (by first | exact Or.inl rfl | exact Or.inr rfl | omega) hW (⟨ff_46, yy_47, b12_48, b4_49, b5_50, b6_51, b7_52, b10_53, b8_54, b9_55⟩) (bI_f c104) (show _ = _ ∧ MT _ _ _ _ _ _ _ _ ∧ NF _ _ _ _ ∧ N8 _ _ _ from ⟨by unfold Plel Ple; rw [if_neg c8, hp43.1, bnd_0 c46, hp56.1, bnd_0 c59, hp69.1, bnd_0 c72, hp82.1, bnd_0 c85, hp101.1, bnd_1 c104], hM, hp101.2.2.1, (fun q => absurd q c104)⟩) rfl dX11_readLease_108
  · refine lv_aload_n hx hb dX11_readLease_11 rfl (lv_at hl 0 rfl) ?_
    refine z_iconst (n := 3) hx hb dX11_readLease_12 ?_
    refine z_callV (As := [.int (iI 3)]) (rest := []) F (c_bad h q v a 3  (show 1 ≤ 3 ∧ 3 ≤ 4 by omega) (show 0 ≤ (v 6) ∧ (v 6) ≤ 4 by omega)) gX11_readLease_X11_bad rfl ziX11_bad ⟨rfl, rfl, by decide, by decide⟩ rfl hl.1 rfl (Nat.le_of_ble_eq_true rfl) dX11_readLease_13 ⟨Nat.zero_le _, Nat.zero_le _⟩ hW hA [0, 1, 2, 3, 4, 5, 6, 7, 8, 9, 10] rfl (by decide) (fun _ => rfl) (fun _ => mW cI cJ h q (uV (uV v 8 (if (v 6) = 1 then 1 else 3)) 9 (v 5)) a) (fun _ => rfl) (fun _ => [.int (iI 0)]) (fun _ => rfl) 0 rfl rfl rfl (fun _ H locs hp13 hW => ?_)
    exact z_zret hx hb hr hlk (by first | exact Or.inl rfl | exact Or.inr rfl | omega) hW (⟨3, y, a 12, v 4, v 5, v 6, v 7, v 10, if (v 6) = 1 then 1 else 3, (v 5)⟩) (bI_f (show ¬ (3 : Int) = 0 by decide)) (show _ = _ ∧ MT _ _ _ _ _ _ _ _ ∧ NF _ _ _ _ ∧ N8 _ _ _ from ⟨by unfold Plel; rw [if_pos c8], hM, (fun _ => ⟨(by show (if _ = (1 : Int) then (1 : Int) else _) = _; split <;> omega), hM.2.2.1⟩), (fun q => absurd (show (3 : Int) = 0 from q) (by decide))⟩) rfl dX11_readLease_16
