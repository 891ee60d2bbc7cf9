/-! the model: lines and parts -/
def Pixl (T : Int → Int) (z i y : Int) (N : Int → Int) : PR := if i = 20 then (3, y, N) else Pix T z (tkB T z y) N
def Plel (T : Int → Int) (z y : Int) (N : Int → Int) : PR := if N 2 = 6 then (3, y, N) else Ple T z (N 2) (tkB T z y) N
theorem hiX11_readIndex_X11 : ∀ w ∈ wsX110, w ∈ wsX11_readIndex := fun _ h => List.mem_cons_of_mem _ (List.mem_append_right _ h)
theorem ziX11_readIndex : yX11_readIndex.cls = RX11 ∧ yX11_readIndex.cls ≠ "java/lang/invoke/MethodHandle" ∧ yX11_readIndex.cls ≠ "java/lang/invoke/VarHandle" ∧ (parseMethodDescriptor yX11_readIndex.desc).map (fun d => d.parameters.length) = some 0 := by decide +kernel
set_option maxHeartbeats 4000000 in
set_option maxRecDepth 100000 in
theorem c_readIndex {l : Launch} {G : va_G} {cI cJ cO : ClassId} (h : Nat) (q : Nat → Nat) (v : Nat → Int) (a : Nat → Int → Int)  (y : Int) (h3 : 0 ≤ v 3 ∧ v 3 ≤ 640) (hT : ∀ j : Int, 0 ≤ j → j < 640 → 0 ≤ a 1 j ∧ a 1 j ≤ 255) (hM : MT (a 1) (v 3) y (v 4) (v 5) (v 6) (v 7) (v 10)) (h15 : 0 ≤ v 15 ∧ v 15 ≤ 20) (hk9 : KND (a 1) (v 3) y = 6) (hV : WFv (a 12)) : zC l yX11_readIndex wsX11_readIndex { frames := 3, cells := 0, slots := 0, locals := 68 } G (tyZ cI cJ cO) (S := (Int) × (Int) × (Int → Int) × Int × Int × Int × Int × Int × Int × Int × Int) [.ref h] (mW cI cJ h q v a) (zI (fun u => bI (u.1 = 0))) (fun u => Pixl (a 1) (v 3) (v 15) y (a 12) = (u.1, u.2.1, u.2.2.1) ∧ MT (a 1) (v 3) u.2.1 u.2.2.2.1 u.2.2.2.2.1 u.2.2.2.2.2.1 u.2.2.2.2.2.2.1 u.2.2.2.2.2.2.2.1 ∧ NF u.1 u.2.2.2.2.2.2.2.2.1 u.2.2.2.2.2.2.2.2.2.1 (tkP (a 1) (v 3) u.2.1) ∧ N8 u.1 u.2.2.2.2.2.2.2.2.1 (v 8) ∧ N8 u.1 u.2.2.2.2.2.2.2.2.2.2 (v 15 + 1)) (fun u => mW cI cJ h q (uV (uV (uV (uV (uV (uV (uV (uV v 4 u.2.2.2.1) 5 u.2.2.2.2.1) 6 u.2.2.2.2.2.1) 7 u.2.2.2.2.2.2.1) 10 u.2.2.2.2.2.2.2.1) 8 u.2.2.2.2.2.2.2.2.1) 9 u.2.2.2.2.2.2.2.2.2.1) 15 u.2.2.2.2.2.2.2.2.2.2) (uA a 12 u.2.2.1)) 0 0 := by
  refine z_start (cc := cX11_readIndex) (maxL := 2) (ret := (some .boolean)) (by decide) rfl (Nat.le_of_ble_eq_true rfl) ?_
  intro p e s m below meth c A ls F hr hlk hnm hAe hA hW hl
  have hx := F.1
  have hb := F.2.1
  have hown : s.vm.findClass RX11 = some m.cls := F.2.2.2.1
  have hts := F.2.2.2.2
  have hl : lv_has ls 2 [(0, .ref h)] := hl
  have hR := MT_Rw hM (by omega) hT
  have hM0 := hM
  have hkk := KND_6.mp hk9
  have h62 : v 6 = 2 := hM.2.2.2.1.trans hkk.1
  refine lv_aload_n hx hb dX11_readIndex_0 rfl (lv_at hl 0 rfl) ?_
  refine z_get (v := .int (iI (v 15))) hx hb hts hiX11_readIndex_X11 hown hW 0 15 1 rfl rfl rfl (by decide) rfl dX11_readIndex_1 ?_
  refine z_bipush hx hb dX11_readIndex_4 (by decide +kernel) ?_
  refine z_icmp_ne (tgt := 15) hx hb dX11_readIndex_6 (by decide) ⟨by omega, by omega⟩ (by decide) (fun c6 => ?_) (fun c6 => ?_)
  · refine lv_aload_n hx hb dX11_readIndex_15 rfl (lv_at hl 0 rfl) ?_
    refine z_callV (As := []) (rest := []) F (c_go h q v a   (show 0 ≤ (v 3) ∧ (v 3) ≤ 640 by omega) (show 0 ≤ (v 4) ∧ (v 4) ≤ (v 3) by omega) hT) gX11_readIndex_X11_go rfl ziX11_go ⟨rfl, rfl, by decide, by decide⟩ rfl hl.1 rfl (Nat.le_of_ble_eq_true rfl) dX11_readIndex_16 ⟨Nat.zero_le _, Nat.zero_le _⟩ hW hA [0, 1, 2, 3, 4, 5, 6, 7, 8, 9, 10] rfl (by decide) (fun _ => rfl) (fun u => mW cI cJ h q (uV (uV (uV (uV (uV v 4 u.1) 5 u.2.1) 6 u.2.2.1) 7 u.2.2.2.1) 10 u.2.2.2.2) a) (fun _ => rfl) (fun u => []) (fun _ => rfl) 0 rfl rfl rfl (fun u H locs hp16 hW => ?_)
    obtain ⟨b4_1, b5_2, b6_3, b7_4, b10_5⟩ := u
    have hp16 : b4_1 = tkB ((a 1)) ((v 3)) ((v 4)) ∧ b5_2 = tkP ((a 1)) ((v 3)) ((v 4)) ∧ b6_3 = tkS ((a 1)) ((v 3)) ((v 4)) ∧ (b6_3 = 2 → b10_5 = tkW ((a 1)) ((v 3)) ((v 4))) ∧ (b6_3 = 3 → b7_4 = tkN ((a 1)) ((v 3)) ((v 4))) := hp16
    have hW : zW G (tyZ cI cJ cO) A s (mW cI cJ h q (uV (uV (uV (uV (uV v 4 b4_1) 5 b5_2) 6 b6_3) 7 b7_4) 10 b10_5) a) H locs := hW
    have hM : MT (a 1) (v 3) (tkB (a 1) (v 3) y) b4_1 b5_2 b6_3 b7_4 b10_5 := MT_go hM hp16
    clear hR hp16
    have hR := MT_Rw hM (by omega) hT
    have hMa := hM
    refine lv_aload_n hx hb dX11_readIndex_19 rfl (lv_at hl 0 rfl) ?_
    refine z_get (v := .int (iI b6_3)) hx hb hts hiX11_readIndex_X11 hown hW 0 6 2 rfl rfl rfl (by decide) rfl dX11_readIndex_20 ?_
    refine z_iconst (n := 3) hx hb dX11_readIndex_23 ?_
    refine z_icmp_eq (tgt := 33) hx hb dX11_readIndex_24 (by decide) ⟨by omega, by omega⟩ (by decide) (fun c24 => ?_) (fun c24 => ?_)
    · have hn7 := hR.2.1 c24
      refine lv_aload_n hx hb dX11_readIndex_33 rfl (lv_at hl 0 rfl) ?_
      refine z_get (v := .int (iI b7_4)) hx hb hts hiX11_readIndex_X11 hown hW 0 7 3 rfl rfl rfl (by decide) rfl dX11_readIndex_34 ?_
      refine z_sipush hx hb dX11_readIndex_37 (by decide +kernel) ?_
      refine z_icmp_ge (tgt := 57) hx hb dX11_readIndex_40 (by decide) ⟨by omega, by omega⟩ (by decide) (fun c40 => ?_) (fun c40 => ?_)
      · have hx57 : True := trivial
        refine lv_aload_n hx hb dX11_readIndex_57 rfl (lv_at hl 0 rfl) ?_
        refine z_iconst (n := 2) hx hb dX11_readIndex_58 ?_
        refine z_callV (As := [.int (iI 2)]) (rest := []) F (c_bad h q (uV (uV (uV (uV (uV v 4 b4_1) 5 b5_2) 6 b6_3) 7 b7_4) 10 b10_5) a 2  (show 1 ≤ 2 ∧ 2 ≤ 4 by omega) (show 0 ≤ b6_3 ∧ b6_3 ≤ 4 by omega)) gX11_readIndex_X11_bad rfl ziX11_bad ⟨rfl, rfl, by decide, by decide⟩ rfl hl.1 rfl (Nat.le_of_ble_eq_true rfl) dX11_readIndex_59 ⟨Nat.zero_le _, Nat.zero_le _⟩ hW hA [0, 1, 2, 3, 4, 5, 6, 7, 8, 9, 10] rfl (by decide) (fun _ => rfl) (fun _ => mW cI cJ h q (uV (uV (uV (uV (uV (uV (uV v 4 b4_1) 5 b5_2) 6 b6_3) 7 b7_4) 10 b10_5) 8 (if b6_3 = 1 then 1 else 2)) 9 b5_2) a) (fun _ => rfl) (fun _ => [.int (iI 0)]) (fun _ => rfl) 0 rfl rfl rfl (fun _ H locs hp59 hW => ?_)
        exact z_zret hx hb hr hlk (by first | exact Or.inl rfl | exact Or.inr rfl | omega) hW (⟨2, tkB (a 1) (v 3) y, a 12, b4_1, b5_2, b6_3, b7_4, b10_5, if b6_3 = 1 then 1 else 2, b5_2, v 15⟩) (bI_f (show ¬ (2 : Int) = 0 by decide)) (show _ = _ ∧ MT _ _ _ _ _ _ _ _ ∧ NF _ _ _ _ ∧ N8 _ _ _ ∧ N8 _ _ _ from ⟨by unfold Pixl Pix; rw [if_neg c6, if_neg (by have := hMa.2.2.2.1; omega), ← hMa.2.2.2.2.2 c24, if_pos (by omega)], hM, (fun _ => ⟨(by show (if _ = (1 : Int) then (1 : Int) else _) = _; split <;> omega), hM.2.2.1⟩), (fun q => absurd (show (2 : Int) = 0 from q) (by decide)), (fun q => absurd (show (2 : Int) = 0 from q) (by decide))⟩) rfl dX11_readIndex_62
      · have hv3 := hV b7_4 (by omega) (by omega)
        refine lv_aload_n hx hb dX11_readIndex_43 rfl (lv_at hl 0 rfl) ?_
        refine z_get (v := .ref (q 12)) hx hb hts hiX11_readIndex_X11 hown hW 0 12 4 rfl rfl rfl (by decide) rfl dX11_readIndex_44 ?_
        refine z_iconst (n := 3) hx hb dX11_readIndex_47 ?_
        refine lv_aload_n hx hb dX11_readIndex_48 rfl (lv_at hl 0 rfl) ?_
        refine z_get (v := .int (iI b7_4)) hx hb hts hiX11_readIndex_X11 hown hW 0 7 3 rfl rfl rfl (by decide) rfl dX11_readIndex_49 ?_
        refine z_iadd hx hb dX11_readIndex_52 ?_
        refine z_iald (f := a 12) (i := 3 + b7_4) hx hb hW 3 0 rfl rfl (by decide) ⟨by omega, by omega⟩ dX11_readIndex_53 ?_
        refine z_if_le (tgt := 63) hx hb dX11_readIndex_54 (by decide) ⟨by omega, by omega⟩ (fun c54 => ?_) (fun c54 => ?_)
        · refine lv_aload_n hx hb dX11_readIndex_63 rfl (lv_at hl 0 rfl) ?_
          refine z_get (v := .int (iI b7_4)) hx hb hts hiX11_readIndex_X11 hown hW 0 7 3 rfl rfl rfl (by decide) rfl dX11_readIndex_64 ?_
          refine lv_istore_n (lv' := [(1, .int (iI b7_4)), (0, .ref h)]) hx hb dX11_readIndex_67 rfl hl (by decide) rfl (fun ls hl => ?_)
          refine lv_aload_n hx hb dX11_readIndex_68 rfl (lv_at hl 1 rfl) ?_
          refine z_callV (As := []) (rest := []) F (c_go h q (uV (uV (uV (uV (uV v 4 b4_1) 5 b5_2) 6 b6_3) 7 b7_4) 10 b10_5) a   (show 0 ≤ (v 3) ∧ (v 3) ≤ 640 by omega) (show 0 ≤ b4_1 ∧ b4_1 ≤ (v 3) by omega) hT) gX11_readIndex_X11_go rfl ziX11_go ⟨rfl, rfl, by decide, by decide⟩ rfl hl.1 rfl (Nat.le_of_ble_eq_true rfl) dX11_readIndex_69 ⟨Nat.zero_le _, Nat.zero_le _⟩ hW hA [0, 1, 2, 3, 4, 5, 6, 7, 8, 9, 10] rfl (by decide) (fun _ => rfl) (fun u => mW cI cJ h q (uV (uV (uV (uV (uV v 4 u.1) 5 u.2.1) 6 u.2.2.1) 7 u.2.2.2.1) 10 u.2.2.2.2) a) (fun _ => rfl) (fun u => []) (fun _ => rfl) 0 rfl rfl rfl (fun u H locs hp69 hW => ?_)
          obtain ⟨b4_6, b5_7, b6_8, b7_9, b10_10⟩ := u
          have hp69 : b4_6 = tkB ((a 1)) ((v 3)) (b4_1) ∧ b5_7 = tkP ((a 1)) ((v 3)) (b4_1) ∧ b6_8 = tkS ((a 1)) ((v 3)) (b4_1) ∧ (b6_8 = 2 → b10_10 = tkW ((a 1)) ((v 3)) (b4_1)) ∧ (b6_8 = 3 → b7_9 = tkN ((a 1)) ((v 3)) (b4_1)) := hp69
          have hW : zW G (tyZ cI cJ cO) A s (mW cI cJ h q (uV (uV (uV (uV (uV v 4 b4_6) 5 b5_7) 6 b6_8) 7 b7_9) 10 b10_10) a) H locs := hW
          have hM : MT (a 1) (v 3) (tkB (a 1) (v 3) (tkB (a 1) (v 3) y)) b4_6 b5_7 b6_8 b7_9 b10_10 := MT_go hM hp69
          clear hR hp69
          have hR := MT_Rw hM (by omega) hT
          refine lv_aload_n hx hb dX11_readIndex_72 rfl (lv_at hl 1 rfl) ?_
          refine z_iconst (n := 3) hx hb dX11_readIndex_73 ?_
          refine lv_iload_n hx hb dX11_readIndex_74 rfl (lv_at hl 0 rfl) ?_
          refine z_iadd hx hb dX11_readIndex_75 ?_
          refine z_iconst (n := 1) hx hb dX11_readIndex_76 ?_
          refine z_sipush hx hb dX11_readIndex_77 (by decide +kernel) ?_
          refine z_callV (As := [.int (iI (3 + b7_4)), .int (iI 1), .int (iI 9999)]) (rest := []) F (c_told h q (uV (uV (uV (uV (uV v 4 b4_6) 5 b5_7) 6 b6_8) 7 b7_9) 10 b10_10) a (3 + b7_4) 1 9999 (tkB (a 1) (v 3) (tkB (a 1) (v 3) y)) (show 0 ≤ (v 3) ∧ (v 3) ≤ 640 by omega) hT hM (show 0 ≤ (3 + b7_4) ∧ (3 + b7_4) < 3483 by omega) (show -2147483648 ≤ 1 ∧ 1 < 2147483648 by omega) (show -2147483648 ≤ 9999 ∧ 9999 < 2147483648 by omega)) gX11_readIndex_X11_told rfl ziX11_told ⟨rfl, rfl, by decide, by decide⟩ rfl hl.1 rfl (Nat.le_of_ble_eq_true rfl) dX11_readIndex_80 ⟨Nat.zero_le _, Nat.zero_le _⟩ hW hA [0, 1, 2, 3, 4, 5, 6, 7, 8, 9, 10] rfl (by decide) (fun _ => rfl) (fun u => mW cI cJ h q (uV (uV (uV (uV (uV (uV (uV v 4 u.2.2.2.1) 5 u.2.2.2.2.1) 6 u.2.2.2.2.2.1) 7 u.2.2.2.2.2.2.1) 10 u.2.2.2.2.2.2.2.1) 8 u.2.2.2.2.2.2.2.2.1) 9 u.2.2.2.2.2.2.2.2.2) (uA a 12 u.2.2.1)) (fun _ => rfl) (fun u => [.int (iI (bI (u.1 = 0)))]) (fun _ => rfl) 0 rfl rfl rfl (fun u H locs hp80 hW => ?_)
          obtain ⟨ff_11, yy_12, b12_13, b4_14, b5_15, b6_16, b7_17, b10_18, b8_19, b9_20⟩ := u
          have hp80 : Pnum ((a 1)) ((v 3)) (3 + b7_4) 1 9999 (tkB (a 1) (v 3) (tkB (a 1) (v 3) y)) ((a 12)) = (ff_11, yy_12, b12_13) ∧ MT ((a 1)) ((v 3)) yy_12 b4_14 b5_15 b6_16 b7_17 b10_18 ∧ NF ff_11 b8_19 b9_20 (tkP ((a 1)) ((v 3)) yy_12) ∧ N8 ff_11 b8_19 ((v 8)) := hp80
          have hW : zW G (tyZ cI cJ cO) A s (mW cI cJ h q (uV (uV (uV (uV (uV (uV (uV v 4 b4_14) 5 b5_15) 6 b6_16) 7 b7_17) 10 b10_18) 8 b8_19) 9 b9_20) (uA a 12 b12_13)) H locs := hW
          have hM : MT (a 1) (v 3) yy_12 b4_14 b5_15 b6_16 b7_17 b10_18 := hp80.2.1
          clear hR
          have hR := MT_Rw hM (by omega) hT
          refine z_b_eq (tgt := 102) hx hb dX11_readIndex_83 (by decide) (fun c83 => ?_) (fun c83 => ?_)
          · refine z_iconst (n := 0) hx hb dX11_readIndex_102 ?_
            exact z_zret hx hb hr hlk (by first | exact Or.inl rfl | exact Or.inr rfl | omega) hW (⟨ff_11, yy_12, b12_13, b4_14, b5_15, b6_16, b7_17, b10_18, b8_19, b9_20, v 15⟩) (bI_f c83) (show _ = _ ∧ MT _ _ _ _ _ _ _ _ ∧ NF _ _ _ _ ∧ N8 _ _ _ ∧ N8 _ _ _ from ⟨by unfold Pixl Pix; rw [if_neg c6, if_neg (by have := hMa.2.2.2.1; omega), ← hMa.2.2.2.2.2 c24, if_neg (by omega), hp80.1, bnd_1 c83], hM, hp80.2.2.1, (fun q => absurd q c83), (fun q => absurd q c83)⟩) rfl dX11_readIndex_103
          · refine lv_aload_n hx hb dX11_readIndex_86 rfl (lv_at hl 1 rfl) ?_
            refine z_sipush hx hb dX11_readIndex_87 (by decide +kernel) ?_
            refine lv_iload_n hx hb dX11_readIndex_90 rfl (lv_at hl 0 rfl) ?_
            refine z_iadd hx hb dX11_readIndex_91 ?_
            refine z_iconst (n := 0) hx hb dX11_readIndex_92 ?_
            refine z_sipush hx hb dX11_readIndex_93 (by decide +kernel) ?_
            refine z_callV (As := [.int (iI (243 + b7_4)), .int (iI 0), .int (iI 239)]) (rest := []) F (c_told h q (uV (uV (uV (uV (uV (uV (uV v 4 b4_14) 5 b5_15) 6 b6_16) 7 b7_17) 10 b10_18) 8 b8_19) 9 b9_20) (uA a 12 b12_13) (243 + b7_4) 0 239 yy_12 (show 0 ≤ (v 3) ∧ (v 3) ≤ 640 by omega) hT hM (show 0 ≤ (243 + b7_4) ∧ (243 + b7_4) < 3483 by omega) (show -2147483648 ≤ 0 ∧ 0 < 2147483648 by omega) (show -2147483648 ≤ 239 ∧ 239 < 2147483648 by omega)) gX11_readIndex_X11_told rfl ziX11_told ⟨rfl, rfl, by decide, by decide⟩ rfl hl.1 rfl (Nat.le_of_ble_eq_true rfl) dX11_readIndex_96 ⟨Nat.zero_le _, Nat.zero_le _⟩ hW hA [0, 1, 2, 3, 4, 5, 6, 7, 8, 9, 10] rfl (by decide) (fun _ => rfl) (fun u => mW cI cJ h q (uV (uV (uV (uV (uV (uV (uV v 4 u.2.2.2.1) 5 u.2.2.2.2.1) 6 u.2.2.2.2.2.1) 7 u.2.2.2.2.2.2.1) 10 u.2.2.2.2.2.2.2.1) 8 u.2.2.2.2.2.2.2.2.1) 9 u.2.2.2.2.2.2.2.2.2) (uA a 12 u.2.2.1)) (fun _ => rfl) (fun u => [.int (iI (bI (u.1 = 0)))]) (fun _ => rfl) 0 rfl rfl rfl (fun u H locs hp96 hW => ?_)
            obtain ⟨ff_21, yy_22, b12_23, b4_24, b5_25, b6_26, b7_27, b10_28, b8_29, b9_30⟩ := u
            have hp96 : Pnum ((a 1)) ((v 3)) (243 + b7_4) 0 239 yy_12 (b12_13) = (ff_21, yy_22, b12_23) ∧ MT ((a 1)) ((v 3)) yy_22 b4_24 b5_25 b6_26 b7_27 b10_28 ∧ NF ff_21 b8_29 b9_30 (tkP ((a 1)) ((v 3)) yy_22) ∧ N8 ff_21 b8_29 (b8_19) := hp96
            have hW : zW G (tyZ cI cJ cO) A s (mW cI cJ h q (uV (uV (uV (uV (uV (uV (uV v 4 b4_24) 5 b5_25) 6 b6_26) 7 b7_27) 10 b10_28) 8 b8_29) 9 b9_30) (uA a 12 b12_23)) H locs := hW
            have hM : MT (a 1) (v 3) yy_22 b4_24 b5_25 b6_26 b7_27 b10_28 := hp96.2.1
            clear hR
            have hR := MT_Rw hM (by omega) hT
            refine z_b_ne (tgt := 104) hx hb dX11_readIndex_99 (by decide) (fun c99 => ?_) (fun c99 => ?_)
            · refine lv_aload_n hx hb dX11_readIndex_104 rfl (lv_at hl 1 rfl) ?_
              refine lv_dup hx hb dX11_readIndex_105 rfl ?_
              refine z_get (v := .int (iI (v 15))) hx hb hts hiX11_readIndex_X11 hown hW 0 15 1 rfl rfl rfl (by decide) rfl dX11_readIndex_106 ?_
              refine z_iconst (n := 1) hx hb dX11_readIndex_109 ?_
              refine z_iadd hx hb dX11_readIndex_110 ?_
              refine z_put hx hb hts hiX11_readIndex_X11 tyX11 tyX11_ok nmX11 hown hW 0 15 1 rfl rfl (by decide) (Nat.le_of_ble_eq_true rfl) rfl rfl rfl rfl dX11_readIndex_111 (fun H locs hW => ?_)
              have hW : zW G (tyZ cI cJ cO) A s (mW cI cJ h q (uV (uV (uV (uV (uV (uV (uV (uV v 4 b4_24) 5 b5_25) 6 b6_26) 7 b7_27) 10 b10_28) 8 b8_29) 9 b9_30) 15 ((v 15) + 1)) (uA a 12 b12_23)) H locs := hW
              refine lv_aload_n hx hb dX11_readIndex_114 rfl (lv_at hl 1 rfl) ?_
              refine z_callV (As := []) (rest := []) F (c_readEnd h q (uV (uV (uV (uV (uV (uV (uV (uV v 4 b4_24) 5 b5_25) 6 b6_26) 7 b7_27) 10 b10_28) 8 b8_29) 9 b9_30) 15 ((v 15) + 1)) (uA a 12 b12_23)  yy_22 (show 0 ≤ (v 3) ∧ (v 3) ≤ 640 by omega) hT hM) gX11_readIndex_X11_readEnd rfl ziX11_readEnd ⟨rfl, rfl, by decide, by decide⟩ rfl hl.1 rfl (Nat.le_of_ble_eq_true rfl) dX11_readIndex_115 ⟨Nat.zero_le _, Nat.zero_le _⟩ hW hA [0, 1, 2, 3, 4, 5, 6, 7, 8, 9, 10] rfl (by decide) (fun _ => rfl) (fun u => mW cI cJ h q (uV (uV (uV (uV (uV (uV (uV (uV v 15 ((v 15) + 1)) 4 u.2.2.2.1) 5 u.2.2.2.2.1) 6 u.2.2.2.2.2.1) 7 u.2.2.2.2.2.2.1) 10 u.2.2.2.2.2.2.2.1) 8 u.2.2.2.2.2.2.2.2.1) 9 u.2.2.2.2.2.2.2.2.2) (uA a 12 u.2.2.1)) (fun _ => rfl) (fun u => [.int (iI (bI (u.1 = 0)))]) (fun _ => rfl) 0 rfl rfl rfl (fun u H locs hp115 hW => ?_)
              obtain ⟨ff_31, yy_32, b12_33, b4_34, b5_35, b6_36, b7_37, b10_38, b8_39, b9_40⟩ := u
              have hp115 : Pend ((a 1)) ((v 3)) yy_22 (b12_23) = (ff_31, yy_32, b12_33) ∧ MT ((a 1)) ((v 3)) yy_32 b4_34 b5_35 b6_36 b7_37 b10_38 ∧ NF ff_31 b8_39 b9_40 (tkP ((a 1)) ((v 3)) yy_32) ∧ N8 ff_31 b8_39 (b8_29) := hp115
              have hW : zW G (tyZ cI cJ cO) A s (mW cI cJ h q (uV (uV (uV (uV (uV (uV (uV (uV v 15 ((v 15) + 1)) 4 b4_34) 5 b5_35) 6 b6_36) 7 b7_37) 10 b10_38) 8 b8_39) 9 b9_40) (uA a 12 b12_33)) H locs := hW
              have hM : MT (a 1) (v 3) yy_32 b4_34 b5_35 b6_36 b7_37 b10_38 := hp115.2.1
              clear hR
              have hR := MT_Rw hM (by omega) hT
              exact z_zret hx hb hr hlk (by unfold bI; split <;> omega) hW (⟨ff_31, yy_32, b12_33, b4_34, b5_35, b6_36, b7_37, b10_38, b8_39, b9_40, (v 15) + 1⟩) rfl (show _ = _ ∧ MT _ _ _ _ _ _ _ _ ∧ NF _ _ _ _ ∧ N8 _ _ _ ∧ N8 _ _ _ from ⟨by unfold Pixl Pix; rw [if_neg c6, if_neg (by have := hMa.2.2.2.1; omega), ← hMa.2.2.2.2.2 c24, if_neg (by omega), hp80.1, bnd_0 c83, hp96.1, bnd_0 c99, hp115.1], hM, hp115.2.2.1, (fun q => (hp115.2.2.2 q).trans ((hp96.2.2.2 c99).trans (hp80.2.2.2 c83))), (fun _ => rfl)⟩) rfl dX11_readIndex_118
            · refine z_iconst (n := 0) hx hb dX11_readIndex_102 ?_
              exact z_zret hx hb hr hlk (by first | exact Or.inl rfl | exact Or.inr rfl | omega) hW (⟨ff_21, yy_22, b12_23, b4_24, b5_25, b6_26, b7_27, b10_28, b8_29, b9_30, v 15⟩) (bI_f c99) (show _ = _ ∧ MT _ _ _ _ _ _ _ _ ∧ NF _ _ _ _ ∧ N8 _ _ _ ∧ N8 _ _ _ from ⟨by unfold Pixl Pix; rw [if_neg c6, if_neg (by have := hMa.2.2.2.1; omega), ← hMa.2.2.2.2.2 c24, if_neg (by omega), hp80.1, bnd_0 c83, hp96.1, bnd_1 c99], hM, hp96.2.2.1, (fun q => absurd q c99), (fun q => absurd q c99)⟩) rfl dX11_readIndex_103
        · have hx57 : True := trivial
          refine lv_aload_n hx hb dX11_readIndex_57 rfl (lv_at hl 0 rfl) ?_
          refine z_iconst (n := 2) hx hb dX11_readIndex_58 ?_
          refine z_callV (As := [.int (iI 2)]) (rest := []) F (c_bad h q (uV (uV (uV (uV (uV v 4 b4_1) 5 b5_2) 6 b6_3) 7 b7_4) 10 b10_5) a 2  (show 1 ≤ 2 ∧ 2 ≤ 4 by omega) (show 0 ≤ b6_3 ∧ b6_3 ≤ 4 by omega)) gX11_readIndex_X11_bad rfl ziX11_bad ⟨rfl, rfl, by decide, by decide⟩ rfl hl.1 rfl (Nat.le_of_ble_eq_true rfl) dX11_readIndex_59 ⟨Nat.zero_le _, Nat.zero_le _⟩ hW hA [0, 1, 2, 3, 4, 5, 6, 7, 8, 9, 10] rfl (by decide) (fun _ => rfl) (fun _ => mW cI cJ h q (uV (uV (uV (uV (uV (uV (uV v 4 b4_1) 5 b5_2) 6 b6_3) 7 b7_4) 10 b10_5) 8 (if b6_3 = 1 then 1 else 2)) 9 b5_2) a) (fun _ => rfl) (fun _ => [.int (iI 0)]) (fun _ => rfl) 0 rfl rfl rfl (fun _ H locs hp59 hW => ?_)
          exact z_zret hx hb hr hlk (by first | exact Or.inl rfl | exact Or.inr rfl | omega) hW (⟨2, tkB (a 1) (v 3) y, a 12, b4_1, b5_2, b6_3, b7_4, b10_5, if b6_3 = 1 then 1 else 2, b5_2, v 15⟩) (bI_f (show ¬ (2 : Int) = 0 by decide)) (show _ = _ ∧ MT _ _ _ _ _ _ _ _ ∧ NF _ _ _ _ ∧ N8 _ _ _ ∧ N8 _ _ _ from ⟨by unfold Pixl Pix; rw [if_neg c6, if_neg (by have := hMa.2.2.2.1; omega), ← hMa.2.2.2.2.2 c24, if_pos (by omega)], hM, (fun _ => ⟨(by show (if _ = (1 : Int) then (1 : Int) else _) = _; split <;> omega), hM.2.2.1⟩), (fun q => absurd (show (2 : Int) = 0 from q) (by decide)), (fun q => absurd (show (2 : Int) = 0 from q) (by decide))⟩) rfl dX11_readIndex_62
    · refine lv_aload_n hx hb dX11_readIndex_27 rfl (lv_at hl 0 rfl) ?_
      refine z_iconst (n := 1) hx hb dX11_readIndex_28 ?_
      refine z_callV (As := [.int (iI 1)]) (rest := []) F (c_bad h q (uV (uV (uV (uV (uV v 4 b4_1) 5 b5_2) 6 b6_3) 7 b7_4) 10 b10_5) a 1  (show 1 ≤ 1 ∧ 1 ≤ 4 by omega) (show 0 ≤ b6_3 ∧ b6_3 ≤ 4 by omega)) gX11_readIndex_X11_bad rfl ziX11_bad ⟨rfl, rfl, by decide, by decide⟩ rfl hl.1 rfl (Nat.le_of_ble_eq_true rfl) dX11_readIndex_29 ⟨Nat.zero_le _, Nat.zero_le _⟩ hW hA [0, 1, 2, 3, 4, 5, 6, 7, 8, 9, 10] rfl (by decide) (fun _ => rfl) (fun _ => mW cI cJ h q (uV (uV (uV (uV (uV (uV (uV v 4 b4_1) 5 b5_2) 6 b6_3) 7 b7_4) 10 b10_5) 8 (if b6_3 = 1 then 1 else 1)) 9 b5_2) a) (fun _ => rfl) (fun _ => [.int (iI 0)]) (fun _ => rfl) 0 rfl rfl rfl (fun _ H locs hp29 hW => ?_)
      exact z_zret hx hb hr hlk (by first | exact Or.inl rfl | exact Or.inr rfl | omega) hW (⟨1, tkB (a 1) (v 3) y, a 12, b4_1, b5_2, b6_3, b7_4, b10_5, if b6_3 = 1 then 1 else 1, b5_2, v 15⟩) (bI_f (show ¬ (1 : Int) = 0 by decide)) (show _ = _ ∧ MT _ _ _ _ _ _ _ _ ∧ NF _ _ _ _ ∧ N8 _ _ _ ∧ N8 _ _ _ from ⟨by unfold Pixl Pix; rw [if_neg c6, if_pos (by have := hM.2.2.2.1; omega)], hM, (fun _ => ⟨(by show (if _ = (1 : Int) then (1 : Int) else _) = _; split <;> omega), hM.2.2.1⟩), (fun q => absurd (show (1 : Int) = 0 from q) (by decide)), (fun q => absurd (show (1 : Int) = 0 from q) (by decide))⟩) rfl dX11_readIndex_32
  · refine lv_aload_n hx hb dX11_readIndex_9 rfl (lv_at hl 0 rfl) ?_
    refine z_iconst (n := 3) hx hb dX11_readIndex_10 ?_
    refine z_callV (As := [.int (iI 3)]) (rest := []) F (c_bad h q v a 3  (show 1 ≤ 3 ∧ 3 ≤ 4 by omega) (show 0 ≤ (v 6) ∧ (v 6) ≤ 4 by omega)) gX11_readIndex_X11_bad rfl ziX11_bad ⟨rfl, rfl, by decide, by decide⟩ rfl hl.1 rfl (Nat.le_of_ble_eq_true rfl) dX11_readIndex_11 ⟨Nat.zero_le _, Nat.zero_le _⟩ hW hA [0, 1, 2, 3, 4, 5, 6, 7, 8, 9, 10] rfl (by decide) (fun _ => rfl) (fun _ => mW cI cJ h q (uV (uV v 8 (if (v 6) = 1 then 1 else 3)) 9 (v 5)) a) (fun _ => rfl) (fun _ => [.int (iI 0)]) (fun _ => rfl) 0 rfl rfl rfl (fun _ H locs hp11 hW => ?_)
    exact z_zret hx hb hr hlk (by first | exact Or.inl rfl | exact Or.inr rfl | omega) hW (⟨3, y, a 12, v 4, v 5, v 6, v 7, v 10, if (v 6) = 1 then 1 else 3, (v 5), v 15⟩) (bI_f (show ¬ (3 : Int) = 0 by decide)) (show _ = _ ∧ MT _ _ _ _ _ _ _ _ ∧ NF _ _ _ _ ∧ N8 _ _ _ ∧ N8 _ _ _ from ⟨by unfold Pixl; rw [if_pos c6], hM, (fun _ => ⟨(by show (if _ = (1 : Int) then (1 : Int) else _) = _; split <;> omega), hM.2.2.1⟩), (fun q => absurd (show (3 : Int) = 0 from q) (by decide)), (fun q => absurd (show (3 : Int) = 0 from q) (by decide))⟩) rfl dX11_readIndex_14
