/-! the class: a lease's line and its parts -/
def L5 (ff : Int) (nn : Int → Int) (x c4 c5 c6 c7 c8 : Int) : Prop := ff = 0 → c4 = LF nn x 0 ∧ c5 = LF nn x 1 ∧ c6 = LF nn x 2 ∧ c7 = LF nn x 3 ∧ c8 = LF nn x 4
def LMo (ff : Int) (nn N : Int → Int) (i j c0 c1 c2 : Int) : Prop := ff = 0 → nn = uI (uI N i c1) j c2 ∧ c0 = 1
def BYo (ff : Int) (nn N : Int → Int) (x c9 c10 o10 : Int) : Prop := ff = 0 → (c9 = 2 ∧ c10 = o10 ∧ nn = uI N (483 + 500 * x + 5) 2) ∨ nn = uI (uI N (483 + 500 * x + 5) c9) (483 + 500 * x + 6) c10
theorem PB_iff (k : Int) : PB k ≠ 0 ↔ (k = 8 ∨ k = 12 ∨ k = 13 ∨ k = 14 ∨ k = 15) := by
  constructor
  · intro h
    have := PBc k
    omega
  · intro h
    rcases h with rfl | rfl | rfl | rfl | rfl <;> decide
theorem hiX4_readLeaseLine_X4 : ∀ w ∈ wsX40, w ∈ wsX4_readLeaseLine := fun _ h => List.mem_cons_of_mem _ (List.mem_append_left _ (List.mem_append_left _ (List.mem_append_right _ h)))
theorem hiX4_readLeaseLine_X2 : ∀ w ∈ wsX20, w ∈ wsX4_readLeaseLine := fun _ h => List.mem_cons_of_mem _ (List.mem_append_left _ (List.mem_append_right _ h))
theorem hiX4_readLeaseLine_X7 : ∀ w ∈ wsX70, w ∈ wsX4_readLeaseLine := fun _ h => List.mem_cons_of_mem _ (List.mem_append_right _ h)
theorem ziX4_readLeaseLine : yX4_readLeaseLine.cls = RX4 ∧ yX4_readLeaseLine.cls ≠ "java/lang/invoke/MethodHandle" ∧ yX4_readLeaseLine.cls ≠ "java/lang/invoke/VarHandle" ∧ (parseMethodDescriptor yX4_readLeaseLine.desc).map (fun d => d.parameters.length) = some 1 := by decide +kernel
set_option maxHeartbeats 4000000 in
set_option maxRecDepth 100000 in
theorem c_X4_readLeaseLine {l : Launch} {G : va_G} {cI cJ cO : ClassId} (N : Int → Int) (x : Int) (hd : Nat) (qd : Nat → Nat) (vd : Nat → Int) (ad : Nat → Int → Int) (qo : Nat → Nat) (vo : Nat → Int) (ao : Nat → Int → Int) (he : Nat) (qe : Nat → Nat) (ve : Nat → Int) (ae : Nat → Int → Int)  (T : Int → Int) (z : Int) (y : Int) (hK : TKS T z (ao 0) (ao 1) (ao 2) (vo 3)) (hR : RT T z y (vo 3) (vd 3) (vd 4) (vd 5) (vd 2)) (hk7 : KND T z y = 7) (hx0 : 0 ≤ x) : zC l yX4_readLeaseLine wsX4_readLeaseLine { frames := 2, cells := 0, slots := 0, locals := 43 } G (tyZ cI cJ cO) (S := (Int) × (Int) × (Int → Int) × Int × Int × Int × Int × Int × Int × Int × Int × Int × Int × Int) [.ref hd, .ref he] ((rW cI cJ hd qd vd ad) ++ ((sW cI cJ (qd 0) qo vo ao) ++ (lW cI cJ he qe ve ae))) (zI (fun u => bI (u.1 = 0))) (fun u => Ple T z x (tkB T z y) N = (u.1, u.2.1, u.2.2.1) ∧ RT T z u.2.1 (vo 3) u.2.2.2.2.2.1 u.2.2.2.2.2.2.1 u.2.2.2.2.2.2.2.1 u.2.2.2.2.1 ∧ NF1 u.1 u.2.2.2.1 ∧ N8 u.1 u.2.2.2.1 (vd 1) ∧ L5 u.1 u.2.2.1 x u.2.2.2.2.2.2.2.2.2.1 u.2.2.2.2.2.2.2.2.2.2.1 u.2.2.2.2.2.2.2.2.2.2.2.1 u.2.2.2.2.2.2.2.2.2.2.2.2.1 u.2.2.2.2.2.2.2.2.2.2.2.2.2) (fun u => (rW cI cJ hd qd (uV (uV (uV (uV (uV (uV vd 1 u.2.2.2.1) 2 u.2.2.2.2.1) 3 u.2.2.2.2.2.1) 4 u.2.2.2.2.2.2.1) 5 u.2.2.2.2.2.2.2.1) 6 u.2.2.2.2.2.2.2.2.1) ad) ++ ((sW cI cJ (qd 0) qo vo ao) ++ (lW cI cJ he qe (uV (uV (uV (uV (uV ve 4 u.2.2.2.2.2.2.2.2.2.1) 5 u.2.2.2.2.2.2.2.2.2.2.1) 6 u.2.2.2.2.2.2.2.2.2.2.2.1) 7 u.2.2.2.2.2.2.2.2.2.2.2.2.1) 8 u.2.2.2.2.2.2.2.2.2.2.2.2.2) ae))) 0 0 := by
  refine z_start (cc := cX4_readLeaseLine) (maxL := 2) (ret := (some .boolean)) (by decide) rfl (Nat.le_of_ble_eq_true rfl) ?_
  intro p e s m below meth c A ls F hr hlk hnm hAe hA hW hl
  have hx := F.1
  have hb := F.2.1
  have hown : s.vm.findClass RX4 = some m.cls := F.2.2.2.1
  have hts := F.2.2.2.2
  have hl : lv_has ls 2 [(0, .ref hd), (1, .ref he)] := hl
  have hk9 := KND_R (T := T) (z := z) (y := y)
  have ek9 := hR.2.2.2.1
  refine lv_aload_n hx hb dX4_readLeaseLine_0 rfl (lv_at hl 0 rfl) ?_
  refine z_callV (As := []) (rest := []) F (c_X4_advance  hd qd vd ad qo vo ao  T z y hK hR (show 2 ≤ KND T z y by omega)) gX4_readLeaseLine_X4_advance rfl ziX4_advance ⟨rfl, rfl, by decide, by decide⟩ rfl hl.1 rfl (Nat.le_of_ble_eq_true rfl) dX4_readLeaseLine_1 ⟨Nat.zero_le _, Nat.zero_le _⟩ hW hA [0, 1, 2, 3, 4] rfl (by decide) (fun _ => rfl) (fun u => (rW cI cJ hd qd (uV (uV (uV (uV vd 2 u.1) 3 u.2.1) 4 u.2.2.1) 5 u.2.2.2) ad) ++ ((sW cI cJ (qd 0) qo vo ao) ++ (lW cI cJ he qe ve ae))) (fun _ => rfl) (fun u => []) (fun _ => rfl) 0 rfl rfl rfl (fun u H locs hp1 hW => ?_)
  obtain ⟨b2_1, b3_2, b4_3, b5_4⟩ := u
  have hp1 : RT T z (tkB T z y) ((vo 3)) b3_2 b4_3 b5_4 b2_1 := hp1
  have hW : zW G (tyZ cI cJ cO) A s ((rW cI cJ hd qd (uV (uV (uV (uV vd 2 b2_1) 3 b3_2) 4 b4_3) 5 b5_4) ad) ++ ((sW cI cJ (qd 0) qo vo ao) ++ (lW cI cJ he qe ve ae))) H locs := hW
  have hR : RT T z (tkB T z y) (vo 3) b3_2 b4_3 b5_4 b2_1 := hp1
  clear hp1
  have hy9 := hR.1
  have hk9 := KND_R (T := T) (z := z) (y := tkB T z y)
  have ek9 := hR.2.2.2.1
  refine lv_aload_n hx hb dX4_readLeaseLine_4 rfl (lv_at hl 0 rfl) ?_
  refine z_iconst (n := 0) hx hb dX4_readLeaseLine_5 ?_
  refine z_bipush hx hb dX4_readLeaseLine_6 (by decide +kernel) ?_
  refine z_callV (As := [.int (iI 0), .int (iI 119)]) (rest := []) F (c_X4_takeNumber  hd qd (uV (uV (uV (uV vd 2 b2_1) 3 b3_2) 4 b4_3) 5 b5_4) ad qo vo ao 0 119 T z (tkB T z y) hK hR (show -2147483648 ≤ 0 ∧ 0 < 2147483648 by omega) (show -2147483648 ≤ 119 ∧ 119 < 2147483648 by omega)) gX4_readLeaseLine_X4_takeNumber rfl ziX4_takeNumber ⟨rfl, rfl, by decide, by decide⟩ rfl hl.1 rfl (Nat.le_of_ble_eq_true rfl) dX4_readLeaseLine_8 ⟨Nat.zero_le _, Nat.zero_le _⟩ hW hA [0, 1, 2, 3, 4] rfl (by decide) (fun _ => rfl) (fun u => (rW cI cJ hd qd (uV (uV (uV (uV (uV (uV vd 1 u.2.2.1) 2 u.2.2.2.1) 3 u.2.2.2.2.1) 4 u.2.2.2.2.2.1) 5 u.2.2.2.2.2.2.1) 6 u.2.2.2.2.2.2.2) ad) ++ ((sW cI cJ (qd 0) qo vo ao) ++ (lW cI cJ he qe ve ae))) (fun _ => rfl) (fun u => [.int (iI (bI (u.1 = 0)))]) (fun _ => rfl) 0 rfl rfl rfl (fun u H locs hp8 hW => ?_)
  obtain ⟨ff_5, yy_6, b1_7, b2_8, b3_9, b4_10, b5_11, b6_12⟩ := u
  have hp8 : Ptn T z 0 119 (tkB T z y) = (ff_5, yy_6) ∧ RT T z yy_6 ((vo 3)) b3_9 b4_10 b5_11 b2_8 ∧ NF1 ff_5 b1_7 ∧ N8 ff_5 b1_7 ((vd 1)) ∧ N8 ff_5 b6_12 (tkN T z (tkB T z y)) := hp8
  have hW : zW G (tyZ cI cJ cO) A s ((rW cI cJ hd qd (uV (uV (uV (uV (uV (uV vd 1 b1_7) 2 b2_8) 3 b3_9) 4 b4_10) 5 b5_11) 6 b6_12) ad) ++ ((sW cI cJ (qd 0) qo vo ao) ++ (lW cI cJ he qe ve ae))) H locs := hW
  have hR : RT T z yy_6 (vo 3) b3_9 b4_10 b5_11 b2_8 := hp8.2.1
  have hk9 := KND_R (T := T) (z := z) (y := yy_6)
  have ek9 := hR.2.2.2.1
  refine z_b_ne (tgt := 16) hx hb dX4_readLeaseLine_11 (by decide) (fun c11 => ?_) (fun c11 => ?_)
  · have hp8n := hp8.2.2.2.2 c11
    refine lv_aload_n hx hb dX4_readLeaseLine_16 rfl (lv_at hl 1 rfl) ?_
    refine lv_aload_n hx hb dX4_readLeaseLine_17 rfl (lv_at hl 0 rfl) ?_
    refine z_get (v := .int (iI b6_12)) hx hb hts hiX4_readLeaseLine_X4 hown hW 0 6 1 rfl rfl rfl (by decide) rfl dX4_readLeaseLine_18 ?_
    refine z_put hx hb hts hiX4_readLeaseLine_X2 tyX2 tyX2_ok nmX2 hown hW 5 4 2 rfl rfl (by decide) (Nat.le_of_ble_eq_true rfl) rfl rfl rfl rfl dX4_readLeaseLine_21 (fun H locs hW => ?_)
    have hW : zW G (tyZ cI cJ cO) A s ((rW cI cJ hd qd (uV (uV (uV (uV (uV (uV vd 1 b1_7) 2 b2_8) 3 b3_9) 4 b4_10) 5 b5_11) 6 b6_12) ad) ++ ((sW cI cJ (qd 0) qo vo ao) ++ (lW cI cJ he qe (uV ve 4 b6_12) ae))) H locs := hW
    refine lv_aload_n hx hb dX4_readLeaseLine_24 rfl (lv_at hl 0 rfl) ?_
    refine z_iconst (n := 1) hx hb dX4_readLeaseLine_25 ?_
    refine z_bipush hx hb dX4_readLeaseLine_26 (by decide +kernel) ?_
    refine z_callV (As := [.int (iI 1), .int (iI 120)]) (rest := []) F (c_X4_takeNumber  hd qd (uV (uV (uV (uV (uV (uV vd 1 b1_7) 2 b2_8) 3 b3_9) 4 b4_10) 5 b5_11) 6 b6_12) ad qo vo ao 1 120 T z yy_6 hK hR (show -2147483648 ≤ 1 ∧ 1 < 2147483648 by omega) (show -2147483648 ≤ 120 ∧ 120 < 2147483648 by omega)) gX4_readLeaseLine_X4_takeNumber rfl ziX4_takeNumber ⟨rfl, rfl, by decide, by decide⟩ rfl hl.1 rfl (Nat.le_of_ble_eq_true rfl) dX4_readLeaseLine_28 ⟨Nat.zero_le _, Nat.zero_le _⟩ hW hA [0, 1, 2, 3, 4] rfl (by decide) (fun _ => rfl) (fun u => (rW cI cJ hd qd (uV (uV (uV (uV (uV (uV vd 1 u.2.2.1) 2 u.2.2.2.1) 3 u.2.2.2.2.1) 4 u.2.2.2.2.2.1) 5 u.2.2.2.2.2.2.1) 6 u.2.2.2.2.2.2.2) ad) ++ ((sW cI cJ (qd 0) qo vo ao) ++ (lW cI cJ he qe (uV ve 4 b6_12) ae))) (fun _ => rfl) (fun u => [.int (iI (bI (u.1 = 0)))]) (fun _ => rfl) 0 rfl rfl rfl (fun u H locs hp28 hW => ?_)
    obtain ⟨ff_13, yy_14, b1_15, b2_16, b3_17, b4_18, b5_19, b6_20⟩ := u
    have hp28 : Ptn T z 1 120 yy_6 = (ff_13, yy_14) ∧ RT T z yy_14 ((vo 3)) b3_17 b4_18 b5_19 b2_16 ∧ NF1 ff_13 b1_15 ∧ N8 ff_13 b1_15 (b1_7) ∧ N8 ff_13 b6_20 (tkN T z yy_6) := hp28
    have hW : zW G (tyZ cI cJ cO) A s ((rW cI cJ hd qd (uV (uV (uV (uV (uV (uV vd 1 b1_15) 2 b2_16) 3 b3_17) 4 b4_18) 5 b5_19) 6 b6_20) ad) ++ ((sW cI cJ (qd 0) qo vo ao) ++ (lW cI cJ he qe (uV ve 4 b6_12) ae))) H locs := hW
    have hR : RT T z yy_14 (vo 3) b3_17 b4_18 b5_19 b2_16 := hp28.2.1
    have hk9 := KND_R (T := T) (z := z) (y := yy_14)
    have ek9 := hR.2.2.2.1
    refine z_b_ne (tgt := 36) hx hb dX4_readLeaseLine_31 (by decide) (fun c31 => ?_) (fun c31 => ?_)
    · have hp28n := hp28.2.2.2.2 c31
      have hp28r := (Ptn_0 (p := 0) (N := N) hp28.1 c31).2.1
      refine lv_aload_n hx hb dX4_readLeaseLine_36 rfl (lv_at hl 1 rfl) ?_
      refine lv_aload_n hx hb dX4_readLeaseLine_37 rfl (lv_at hl 0 rfl) ?_
      refine z_get (v := .int (iI b6_20)) hx hb hts hiX4_readLeaseLine_X4 hown hW 0 6 1 rfl rfl rfl (by decide) rfl dX4_readLeaseLine_38 ?_
      refine z_put hx hb hts hiX4_readLeaseLine_X2 tyX2 tyX2_ok nmX2 hown hW 5 5 3 rfl rfl (by decide) (Nat.le_of_ble_eq_true rfl) rfl rfl rfl rfl dX4_readLeaseLine_41 (fun H locs hW => ?_)
      have hW : zW G (tyZ cI cJ cO) A s ((rW cI cJ hd qd (uV (uV (uV (uV (uV (uV vd 1 b1_15) 2 b2_16) 3 b3_17) 4 b4_18) 5 b5_19) 6 b6_20) ad) ++ ((sW cI cJ (qd 0) qo vo ao) ++ (lW cI cJ he qe (uV (uV ve 4 b6_12) 5 b6_20) ae))) H locs := hW
      refine lv_aload_n hx hb dX4_readLeaseLine_44 rfl (lv_at hl 0 rfl) ?_
      refine z_iconst (n := 1) hx hb dX4_readLeaseLine_45 ?_
      refine z_ldc hx hb (99999) hown (hts _ (List.mem_of_getElem? (i := 4) rfl)) (by decide +kernel) dX4_readLeaseLine_46 ?_
      refine z_callV (As := [.int (iI 1), .int (iI 99999)]) (rest := []) F (c_X4_takeNumber  hd qd (uV (uV (uV (uV (uV (uV vd 1 b1_15) 2 b2_16) 3 b3_17) 4 b4_18) 5 b5_19) 6 b6_20) ad qo vo ao 1 99999 T z yy_14 hK hR (show -2147483648 ≤ 1 ∧ 1 < 2147483648 by omega) (show -2147483648 ≤ 99999 ∧ 99999 < 2147483648 by omega)) gX4_readLeaseLine_X4_takeNumber rfl ziX4_takeNumber ⟨rfl, rfl, by decide, by decide⟩ rfl hl.1 rfl (Nat.le_of_ble_eq_true rfl) dX4_readLeaseLine_48 ⟨Nat.zero_le _, Nat.zero_le _⟩ hW hA [0, 1, 2, 3, 4] rfl (by decide) (fun _ => rfl) (fun u => (rW cI cJ hd qd (uV (uV (uV (uV (uV (uV vd 1 u.2.2.1) 2 u.2.2.2.1) 3 u.2.2.2.2.1) 4 u.2.2.2.2.2.1) 5 u.2.2.2.2.2.2.1) 6 u.2.2.2.2.2.2.2) ad) ++ ((sW cI cJ (qd 0) qo vo ao) ++ (lW cI cJ he qe (uV (uV ve 4 b6_12) 5 b6_20) ae))) (fun _ => rfl) (fun u => [.int (iI (bI (u.1 = 0)))]) (fun _ => rfl) 0 rfl rfl rfl (fun u H locs hp48 hW => ?_)
      obtain ⟨ff_21, yy_22, b1_23, b2_24, b3_25, b4_26, b5_27, b6_28⟩ := u
      have hp48 : Ptn T z 1 99999 yy_14 = (ff_21, yy_22) ∧ RT T z yy_22 ((vo 3)) b3_25 b4_26 b5_27 b2_24 ∧ NF1 ff_21 b1_23 ∧ N8 ff_21 b1_23 (b1_15) ∧ N8 ff_21 b6_28 (tkN T z yy_14) := hp48
      have hW : zW G (tyZ cI cJ cO) A s ((rW cI cJ hd qd (uV (uV (uV (uV (uV (uV vd 1 b1_23) 2 b2_24) 3 b3_25) 4 b4_26) 5 b5_27) 6 b6_28) ad) ++ ((sW cI cJ (qd 0) qo vo ao) ++ (lW cI cJ he qe (uV (uV ve 4 b6_12) 5 b6_20) ae))) H locs := hW
      have hR : RT T z yy_22 (vo 3) b3_25 b4_26 b5_27 b2_24 := hp48.2.1
      have hk9 := KND_R (T := T) (z := z) (y := yy_22)
      have ek9 := hR.2.2.2.1
      refine z_b_ne (tgt := 56) hx hb dX4_readLeaseLine_51 (by decide) (fun c51 => ?_) (fun c51 => ?_)
      · have hp48n := hp48.2.2.2.2 c51
        refine lv_aload_n hx hb dX4_readLeaseLine_56 rfl (lv_at hl 1 rfl) ?_
        refine lv_aload_n hx hb dX4_readLeaseLine_57 rfl (lv_at hl 0 rfl) ?_
        refine z_get (v := .int (iI b6_28)) hx hb hts hiX4_readLeaseLine_X4 hown hW 0 6 1 rfl rfl rfl (by decide) rfl dX4_readLeaseLine_58 ?_
        refine z_put hx hb hts hiX4_readLeaseLine_X2 tyX2 tyX2_ok nmX2 hown hW 5 6 5 rfl rfl (by decide) (Nat.le_of_ble_eq_true rfl) rfl rfl rfl rfl dX4_readLeaseLine_61 (fun H locs hW => ?_)
        have hW : zW G (tyZ cI cJ cO) A s ((rW cI cJ hd qd (uV (uV (uV (uV (uV (uV vd 1 b1_23) 2 b2_24) 3 b3_25) 4 b4_26) 5 b5_27) 6 b6_28) ad) ++ ((sW cI cJ (qd 0) qo vo ao) ++ (lW cI cJ he qe (uV (uV (uV ve 4 b6_12) 5 b6_20) 6 b6_28) ae))) H locs := hW
        refine lv_aload_n hx hb dX4_readLeaseLine_64 rfl (lv_at hl 0 rfl) ?_
        refine z_iconst (n := 1) hx hb dX4_readLeaseLine_65 ?_
        refine z_bipush hx hb dX4_readLeaseLine_66 (by decide +kernel) ?_
        refine z_callV (As := [.int (iI 1), .int (iI 60)]) (rest := []) F (c_X4_takeNumber  hd qd (uV (uV (uV (uV (uV (uV vd 1 b1_23) 2 b2_24) 3 b3_25) 4 b4_26) 5 b5_27) 6 b6_28) ad qo vo ao 1 60 T z yy_22 hK hR (show -2147483648 ≤ 1 ∧ 1 < 2147483648 by omega) (show -2147483648 ≤ 60 ∧ 60 < 2147483648 by omega)) gX4_readLeaseLine_X4_takeNumber rfl ziX4_takeNumber ⟨rfl, rfl, by decide, by decide⟩ rfl hl.1 rfl (Nat.le_of_ble_eq_true rfl) dX4_readLeaseLine_68 ⟨Nat.zero_le _, Nat.zero_le _⟩ hW hA [0, 1, 2, 3, 4] rfl (by decide) (fun _ => rfl) (fun u => (rW cI cJ hd qd (uV (uV (uV (uV (uV (uV vd 1 u.2.2.1) 2 u.2.2.2.1) 3 u.2.2.2.2.1) 4 u.2.2.2.2.2.1) 5 u.2.2.2.2.2.2.1) 6 u.2.2.2.2.2.2.2) ad) ++ ((sW cI cJ (qd 0) qo vo ao) ++ (lW cI cJ he qe (uV (uV (uV ve 4 b6_12) 5 b6_20) 6 b6_28) ae))) (fun _ => rfl) (fun u => [.int (iI (bI (u.1 = 0)))]) (fun _ => rfl) 0 rfl rfl rfl (fun u H locs hp68 hW => ?_)
        obtain ⟨ff_29, yy_30, b1_31, b2_32, b3_33, b4_34, b5_35, b6_36⟩ := u
        have hp68 : Ptn T z 1 60 yy_22 = (ff_29, yy_30) ∧ RT T z yy_30 ((vo 3)) b3_33 b4_34 b5_35 b2_32 ∧ NF1 ff_29 b1_31 ∧ N8 ff_29 b1_31 (b1_23) ∧ N8 ff_29 b6_36 (tkN T z yy_22) := hp68
        have hW : zW G (tyZ cI cJ cO) A s ((rW cI cJ hd qd (uV (uV (uV (uV (uV (uV vd 1 b1_31) 2 b2_32) 3 b3_33) 4 b4_34) 5 b5_35) 6 b6_36) ad) ++ ((sW cI cJ (qd 0) qo vo ao) ++ (lW cI cJ he qe (uV (uV (uV ve 4 b6_12) 5 b6_20) 6 b6_28) ae))) H locs := hW
        have hR : RT T z yy_30 (vo 3) b3_33 b4_34 b5_35 b2_32 := hp68.2.1
        have hk9 := KND_R (T := T) (z := z) (y := yy_30)
        have ek9 := hR.2.2.2.1
        refine z_b_ne (tgt := 76) hx hb dX4_readLeaseLine_71 (by decide) (fun c71 => ?_) (fun c71 => ?_)
        · have hp68n := hp68.2.2.2.2 c71
          refine lv_aload_n hx hb dX4_readLeaseLine_76 rfl (lv_at hl 1 rfl) ?_
          refine lv_aload_n hx hb dX4_readLeaseLine_77 rfl (lv_at hl 0 rfl) ?_
          refine z_get (v := .int (iI b6_36)) hx hb hts hiX4_readLeaseLine_X4 hown hW 0 6 1 rfl rfl rfl (by decide) rfl dX4_readLeaseLine_78 ?_
          refine z_put hx hb hts hiX4_readLeaseLine_X2 tyX2 tyX2_ok nmX2 hown hW 5 7 6 rfl rfl (by decide) (Nat.le_of_ble_eq_true rfl) rfl rfl rfl rfl dX4_readLeaseLine_81 (fun H locs hW => ?_)
          have hW : zW G (tyZ cI cJ cO) A s ((rW cI cJ hd qd (uV (uV (uV (uV (uV (uV vd 1 b1_31) 2 b2_32) 3 b3_33) 4 b4_34) 5 b5_35) 6 b6_36) ad) ++ ((sW cI cJ (qd 0) qo vo ao) ++ (lW cI cJ he qe (uV (uV (uV (uV ve 4 b6_12) 5 b6_20) 6 b6_28) 7 b6_36) ae))) H locs := hW
          refine lv_aload_n hx hb dX4_readLeaseLine_84 rfl (lv_at hl 0 rfl) ?_
          refine z_iconst (n := 0) hx hb dX4_readLeaseLine_85 ?_
          refine lv_aload_n hx hb dX4_readLeaseLine_86 rfl (lv_at hl 1 rfl) ?_
          refine z_get (v := .int (iI b6_20)) hx hb hts hiX4_readLeaseLine_X2 hown hW 5 5 3 rfl rfl rfl (by decide) rfl dX4_readLeaseLine_87 ?_
          refine z_callV (As := [.int (iI 0), .int (iI b6_20)]) (rest := []) F (c_X4_takeNumber  hd qd (uV (uV (uV (uV (uV (uV vd 1 b1_31) 2 b2_32) 3 b3_33) 4 b4_34) 5 b5_35) 6 b6_36) ad qo vo ao 0 b6_20 T z yy_30 hK hR (show -2147483648 ≤ 0 ∧ 0 < 2147483648 by omega) (show -2147483648 ≤ b6_20 ∧ b6_20 < 2147483648 by omega)) gX4_readLeaseLine_X4_takeNumber rfl ziX4_takeNumber ⟨rfl, rfl, by decide, by decide⟩ rfl hl.1 rfl (Nat.le_of_ble_eq_true rfl) dX4_readLeaseLine_90 ⟨Nat.zero_le _, Nat.zero_le _⟩ hW hA [0, 1, 2, 3, 4] rfl (by decide) (fun _ => rfl) (fun u => (rW cI cJ hd qd (uV (uV (uV (uV (uV (uV vd 1 u.2.2.1) 2 u.2.2.2.1) 3 u.2.2.2.2.1) 4 u.2.2.2.2.2.1) 5 u.2.2.2.2.2.2.1) 6 u.2.2.2.2.2.2.2) ad) ++ ((sW cI cJ (qd 0) qo vo ao) ++ (lW cI cJ he qe (uV (uV (uV (uV ve 4 b6_12) 5 b6_20) 6 b6_28) 7 b6_36) ae))) (fun _ => rfl) (fun u => [.int (iI (bI (u.1 = 0)))]) (fun _ => rfl) 0 rfl rfl rfl (fun u H locs hp90 hW => ?_)
          obtain ⟨ff_37, yy_38, b1_39, b2_40, b3_41, b4_42, b5_43, b6_44⟩ := u
          have hp90 : Ptn T z 0 b6_20 yy_30 = (ff_37, yy_38) ∧ RT T z yy_38 ((vo 3)) b3_41 b4_42 b5_43 b2_40 ∧ NF1 ff_37 b1_39 ∧ N8 ff_37 b1_39 (b1_31) ∧ N8 ff_37 b6_44 (tkN T z yy_30) := hp90
          have hW : zW G (tyZ cI cJ cO) A s ((rW cI cJ hd qd (uV (uV (uV (uV (uV (uV vd 1 b1_39) 2 b2_40) 3 b3_41) 4 b4_42) 5 b5_43) 6 b6_44) ad) ++ ((sW cI cJ (qd 0) qo vo ao) ++ (lW cI cJ he qe (uV (uV (uV (uV ve 4 b6_12) 5 b6_20) 6 b6_28) 7 b6_36) ae))) H locs := hW
          have hR : RT T z yy_38 (vo 3) b3_41 b4_42 b5_43 b2_40 := hp90.2.1
          have hk9 := KND_R (T := T) (z := z) (y := yy_38)
          have ek9 := hR.2.2.2.1
          refine z_b_ne (tgt := 98) hx hb dX4_readLeaseLine_93 (by decide) (fun c93 => ?_) (fun c93 => ?_)
          · have hp90n := hp90.2.2.2.2 c93
            refine lv_aload_n hx hb dX4_readLeaseLine_98 rfl (lv_at hl 1 rfl) ?_
            refine lv_aload_n hx hb dX4_readLeaseLine_99 rfl (lv_at hl 0 rfl) ?_
            refine z_get (v := .int (iI b6_44)) hx hb hts hiX4_readLeaseLine_X4 hown hW 0 6 1 rfl rfl rfl (by decide) rfl dX4_readLeaseLine_100 ?_
            refine z_put hx hb hts hiX4_readLeaseLine_X2 tyX2 tyX2_ok nmX2 hown hW 5 8 7 rfl rfl (by decide) (Nat.le_of_ble_eq_true rfl) rfl rfl rfl rfl dX4_readLeaseLine_103 (fun H locs hW => ?_)
            have hW : zW G (tyZ cI cJ cO) A s ((rW cI cJ hd qd (uV (uV (uV (uV (uV (uV vd 1 b1_39) 2 b2_40) 3 b3_41) 4 b4_42) 5 b5_43) 6 b6_44) ad) ++ ((sW cI cJ (qd 0) qo vo ao) ++ (lW cI cJ he qe (uV (uV (uV (uV (uV ve 4 b6_12) 5 b6_20) 6 b6_28) 7 b6_36) 8 b6_44) ae))) H locs := hW
            refine lv_aload_n hx hb dX4_readLeaseLine_106 rfl (lv_at hl 0 rfl) ?_
            refine z_iconst (n := 2) hx hb dX4_readLeaseLine_107 ?_
            refine z_callV (As := [.int (iI 2)]) (rest := []) F (c_X4_take  hd qd (uV (uV (uV (uV (uV (uV vd 1 b1_39) 2 b2_40) 3 b3_41) 4 b4_42) 5 b5_43) 6 b6_44) ad qo vo ao 2 T z yy_38 hK hR (show 2 ≤ 2 ∧ 2 ≤ 15 by omega)) gX4_readLeaseLine_X4_take rfl ziX4_take ⟨rfl, rfl, by decide, by decide⟩ rfl hl.1 rfl (Nat.le_of_ble_eq_true rfl) dX4_readLeaseLine_108 ⟨Nat.zero_le _, Nat.zero_le _⟩ hW hA [0, 1, 2, 3, 4] rfl (by decide) (fun _ => rfl) (fun u => (rW cI cJ hd qd (uV (uV (uV (uV (uV (uV vd 1 u.2.2.1) 2 u.2.2.2.1) 3 u.2.2.2.2.1) 4 u.2.2.2.2.2.1) 5 u.2.2.2.2.2.2.1) 6 u.2.2.2.2.2.2.2) ad) ++ ((sW cI cJ (qd 0) qo vo ao) ++ (lW cI cJ he qe (uV (uV (uV (uV (uV ve 4 b6_12) 5 b6_20) 6 b6_28) 7 b6_36) 8 b6_44) ae))) (fun _ => rfl) (fun u => [.int (iI (bI (u.1 = 0)))]) (fun _ => rfl) 0 rfl rfl rfl (fun u H locs hp108 hW => ?_)
            obtain ⟨ff_45, yy_46, b1_47, b2_48, b3_49, b4_50, b5_51, b6_52⟩ := u
            have hp108 : Ptk T z 2 yy_38 = (ff_45, yy_46) ∧ RT T z yy_46 ((vo 3)) b3_49 b4_50 b5_51 b2_48 ∧ NF1 ff_45 b1_47 ∧ N8 ff_45 b1_47 (b1_39) := hp108
            have hW : zW G (tyZ cI cJ cO) A s ((rW cI cJ hd qd (uV (uV (uV (uV (uV (uV vd 1 b1_47) 2 b2_48) 3 b3_49) 4 b4_50) 5 b5_51) 6 b6_52) ad) ++ ((sW cI cJ (qd 0) qo vo ao) ++ (lW cI cJ he qe (uV (uV (uV (uV (uV ve 4 b6_12) 5 b6_20) 6 b6_28) 7 b6_36) 8 b6_44) ae))) H locs := hW
            have hR : RT T z yy_46 (vo 3) b3_49 b4_50 b5_51 b2_48 := hp108.2.1
            have hk9 := KND_R (T := T) (z := z) (y := yy_46)
            have ek9 := hR.2.2.2.1
            exact z_zret hx hb hr hlk (by unfold bI; split <;> omega) hW (⟨ff_45, yy_46, uI (uI (uI (uI (uI (uI N (483 + 500 * x + 0) (tkN T z (tkB T z y))) (483 + 500 * x + 1) (tkN T z yy_6)) (483 + 500 * x + 2) (tkN T z yy_14)) (483 + 500 * x + 3) (tkN T z yy_22)) (483 + 500 * x + 4) (tkN T z yy_30)) 2 ((uI (uI (uI (uI (uI N (483 + 500 * x + 0) (tkN T z (tkB T z y))) (483 + 500 * x + 1) (tkN T z yy_6)) (483 + 500 * x + 2) (tkN T z yy_14)) (483 + 500 * x + 3) (tkN T z yy_22)) (483 + 500 * x + 4) (tkN T z yy_30)) 2 + 1), b1_47, b2_48, b3_49, b4_50, b5_51, b6_52, b6_12, b6_20, b6_28, b6_36, b6_44⟩) rfl (show _ = _ ∧ RT _ _ _ _ _ _ _ _ ∧ NF1 _ _ ∧ N8 _ _ _ ∧ L5 _ _ _ _ _ _ _ _ from ⟨by unfold Ple; rw [(Ptn_0 hp8.1 c11).1, bnd_0 c11, (Ptn_0 hp28.1 c31).1, bnd_0 c31, (Ptn_0 hp48.1 c51).1, bnd_0 c51, (Ptn_0 hp68.1 c71).1, bnd_0 c71, pl_t, ← hp28n, (Ptn_0 hp90.1 c93).1, bnd_0 c93, Ptk_e hp108.1], hR, hp108.2.2.1, (fun q => (hp108.2.2.2 q).trans ((hp90.2.2.2.1 c93).trans ((hp68.2.2.2.1 c71).trans ((hp48.2.2.2.1 c51).trans ((hp28.2.2.2.1 c31).trans (hp8.2.2.2.1 c11)))))), (fun _ => by have L := LE5 (N := N) (x := x) (b := tkN T z (tkB T z y)) (t := tkN T z yy_6) (r := tkN T z yy_14) (e := tkN T z yy_22) (g := tkN T z yy_30) (k := (uI (uI (uI (uI (uI N (483 + 500 * x + 0) (tkN T z (tkB T z y))) (483 + 500 * x + 1) (tkN T z yy_6)) (483 + 500 * x + 2) (tkN T z yy_14)) (483 + 500 * x + 3) (tkN T z yy_22)) (483 + 500 * x + 4) (tkN T z yy_30)) 2 + 1) hx0; exact ⟨hp8n.trans L.1.symm, hp28n.trans L.2.1.symm, hp48n.trans L.2.2.1.symm, hp68n.trans L.2.2.2.1.symm, hp90n.trans L.2.2.2.2.1.symm⟩)⟩) rfl dX4_readLeaseLine_111
          · refine z_iconst (n := 0) hx hb dX4_readLeaseLine_96 ?_
            exact z_zret hx hb hr hlk (by first | exact Or.inl rfl | exact Or.inr rfl | omega) hW (⟨ff_37, yy_38, uI (uI (uI (uI N (483 + 500 * x + 0) (tkN T z (tkB T z y))) (483 + 500 * x + 1) (tkN T z yy_6)) (483 + 500 * x + 2) (tkN T z yy_14)) (483 + 500 * x + 3) (tkN T z yy_22), b1_39, b2_40, b3_41, b4_42, b5_43, b6_44, b6_12, b6_20, b6_28, b6_36, ve 8⟩) (bI_f c93) (show _ = _ ∧ RT _ _ _ _ _ _ _ _ ∧ NF1 _ _ ∧ N8 _ _ _ ∧ L5 _ _ _ _ _ _ _ _ from ⟨by unfold Ple; rw [(Ptn_0 hp8.1 c11).1, bnd_0 c11, (Ptn_0 hp28.1 c31).1, bnd_0 c31, (Ptn_0 hp48.1 c51).1, bnd_0 c51, (Ptn_0 hp68.1 c71).1, bnd_0 c71, pl_t, ← hp28n, Ptn_1 hp90.1 c93, bnd_1 c93], hR, hp90.2.2.1, (fun q => absurd q c93), (fun q => absurd q c93)⟩) rfl dX4_readLeaseLine_97
        · refine z_iconst (n := 0) hx hb dX4_readLeaseLine_74 ?_
          exact z_zret hx hb hr hlk (by first | exact Or.inl rfl | exact Or.inr rfl | omega) hW (⟨ff_29, yy_30, uI (uI (uI N (483 + 500 * x + 0) (tkN T z (tkB T z y))) (483 + 500 * x + 1) (tkN T z yy_6)) (483 + 500 * x + 2) (tkN T z yy_14), b1_31, b2_32, b3_33, b4_34, b5_35, b6_36, b6_12, b6_20, b6_28, ve 7, ve 8⟩) (bI_f c71) (show _ = _ ∧ RT _ _ _ _ _ _ _ _ ∧ NF1 _ _ ∧ N8 _ _ _ ∧ L5 _ _ _ _ _ _ _ _ from ⟨by unfold Ple; rw [(Ptn_0 hp8.1 c11).1, bnd_0 c11, (Ptn_0 hp28.1 c31).1, bnd_0 c31, (Ptn_0 hp48.1 c51).1, bnd_0 c51, Ptn_1 hp68.1 c71, bnd_1 c71], hR, hp68.2.2.1, (fun q => absurd q c71), (fun q => absurd q c71)⟩) rfl dX4_readLeaseLine_75
      · refine z_iconst (n := 0) hx hb dX4_readLeaseLine_54 ?_
        exact z_zret hx hb hr hlk (by first | exact Or.inl rfl | exact Or.inr rfl | omega) hW (⟨ff_21, yy_22, uI (uI N (483 + 500 * x + 0) (tkN T z (tkB T z y))) (483 + 500 * x + 1) (tkN T z yy_6), b1_23, b2_24, b3_25, b4_26, b5_27, b6_28, b6_12, b6_20, ve 6, ve 7, ve 8⟩) (bI_f c51) (show _ = _ ∧ RT _ _ _ _ _ _ _ _ ∧ NF1 _ _ ∧ N8 _ _ _ ∧ L5 _ _ _ _ _ _ _ _ from ⟨by unfold Ple; rw [(Ptn_0 hp8.1 c11).1, bnd_0 c11, (Ptn_0 hp28.1 c31).1, bnd_0 c31, Ptn_1 hp48.1 c51, bnd_1 c51], hR, hp48.2.2.1, (fun q => absurd q c51), (fun q => absurd q c51)⟩) rfl dX4_readLeaseLine_55
    · refine z_iconst (n := 0) hx hb dX4_readLeaseLine_34 ?_
      exact z_zret hx hb hr hlk (by first | exact Or.inl rfl | exact Or.inr rfl | omega) hW (⟨ff_13, yy_14, uI N (483 + 500 * x + 0) (tkN T z (tkB T z y)), b1_15, b2_16, b3_17, b4_18, b5_19, b6_20, b6_12, ve 5, ve 6, ve 7, ve 8⟩) (bI_f c31) (show _ = _ ∧ RT _ _ _ _ _ _ _ _ ∧ NF1 _ _ ∧ N8 _ _ _ ∧ L5 _ _ _ _ _ _ _ _ from ⟨by unfold Ple; rw [(Ptn_0 hp8.1 c11).1, bnd_0 c11, Ptn_1 hp28.1 c31, bnd_1 c31], hR, hp28.2.2.1, (fun q => absurd q c31), (fun q => absurd q c31)⟩) rfl dX4_readLeaseLine_35
  · refine z_iconst (n := 0) hx hb dX4_readLeaseLine_14 ?_
    exact z_zret hx hb hr hlk (by first | exact Or.inl rfl | exact Or.inr rfl | omega) hW (⟨ff_5, yy_6, N, b1_7, b2_8, b3_9, b4_10, b5_11, b6_12, ve 4, ve 5, ve 6, ve 7, ve 8⟩) (bI_f c11) (show _ = _ ∧ RT _ _ _ _ _ _ _ _ ∧ NF1 _ _ ∧ N8 _ _ _ ∧ L5 _ _ _ _ _ _ _ _ from ⟨by unfold Ple; rw [Ptn_1 hp8.1 c11, bnd_1 c11], hR, hp8.2.2.1, (fun q => absurd q c11), (fun q => absurd q c11)⟩) rfl dX4_readLeaseLine_15
theorem hiX4_readLimits_X4 : ∀ w ∈ wsX40, w ∈ wsX4_readLimits := fun _ h => List.mem_cons_of_mem _ (List.mem_append_left _ (List.mem_append_left _ (List.mem_append_right _ h)))
theorem hiX4_readLimits_X3 : ∀ w ∈ wsX30, w ∈ wsX4_readLimits := fun _ h => List.mem_cons_of_mem _ (List.mem_append_left _ (List.mem_append_right _ h))
theorem hiX4_readLimits_X7 : ∀ w ∈ wsX70, w ∈ wsX4_readLimits := fun _ h => List.mem_cons_of_mem _ (List.mem_append_right _ h)
theorem ziX4_readLimits : yX4_readLimits.cls = RX4 ∧ yX4_readLimits.cls ≠ "java/lang/invoke/MethodHandle" ∧ yX4_readLimits.cls ≠ "java/lang/invoke/VarHandle" ∧ (parseMethodDescriptor yX4_readLimits.desc).map (fun d => d.parameters.length) = some 1 := by decide +kernel
set_option maxHeartbeats 4000000 in
set_option maxRecDepth 100000 in
theorem c_X4_readLimits {l : Launch} {G : va_G} {cI cJ cO : ClassId} (N : Int → Int) (hd : Nat) (qd : Nat → Nat) (vd : Nat → Int) (ad : Nat → Int → Int) (qo : Nat → Nat) (vo : Nat → Int) (ao : Nat → Int → Int) (he : Nat) (qe : Nat → Nat) (ve : Nat → Int) (ae : Nat → Int → Int)  (T : Int → Int) (z : Int) (y : Int) (i : Int) (j : Int) (hK : TKS T z (ao 0) (ao 1) (ao 2) (vo 3)) (hR : RT T z y (vo 3) (vd 3) (vd 4) (vd 5) (vd 2)) : zC l yX4_readLimits wsX4_readLimits { frames := 2, cells := 0, slots := 0, locals := 43 } G (tyZ cI cJ cO) (S := (Int) × (Int) × (Int → Int) × Int × Int × Int × Int × Int × Int × Int × Int × Int) [.ref hd, .ref (qe 0)] ((rW cI cJ hd qd vd ad) ++ ((sW cI cJ (qd 0) qo vo ao) ++ (lW cI cJ he qe ve ae))) (zI (fun u => bI (u.1 = 0))) (fun u => (bnd (Pnum T z i 0 999 y N) fun y1 N1 => Pnum T z j 0 999 y1 N1) = (u.1, u.2.1, u.2.2.1) ∧ RT T z u.2.1 (vo 3) u.2.2.2.2.2.1 u.2.2.2.2.2.2.1 u.2.2.2.2.2.2.2.1 u.2.2.2.2.1 ∧ NF1 u.1 u.2.2.2.1 ∧ N8 u.1 u.2.2.2.1 (vd 1) ∧ LMo u.1 u.2.2.1 N i j u.2.2.2.2.2.2.2.2.2.1 u.2.2.2.2.2.2.2.2.2.2.1 u.2.2.2.2.2.2.2.2.2.2.2) (fun u => (rW cI cJ hd qd (uV (uV (uV (uV (uV (uV vd 1 u.2.2.2.1) 2 u.2.2.2.2.1) 3 u.2.2.2.2.2.1) 4 u.2.2.2.2.2.2.1) 5 u.2.2.2.2.2.2.2.1) 6 u.2.2.2.2.2.2.2.2.1) ad) ++ ((sW cI cJ (qd 0) qo vo ao) ++ (lW cI cJ he qe (uV (uV (uV ve 20 u.2.2.2.2.2.2.2.2.2.1) 21 u.2.2.2.2.2.2.2.2.2.2.1) 22 u.2.2.2.2.2.2.2.2.2.2.2) ae))) 0 0 := by
  refine z_start (cc := cX4_readLimits) (maxL := 2) (ret := (some .boolean)) (by decide) rfl (Nat.le_of_ble_eq_true rfl) ?_
  intro p e s m below meth c A ls F hr hlk hnm hAe hA hW hl
  have hx := F.1
  have hb := F.2.1
  have hown : s.vm.findClass RX4 = some m.cls := F.2.2.2.1
  have hts := F.2.2.2.2
  have hl : lv_has ls 2 [(0, .ref hd), (1, .ref (qe 0))] := hl
  have hk9 := KND_R (T := T) (z := z) (y := y)
  have ek9 := hR.2.2.2.1
  refine lv_aload_n hx hb dX4_readLimits_0 rfl (lv_at hl 0 rfl) ?_
  refine z_iconst (n := 0) hx hb dX4_readLimits_1 ?_
  refine z_sipush hx hb dX4_readLimits_2 (by decide +kernel) ?_
  refine z_callV (As := [.int (iI 0), .int (iI 999)]) (rest := []) F (c_X4_takeNumber  hd qd vd ad qo vo ao 0 999 T z y hK hR (show -2147483648 ≤ 0 ∧ 0 < 2147483648 by omega) (show -2147483648 ≤ 999 ∧ 999 < 2147483648 by omega)) gX4_readLimits_X4_takeNumber rfl ziX4_takeNumber ⟨rfl, rfl, by decide, by decide⟩ rfl hl.1 rfl (Nat.le_of_ble_eq_true rfl) dX4_readLimits_5 ⟨Nat.zero_le _, Nat.zero_le _⟩ hW hA [0, 1, 2, 3, 4] rfl (by decide) (fun _ => rfl) (fun u => (rW cI cJ hd qd (uV (uV (uV (uV (uV (uV vd 1 u.2.2.1) 2 u.2.2.2.1) 3 u.2.2.2.2.1) 4 u.2.2.2.2.2.1) 5 u.2.2.2.2.2.2.1) 6 u.2.2.2.2.2.2.2) ad) ++ ((sW cI cJ (qd 0) qo vo ao) ++ (lW cI cJ he qe ve ae))) (fun _ => rfl) (fun u => [.int (iI (bI (u.1 = 0)))]) (fun _ => rfl) 0 rfl rfl rfl (fun u H locs hp5 hW => ?_)
  obtain ⟨ff_1, yy_2, b1_3, b2_4, b3_5, b4_6, b5_7, b6_8⟩ := u
  have hp5 : Ptn T z 0 999 y = (ff_1, yy_2) ∧ RT T z yy_2 ((vo 3)) b3_5 b4_6 b5_7 b2_4 ∧ NF1 ff_1 b1_3 ∧ N8 ff_1 b1_3 ((vd 1)) ∧ N8 ff_1 b6_8 (tkN T z y) := hp5
  have hW : zW G (tyZ cI cJ cO) A s ((rW cI cJ hd qd (uV (uV (uV (uV (uV (uV vd 1 b1_3) 2 b2_4) 3 b3_5) 4 b4_6) 5 b5_7) 6 b6_8) ad) ++ ((sW cI cJ (qd 0) qo vo ao) ++ (lW cI cJ he qe ve ae))) H locs := hW
  have hR : RT T z yy_2 (vo 3) b3_5 b4_6 b5_7 b2_4 := hp5.2.1
  have hk9 := KND_R (T := T) (z := z) (y := yy_2)
  have ek9 := hR.2.2.2.1
  refine z_b_ne (tgt := 13) hx hb dX4_readLimits_8 (by decide) (fun c8 => ?_) (fun c8 => ?_)
  · refine lv_aload_n hx hb dX4_readLimits_13 rfl (lv_at hl 1 rfl) ?_
    refine lv_aload_n hx hb dX4_readLimits_14 rfl (lv_at hl 0 rfl) ?_
    refine z_get (v := .int (iI b6_8)) hx hb hts hiX4_readLimits_X4 hown hW 0 6 1 rfl rfl rfl (by decide) rfl dX4_readLimits_15 ?_
    refine z_put hx hb hts hiX4_readLimits_X3 tyX3 tyX3_ok nmX3 hown hW 6 1 2 rfl rfl (by decide) (Nat.le_of_ble_eq_true rfl) rfl rfl rfl rfl dX4_readLimits_18 (fun H locs hW => ?_)
    have hW : zW G (tyZ cI cJ cO) A s ((rW cI cJ hd qd (uV (uV (uV (uV (uV (uV vd 1 b1_3) 2 b2_4) 3 b3_5) 4 b4_6) 5 b5_7) 6 b6_8) ad) ++ ((sW cI cJ (qd 0) qo vo ao) ++ (lW cI cJ he qe (uV ve 21 b6_8) ae))) H locs := hW
    refine lv_aload_n hx hb dX4_readLimits_21 rfl (lv_at hl 0 rfl) ?_
    refine z_iconst (n := 0) hx hb dX4_readLimits_22 ?_
    refine z_sipush hx hb dX4_readLimits_23 (by decide +kernel) ?_
    refine z_callV (As := [.int (iI 0), .int (iI 999)]) (rest := []) F (c_X4_takeNumber  hd qd (uV (uV (uV (uV (uV (uV vd 1 b1_3) 2 b2_4) 3 b3_5) 4 b4_6) 5 b5_7) 6 b6_8) ad qo vo ao 0 999 T z yy_2 hK hR (show -2147483648 ≤ 0 ∧ 0 < 2147483648 by omega) (show -2147483648 ≤ 999 ∧ 999 < 2147483648 by omega)) gX4_readLimits_X4_takeNumber rfl ziX4_takeNumber ⟨rfl, rfl, by decide, by decide⟩ rfl hl.1 rfl (Nat.le_of_ble_eq_true rfl) dX4_readLimits_26 ⟨Nat.zero_le _, Nat.zero_le _⟩ hW hA [0, 1, 2, 3, 4] rfl (by decide) (fun _ => rfl) (fun u => (rW cI cJ hd qd (uV (uV (uV (uV (uV (uV vd 1 u.2.2.1) 2 u.2.2.2.1) 3 u.2.2.2.2.1) 4 u.2.2.2.2.2.1) 5 u.2.2.2.2.2.2.1) 6 u.2.2.2.2.2.2.2) ad) ++ ((sW cI cJ (qd 0) qo vo ao) ++ (lW cI cJ he qe (uV ve 21 b6_8) ae))) (fun _ => rfl) (fun u => [.int (iI (bI (u.1 = 0)))]) (fun _ => rfl) 0 rfl rfl rfl (fun u H locs hp26 hW => ?_)
    obtain ⟨ff_9, yy_10, b1_11, b2_12, b3_13, b4_14, b5_15, b6_16⟩ := u
    have hp26 : Ptn T z 0 999 yy_2 = (ff_9, yy_10) ∧ RT T z yy_10 ((vo 3)) b3_13 b4_14 b5_15 b2_12 ∧ NF1 ff_9 b1_11 ∧ N8 ff_9 b1_11 (b1_3) ∧ N8 ff_9 b6_16 (tkN T z yy_2) := hp26
    have hW : zW G (tyZ cI cJ cO) A s ((rW cI cJ hd qd (uV (uV (uV (uV (uV (uV vd 1 b1_11) 2 b2_12) 3 b3_13) 4 b4_14) 5 b5_15) 6 b6_16) ad) ++ ((sW cI cJ (qd 0) qo vo ao) ++ (lW cI cJ he qe (uV ve 21 b6_8) ae))) H locs := hW
    have hR : RT T z yy_10 (vo 3) b3_13 b4_14 b5_15 b2_12 := hp26.2.1
    have hk9 := KND_R (T := T) (z := z) (y := yy_10)
    have ek9 := hR.2.2.2.1
    refine z_b_ne (tgt := 34) hx hb dX4_readLimits_29 (by decide) (fun c29 => ?_) (fun c29 => ?_)
    · refine lv_aload_n hx hb dX4_readLimits_34 rfl (lv_at hl 1 rfl) ?_
      refine lv_aload_n hx hb dX4_readLimits_35 rfl (lv_at hl 0 rfl) ?_
      refine z_get (v := .int (iI b6_16)) hx hb hts hiX4_readLimits_X4 hown hW 0 6 1 rfl rfl rfl (by decide) rfl dX4_readLimits_36 ?_
      refine z_put hx hb hts hiX4_readLimits_X3 tyX3 tyX3_ok nmX3 hown hW 6 2 3 rfl rfl (by decide) (Nat.le_of_ble_eq_true rfl) rfl rfl rfl rfl dX4_readLimits_39 (fun H locs hW => ?_)
      have hW : zW G (tyZ cI cJ cO) A s ((rW cI cJ hd qd (uV (uV (uV (uV (uV (uV vd 1 b1_11) 2 b2_12) 3 b3_13) 4 b4_14) 5 b5_15) 6 b6_16) ad) ++ ((sW cI cJ (qd 0) qo vo ao) ++ (lW cI cJ he qe (uV (uV ve 21 b6_8) 22 b6_16) ae))) H locs := hW
      refine lv_aload_n hx hb dX4_readLimits_42 rfl (lv_at hl 1 rfl) ?_
      refine z_iconst (n := 1) hx hb dX4_readLimits_43 ?_
      refine z_put hx hb hts hiX4_readLimits_X3 tyX3 tyX3_ok nmX3 hown hW 6 0 4 rfl rfl (by decide) (Nat.le_of_ble_eq_true rfl) rfl rfl (by decide +kernel) (by decide +kernel) dX4_readLimits_44 (fun H locs hW => ?_)
      have hW : zW G (tyZ cI cJ cO) A s ((rW cI cJ hd qd (uV (uV (uV (uV (uV (uV vd 1 b1_11) 2 b2_12) 3 b3_13) 4 b4_14) 5 b5_15) 6 b6_16) ad) ++ ((sW cI cJ (qd 0) qo vo ao) ++ (lW cI cJ he qe (uV (uV (uV ve 21 b6_8) 22 b6_16) 20 1) ae))) H locs := hW
      refine z_iconst (n := 1) hx hb dX4_readLimits_47 ?_
      exact z_zret hx hb hr hlk (by first | exact Or.inl rfl | exact Or.inr rfl | omega) hW (⟨ff_9, yy_10, uI (uI N i (tkN T z y)) j (tkN T z yy_2), b1_11, b2_12, b3_13, b4_14, b5_15, b6_16, 1, b6_8, b6_16⟩) (bI_t c29) (show _ = _ ∧ RT _ _ _ _ _ _ _ _ ∧ NF1 _ _ ∧ N8 _ _ _ ∧ LMo _ _ _ _ _ _ _ _ from ⟨by rw [(Ptn_0 hp5.1 c8).1, bnd_0 c8, (Ptn_0 hp26.1 c29).1], hR, (fun q => absurd c29 q), (fun q => (hp26.2.2.2.1 q).trans (hp5.2.2.2.1 c8)), (fun _ => ⟨by rw [← hp5.2.2.2.2 c8, ← hp26.2.2.2.2 c29], rfl⟩)⟩) rfl dX4_readLimits_48
    · refine z_iconst (n := 0) hx hb dX4_readLimits_32 ?_
      exact z_zret hx hb hr hlk (by first | exact Or.inl rfl | exact Or.inr rfl | omega) hW (⟨ff_9, yy_10, uI N i (tkN T z y), b1_11, b2_12, b3_13, b4_14, b5_15, b6_16, ve 20, b6_8, ve 22⟩) (bI_f c29) (show _ = _ ∧ RT _ _ _ _ _ _ _ _ ∧ NF1 _ _ ∧ N8 _ _ _ ∧ LMo _ _ _ _ _ _ _ _ from ⟨by rw [(Ptn_0 hp5.1 c8).1, bnd_0 c8, Ptn_1 hp26.1 c29], hR, hp26.2.2.1, (fun q => absurd q c29), (fun q => absurd q c29)⟩) rfl dX4_readLimits_33
  · refine z_iconst (n := 0) hx hb dX4_readLimits_11 ?_
    exact z_zret hx hb hr hlk (by first | exact Or.inl rfl | exact Or.inr rfl | omega) hW (⟨ff_1, yy_2, N, b1_3, b2_4, b3_5, b4_6, b5_7, b6_8, ve 20, ve 21, ve 22⟩) (bI_f c8) (show _ = _ ∧ RT _ _ _ _ _ _ _ _ ∧ NF1 _ _ ∧ N8 _ _ _ ∧ LMo _ _ _ _ _ _ _ _ from ⟨by rw [Ptn_1 hp5.1 c8, bnd_1 c8], hR, hp5.2.2.1, (fun q => absurd q c8), (fun q => absurd q c8)⟩) rfl dX4_readLimits_12
set_option maxHeartbeats 4000000 in
set_option maxRecDepth 100000 in
theorem c_X4_readLimitso {l : Launch} {G : va_G} {cI cJ cO : ClassId} (N : Int → Int) (hd : Nat) (qd : Nat → Nat) (vd : Nat → Int) (ad : Nat → Int → Int) (qo : Nat → Nat) (vo : Nat → Int) (ao : Nat → Int → Int) (he : Nat) (qe : Nat → Nat) (ve : Nat → Int) (ae : Nat → Int → Int)  (T : Int → Int) (z : Int) (y : Int) (i : Int) (j : Int) (hK : TKS T z (ao 0) (ao 1) (ao 2) (vo 3)) (hR : RT T z y (vo 3) (vd 3) (vd 4) (vd 5) (vd 2)) : zC l yX4_readLimits wsX4_readLimits { frames := 2, cells := 0, slots := 0, locals := 43 } G (tyZ cI cJ cO) (S := (Int) × (Int) × (Int → Int) × Int × Int × Int × Int × Int × Int × Int × Int × Int) [.ref hd, .ref (qe 1)] ((rW cI cJ hd qd vd ad) ++ ((sW cI cJ (qd 0) qo vo ao) ++ (lW cI cJ he qe ve ae))) (zI (fun u => bI (u.1 = 0))) (fun u => (bnd (Pnum T z i 0 999 y N) fun y1 N1 => Pnum T z j 0 999 y1 N1) = (u.1, u.2.1, u.2.2.1) ∧ RT T z u.2.1 (vo 3) u.2.2.2.2.2.1 u.2.2.2.2.2.2.1 u.2.2.2.2.2.2.2.1 u.2.2.2.2.1 ∧ NF1 u.1 u.2.2.2.1 ∧ N8 u.1 u.2.2.2.1 (vd 1) ∧ LMo u.1 u.2.2.1 N i j u.2.2.2.2.2.2.2.2.2.1 u.2.2.2.2.2.2.2.2.2.2.1 u.2.2.2.2.2.2.2.2.2.2.2) (fun u => (rW cI cJ hd qd (uV (uV (uV (uV (uV (uV vd 1 u.2.2.2.1) 2 u.2.2.2.2.1) 3 u.2.2.2.2.2.1) 4 u.2.2.2.2.2.2.1) 5 u.2.2.2.2.2.2.2.1) 6 u.2.2.2.2.2.2.2.2.1) ad) ++ ((sW cI cJ (qd 0) qo vo ao) ++ (lW cI cJ he qe (uV (uV (uV ve 30 u.2.2.2.2.2.2.2.2.2.1) 31 u.2.2.2.2.2.2.2.2.2.2.1) 32 u.2.2.2.2.2.2.2.2.2.2.2) ae))) 0 0 := by
  refine z_start (cc := cX4_readLimits) (maxL := 2) (ret := (some .boolean)) (by decide) rfl (Nat.le_of_ble_eq_true rfl) ?_
  intro p e s m below meth c A ls F hr hlk hnm hAe hA hW hl
  have hx := F.1
  have hb := F.2.1
  have hown : s.vm.findClass RX4 = some m.cls := F.2.2.2.1
  have hts := F.2.2.2.2
  have hl : lv_has ls 2 [(0, .ref hd), (1, .ref (qe 1))] := hl
  have hk9 := KND_R (T := T) (z := z) (y := y)
  have ek9 := hR.2.2.2.1
  refine lv_aload_n hx hb dX4_readLimits_0 rfl (lv_at hl 0 rfl) ?_
  refine z_iconst (n := 0) hx hb dX4_readLimits_1 ?_
  refine z_sipush hx hb dX4_readLimits_2 (by decide +kernel) ?_
  refine z_callV (As := [.int (iI 0), .int (iI 999)]) (rest := []) F (c_X4_takeNumber  hd qd vd ad qo vo ao 0 999 T z y hK hR (show -2147483648 ≤ 0 ∧ 0 < 2147483648 by omega) (show -2147483648 ≤ 999 ∧ 999 < 2147483648 by omega)) gX4_readLimits_X4_takeNumber rfl ziX4_takeNumber ⟨rfl, rfl, by decide, by decide⟩ rfl hl.1 rfl (Nat.le_of_ble_eq_true rfl) dX4_readLimits_5 ⟨Nat.zero_le _, Nat.zero_le _⟩ hW hA [0, 1, 2, 3, 4] rfl (by decide) (fun _ => rfl) (fun u => (rW cI cJ hd qd (uV (uV (uV (uV (uV (uV vd 1 u.2.2.1) 2 u.2.2.2.1) 3 u.2.2.2.2.1) 4 u.2.2.2.2.2.1) 5 u.2.2.2.2.2.2.1) 6 u.2.2.2.2.2.2.2) ad) ++ ((sW cI cJ (qd 0) qo vo ao) ++ (lW cI cJ he qe ve ae))) (fun _ => rfl) (fun u => [.int (iI (bI (u.1 = 0)))]) (fun _ => rfl) 0 rfl rfl rfl (fun u H locs hp5 hW => ?_)
  obtain ⟨ff_1, yy_2, b1_3, b2_4, b3_5, b4_6, b5_7, b6_8⟩ := u
  have hp5 : Ptn T z 0 999 y = (ff_1, yy_2) ∧ RT T z yy_2 ((vo 3)) b3_5 b4_6 b5_7 b2_4 ∧ NF1 ff_1 b1_3 ∧ N8 ff_1 b1_3 ((vd 1)) ∧ N8 ff_1 b6_8 (tkN T z y) := hp5
  have hW : zW G (tyZ cI cJ cO) A s ((rW cI cJ hd qd (uV (uV (uV (uV (uV (uV vd 1 b1_3) 2 b2_4) 3 b3_5) 4 b4_6) 5 b5_7) 6 b6_8) ad) ++ ((sW cI cJ (qd 0) qo vo ao) ++ (lW cI cJ he qe ve ae))) H locs := hW
  have hR : RT T z yy_2 (vo 3) b3_5 b4_6 b5_7 b2_4 := hp5.2.1
  have hk9 := KND_R (T := T) (z := z) (y := yy_2)
  have ek9 := hR.2.2.2.1
  refine z_b_ne (tgt := 13) hx hb dX4_readLimits_8 (by decide) (fun c8 => ?_) (fun c8 => ?_)
  · refine lv_aload_n hx hb dX4_readLimits_13 rfl (lv_at hl 1 rfl) ?_
    refine lv_aload_n hx hb dX4_readLimits_14 rfl (lv_at hl 0 rfl) ?_
    refine z_get (v := .int (iI b6_8)) hx hb hts hiX4_readLimits_X4 hown hW 0 6 1 rfl rfl rfl (by decide) rfl dX4_readLimits_15 ?_
    refine z_put hx hb hts hiX4_readLimits_X3 tyX3 tyX3_ok nmX3 hown hW 7 1 2 rfl rfl (by decide) (Nat.le_of_ble_eq_true rfl) rfl rfl rfl rfl dX4_readLimits_18 (fun H locs hW => ?_)
    have hW : zW G (tyZ cI cJ cO) A s ((rW cI cJ hd qd (uV (uV (uV (uV (uV (uV vd 1 b1_3) 2 b2_4) 3 b3_5) 4 b4_6) 5 b5_7) 6 b6_8) ad) ++ ((sW cI cJ (qd 0) qo vo ao) ++ (lW cI cJ he qe (uV ve 31 b6_8) ae))) H locs := hW
    refine lv_aload_n hx hb dX4_readLimits_21 rfl (lv_at hl 0 rfl) ?_
    refine z_iconst (n := 0) hx hb dX4_readLimits_22 ?_
    refine z_sipush hx hb dX4_readLimits_23 (by decide +kernel) ?_
    refine z_callV (As := [.int (iI 0), .int (iI 999)]) (rest := []) F (c_X4_takeNumber  hd qd (uV (uV (uV (uV (uV (uV vd 1 b1_3) 2 b2_4) 3 b3_5) 4 b4_6) 5 b5_7) 6 b6_8) ad qo vo ao 0 999 T z yy_2 hK hR (show -2147483648 ≤ 0 ∧ 0 < 2147483648 by omega) (show -2147483648 ≤ 999 ∧ 999 < 2147483648 by omega)) gX4_readLimits_X4_takeNumber rfl ziX4_takeNumber ⟨rfl, rfl, by decide, by decide⟩ rfl hl.1 rfl (Nat.le_of_ble_eq_true rfl) dX4_readLimits_26 ⟨Nat.zero_le _, Nat.zero_le _⟩ hW hA [0, 1, 2, 3, 4] rfl (by decide) (fun _ => rfl) (fun u => (rW cI cJ hd qd (uV (uV (uV (uV (uV (uV vd 1 u.2.2.1) 2 u.2.2.2.1) 3 u.2.2.2.2.1) 4 u.2.2.2.2.2.1) 5 u.2.2.2.2.2.2.1) 6 u.2.2.2.2.2.2.2) ad) ++ ((sW cI cJ (qd 0) qo vo ao) ++ (lW cI cJ he qe (uV ve 31 b6_8) ae))) (fun _ => rfl) (fun u => [.int (iI (bI (u.1 = 0)))]) (fun _ => rfl) 0 rfl rfl rfl (fun u H locs hp26 hW => ?_)
    obtain ⟨ff_9, yy_10, b1_11, b2_12, b3_13, b4_14, b5_15, b6_16⟩ := u
    have hp26 : Ptn T z 0 999 yy_2 = (ff_9, yy_10) ∧ RT T z yy_10 ((vo 3)) b3_13 b4_14 b5_15 b2_12 ∧ NF1 ff_9 b1_11 ∧ N8 ff_9 b1_11 (b1_3) ∧ N8 ff_9 b6_16 (tkN T z yy_2) := hp26
    have hW : zW G (tyZ cI cJ cO) A s ((rW cI cJ hd qd (uV (uV (uV (uV (uV (uV vd 1 b1_11) 2 b2_12) 3 b3_13) 4 b4_14) 5 b5_15) 6 b6_16) ad) ++ ((sW cI cJ (qd 0) qo vo ao) ++ (lW cI cJ he qe (uV ve 31 b6_8) ae))) H locs := hW
    have hR : RT T z yy_10 (vo 3) b3_13 b4_14 b5_15 b2_12 := hp26.2.1
    have hk9 := KND_R (T := T) (z := z) (y := yy_10)
    have ek9 := hR.2.2.2.1
    refine z_b_ne (tgt := 34) hx hb dX4_readLimits_29 (by decide) (fun c29 => ?_) (fun c29 => ?_)
    · refine lv_aload_n hx hb dX4_readLimits_34 rfl (lv_at hl 1 rfl) ?_
      refine lv_aload_n hx hb dX4_readLimits_35 rfl (lv_at hl 0 rfl) ?_
      refine z_get (v := .int (iI b6_16)) hx hb hts hiX4_readLimits_X4 hown hW 0 6 1 rfl rfl rfl (by decide) rfl dX4_readLimits_36 ?_
      refine z_put hx hb hts hiX4_readLimits_X3 tyX3 tyX3_ok nmX3 hown hW 7 2 3 rfl rfl (by decide) (Nat.le_of_ble_eq_true rfl) rfl rfl rfl rfl dX4_readLimits_39 (fun H locs hW => ?_)
      have hW : zW G (tyZ cI cJ cO) A s ((rW cI cJ hd qd (uV (uV (uV (uV (uV (uV vd 1 b1_11) 2 b2_12) 3 b3_13) 4 b4_14) 5 b5_15) 6 b6_16) ad) ++ ((sW cI cJ (qd 0) qo vo ao) ++ (lW cI cJ he qe (uV (uV ve 31 b6_8) 32 b6_16) ae))) H locs := hW
      refine lv_aload_n hx hb dX4_readLimits_42 rfl (lv_at hl 1 rfl) ?_
      refine z_iconst (n := 1) hx hb dX4_readLimits_43 ?_
      refine z_put hx hb hts hiX4_readLimits_X3 tyX3 tyX3_ok nmX3 hown hW 7 0 4 rfl rfl (by decide) (Nat.le_of_ble_eq_true rfl) rfl rfl (by decide +kernel) (by decide +kernel) dX4_readLimits_44 (fun H locs hW => ?_)
      have hW : zW G (tyZ cI cJ cO) A s ((rW cI cJ hd qd (uV (uV (uV (uV (uV (uV vd 1 b1_11) 2 b2_12) 3 b3_13) 4 b4_14) 5 b5_15) 6 b6_16) ad) ++ ((sW cI cJ (qd 0) qo vo ao) ++ (lW cI cJ he qe (uV (uV (uV ve 31 b6_8) 32 b6_16) 30 1) ae))) H locs := hW
      refine z_iconst (n := 1) hx hb dX4_readLimits_47 ?_
      exact z_zret hx hb hr hlk (by first | exact Or.inl rfl | exact Or.inr rfl | omega) hW (⟨ff_9, yy_10, uI (uI N i (tkN T z y)) j (tkN T z yy_2), b1_11, b2_12, b3_13, b4_14, b5_15, b6_16, 1, b6_8, b6_16⟩) (bI_t c29) (show _ = _ ∧ RT _ _ _ _ _ _ _ _ ∧ NF1 _ _ ∧ N8 _ _ _ ∧ LMo _ _ _ _ _ _ _ _ from ⟨by rw [(Ptn_0 hp5.1 c8).1, bnd_0 c8, (Ptn_0 hp26.1 c29).1], hR, (fun q => absurd c29 q), (fun q => (hp26.2.2.2.1 q).trans (hp5.2.2.2.1 c8)), (fun _ => ⟨by rw [← hp5.2.2.2.2 c8, ← hp26.2.2.2.2 c29], rfl⟩)⟩) rfl dX4_readLimits_48
    · refine z_iconst (n := 0) hx hb dX4_readLimits_32 ?_
      exact z_zret hx hb hr hlk (by first | exact Or.inl rfl | exact Or.inr rfl | omega) hW (⟨ff_9, yy_10, uI N i (tkN T z y), b1_11, b2_12, b3_13, b4_14, b5_15, b6_16, ve 30, b6_8, ve 32⟩) (bI_f c29) (show _ = _ ∧ RT _ _ _ _ _ _ _ _ ∧ NF1 _ _ ∧ N8 _ _ _ ∧ LMo _ _ _ _ _ _ _ _ from ⟨by rw [(Ptn_0 hp5.1 c8).1, bnd_0 c8, Ptn_1 hp26.1 c29], hR, hp26.2.2.1, (fun q => absurd q c29), (fun q => absurd q c29)⟩) rfl dX4_readLimits_33
  · refine z_iconst (n := 0) hx hb dX4_readLimits_11 ?_
    exact z_zret hx hb hr hlk (by first | exact Or.inl rfl | exact Or.inr rfl | omega) hW (⟨ff_1, yy_2, N, b1_3, b2_4, b3_5, b4_6, b5_7, b6_8, ve 30, ve 31, ve 32⟩) (bI_f c8) (show _ = _ ∧ RT _ _ _ _ _ _ _ _ ∧ NF1 _ _ ∧ N8 _ _ _ ∧ LMo _ _ _ _ _ _ _ _ from ⟨by rw [Ptn_1 hp5.1 c8, bnd_1 c8], hR, hp5.2.2.1, (fun q => absurd q c8), (fun q => absurd q c8)⟩) rfl dX4_readLimits_12
theorem hiX4_readBreak_X2 : ∀ w ∈ wsX20, w ∈ wsX4_readBreak := fun _ h => List.mem_cons_of_mem _ (List.mem_append_left _ (List.mem_append_left _ (List.mem_append_right _ h)))
theorem hiX4_readBreak_X4 : ∀ w ∈ wsX40, w ∈ wsX4_readBreak := fun _ h => List.mem_cons_of_mem _ (List.mem_append_left _ (List.mem_append_right _ h))
theorem hiX4_readBreak_X7 : ∀ w ∈ wsX70, w ∈ wsX4_readBreak := fun _ h => List.mem_cons_of_mem _ (List.mem_append_right _ h)
theorem ziX4_readBreak : yX4_readBreak.cls = RX4 ∧ yX4_readBreak.cls ≠ "java/lang/invoke/MethodHandle" ∧ yX4_readBreak.cls ≠ "java/lang/invoke/VarHandle" ∧ (parseMethodDescriptor yX4_readBreak.desc).map (fun d => d.parameters.length) = some 1 := by decide +kernel
set_option maxHeartbeats 4000000 in
set_option maxRecDepth 100000 in
theorem c_X4_readBreak {l : Launch} {G : va_G} {cI cJ cO : ClassId}  (hd : Nat) (qd : Nat → Nat) (vd : Nat → Int) (ad : Nat → Int → Int) (qo : Nat → Nat) (vo : Nat → Int) (ao : Nat → Int → Int) (he : Nat) (qe : Nat → Nat) (ve : Nat → Int) (ae : Nat → Int → Int)  (T : Int → Int) (z : Int) (y : Int) (hK : TKS T z (ao 0) (ao 1) (ao 2) (vo 3)) (hR : RT T z y (vo 3) (vd 3) (vd 4) (vd 5) (vd 2)) (hs : 0 ≤ ve 4 ∧ ve 4 ≤ 119 ∧ 1 ≤ ve 5 ∧ ve 5 ≤ 120) : zC l yX4_readBreak wsX4_readBreak { frames := 2, cells := 0, slots := 0, locals := 43 } G (tyZ cI cJ cO) (S := (Int) × (Int) × Int × Int × Int × Int × Int × Int × Int) [.ref hd, .ref he] ((rW cI cJ hd qd vd ad) ++ ((sW cI cJ (qd 0) qo vo ao) ++ (lW cI cJ he qe ve ae))) (zI (fun u => bI (u.1 = 0))) (fun u => Ptn T z (ve 4 + 1) (ve 4 + ve 5 - 1) y = (u.1, u.2.1) ∧ RT T z u.2.1 (vo 3) u.2.2.2.2.1 u.2.2.2.2.2.1 u.2.2.2.2.2.2.1 u.2.2.2.1 ∧ NF1 u.1 u.2.2.1 ∧ N8 u.1 u.2.2.1 (vd 1) ∧ N8 u.1 u.2.2.2.2.2.2.2.2 (tkN T z y)) (fun u => (rW cI cJ hd qd (uV (uV (uV (uV (uV (uV vd 1 u.2.2.1) 2 u.2.2.2.1) 3 u.2.2.2.2.1) 4 u.2.2.2.2.2.1) 5 u.2.2.2.2.2.2.1) 6 u.2.2.2.2.2.2.2.1) ad) ++ ((sW cI cJ (qd 0) qo vo ao) ++ (lW cI cJ he qe (uV ve 12 u.2.2.2.2.2.2.2.2) ae))) 0 0 := by
  refine z_start (cc := cX4_readBreak) (maxL := 2) (ret := (some .boolean)) (by decide) rfl (Nat.le_of_ble_eq_true rfl) ?_
  intro p e s m below meth c A ls F hr hlk hnm hAe hA hW hl
  have hx := F.1
  have hb := F.2.1
  have hown : s.vm.findClass RX4 = some m.cls := F.2.2.2.1
  have hts := F.2.2.2.2
  have hl : lv_has ls 2 [(0, .ref hd), (1, .ref he)] := hl
  have hk9 := KND_R (T := T) (z := z) (y := y)
  have ek9 := hR.2.2.2.1
  refine lv_aload_n hx hb dX4_readBreak_0 rfl (lv_at hl 0 rfl) ?_
  refine lv_aload_n hx hb dX4_readBreak_1 rfl (lv_at hl 1 rfl) ?_
  refine z_get (v := .int (iI (ve 4))) hx hb hts hiX4_readBreak_X2 hown hW 5 4 1 rfl rfl rfl (by decide) rfl dX4_readBreak_2 ?_
  refine z_iconst (n := 1) hx hb dX4_readBreak_5 ?_
  refine z_iadd hx hb dX4_readBreak_6 ?_
  refine lv_aload_n hx hb dX4_readBreak_7 rfl (lv_at hl 1 rfl) ?_
  refine z_get (v := .int (iI (ve 4))) hx hb hts hiX4_readBreak_X2 hown hW 5 4 1 rfl rfl rfl (by decide) rfl dX4_readBreak_8 ?_
  refine lv_aload_n hx hb dX4_readBreak_11 rfl (lv_at hl 1 rfl) ?_
  refine z_get (v := .int (iI (ve 5))) hx hb hts hiX4_readBreak_X2 hown hW 5 5 2 rfl rfl rfl (by decide) rfl dX4_readBreak_12 ?_
  refine z_iadd hx hb dX4_readBreak_15 ?_
  refine z_iconst (n := 1) hx hb dX4_readBreak_16 ?_
  refine z_isub hx hb dX4_readBreak_17 ?_
  refine z_callV (As := [.int (iI ((ve 4) + 1)), .int (iI (((ve 4) + (ve 5)) - 1))]) (rest := []) F (c_X4_takeNumber  hd qd vd ad qo vo ao ((ve 4) + 1) (((ve 4) + (ve 5)) - 1) T z y hK hR (show -2147483648 ≤ ((ve 4) + 1) ∧ ((ve 4) + 1) < 2147483648 by omega) (show -2147483648 ≤ (((ve 4) + (ve 5)) - 1) ∧ (((ve 4) + (ve 5)) - 1) < 2147483648 by omega)) gX4_readBreak_X4_takeNumber rfl ziX4_takeNumber ⟨rfl, rfl, by decide, by decide⟩ rfl hl.1 rfl (Nat.le_of_ble_eq_true rfl) dX4_readBreak_18 ⟨Nat.zero_le _, Nat.zero_le _⟩ hW hA [0, 1, 2, 3, 4] rfl (by decide) (fun _ => rfl) (fun u => (rW cI cJ hd qd (uV (uV (uV (uV (uV (uV vd 1 u.2.2.1) 2 u.2.2.2.1) 3 u.2.2.2.2.1) 4 u.2.2.2.2.2.1) 5 u.2.2.2.2.2.2.1) 6 u.2.2.2.2.2.2.2) ad) ++ ((sW cI cJ (qd 0) qo vo ao) ++ (lW cI cJ he qe ve ae))) (fun _ => rfl) (fun u => [.int (iI (bI (u.1 = 0)))]) (fun _ => rfl) 0 rfl rfl rfl (fun u H locs hp18 hW => ?_)
  obtain ⟨ff_1, yy_2, b1_3, b2_4, b3_5, b4_6, b5_7, b6_8⟩ := u
  have hp18 : Ptn T z ((ve 4) + 1) (((ve 4) + (ve 5)) - 1) y = (ff_1, yy_2) ∧ RT T z yy_2 ((vo 3)) b3_5 b4_6 b5_7 b2_4 ∧ NF1 ff_1 b1_3 ∧ N8 ff_1 b1_3 ((vd 1)) ∧ N8 ff_1 b6_8 (tkN T z y) := hp18
  have hW : zW G (tyZ cI cJ cO) A s ((rW cI cJ hd qd (uV (uV (uV (uV (uV (uV vd 1 b1_3) 2 b2_4) 3 b3_5) 4 b4_6) 5 b5_7) 6 b6_8) ad) ++ ((sW cI cJ (qd 0) qo vo ao) ++ (lW cI cJ he qe ve ae))) H locs := hW
  have hR : RT T z yy_2 (vo 3) b3_5 b4_6 b5_7 b2_4 := hp18.2.1
  have hk9 := KND_R (T := T) (z := z) (y := yy_2)
  have ek9 := hR.2.2.2.1
  refine z_b_ne (tgt := 26) hx hb dX4_readBreak_21 (by decide) (fun c21 => ?_) (fun c21 => ?_)
  · refine lv_aload_n hx hb dX4_readBreak_26 rfl (lv_at hl 1 rfl) ?_
    refine lv_aload_n hx hb dX4_readBreak_27 rfl (lv_at hl 0 rfl) ?_
    refine z_get (v := .int (iI b6_8)) hx hb hts hiX4_readBreak_X4 hown hW 0 6 3 rfl rfl rfl (by decide) rfl dX4_readBreak_28 ?_
    refine z_put hx hb hts hiX4_readBreak_X2 tyX2 tyX2_ok nmX2 hown hW 5 12 4 rfl rfl (by decide) (Nat.le_of_ble_eq_true rfl) rfl rfl rfl rfl dX4_readBreak_31 (fun H locs hW => ?_)
    have hW : zW G (tyZ cI cJ cO) A s ((rW cI cJ hd qd (uV (uV (uV (uV (uV (uV vd 1 b1_3) 2 b2_4) 3 b3_5) 4 b4_6) 5 b5_7) 6 b6_8) ad) ++ ((sW cI cJ (qd 0) qo vo ao) ++ (lW cI cJ he qe (uV ve 12 b6_8) ae))) H locs := hW
    refine z_iconst (n := 1) hx hb dX4_readBreak_34 ?_
    exact z_zret hx hb hr hlk (by first | exact Or.inl rfl | exact Or.inr rfl | omega) hW (⟨ff_1, yy_2, b1_3, b2_4, b3_5, b4_6, b5_7, b6_8, b6_8⟩) (bI_t c21) (show _ = _ ∧ RT _ _ _ _ _ _ _ _ ∧ NF1 _ _ ∧ N8 _ _ _ ∧ N8 _ _ _ from ⟨hp18.1, hR, (fun q => absurd c21 q), hp18.2.2.2.1, hp18.2.2.2.2⟩) rfl dX4_readBreak_35
  · refine z_iconst (n := 0) hx hb dX4_readBreak_24 ?_
    exact z_zret hx hb hr hlk (by first | exact Or.inl rfl | exact Or.inr rfl | omega) hW (⟨ff_1, yy_2, b1_3, b2_4, b3_5, b4_6, b5_7, b6_8, ve 12⟩) (bI_f c21) (show _ = _ ∧ RT _ _ _ _ _ _ _ _ ∧ NF1 _ _ ∧ N8 _ _ _ ∧ N8 _ _ _ from ⟨hp18.1, hR, hp18.2.2.1, (fun q => absurd q c21), (fun q => absurd q c21)⟩) rfl dX4_readBreak_25
