/-! the class: all lines of the index; an empty book; one more lease -/
def TQ (f : Nat → Int → Int) : Prop := ∀ j : Int, 0 ≤ j → j < 120 → f 2 j = 0 ∧ f 3 j = 240
theorem hiX4_readIndexLines_X4 : ∀ w ∈ wsX40, w ∈ wsX4_readIndexLines := fun _ h => List.mem_cons_of_mem _ (List.mem_append_left _ (List.mem_append_left _ (List.mem_append_left _ (List.mem_append_right _ h))))
theorem hiX4_readIndexLines_X1 : ∀ w ∈ wsX10, w ∈ wsX4_readIndexLines := fun _ h => List.mem_cons_of_mem _ (List.mem_append_left _ (List.mem_append_left _ (List.mem_append_right _ h)))
theorem hiX4_readIndexLines_X7 : ∀ w ∈ wsX70, w ∈ wsX4_readIndexLines := fun _ h => List.mem_cons_of_mem _ (List.mem_append_left _ (List.mem_append_right _ h))
theorem hiX4_readIndexLines_X8 : ∀ w ∈ wsX80, w ∈ wsX4_readIndexLines := fun _ h => List.mem_cons_of_mem _ (List.mem_append_right _ h)
theorem ziX4_readIndexLines : yX4_readIndexLines.cls = RX4 ∧ yX4_readIndexLines.cls ≠ "java/lang/invoke/MethodHandle" ∧ yX4_readIndexLines.cls ≠ "java/lang/invoke/VarHandle" ∧ (parseMethodDescriptor yX4_readIndexLines.desc).map (fun d => d.parameters.length) = some 1 := by decide +kernel
set_option maxHeartbeats 4000000 in
set_option maxRecDepth 100000 in
theorem c_X4_readIndexLines {l : Launch} {G : va_G} {cI cJ cO : ClassId} (N : Int → Int) (hd : Nat) (qd : Nat → Nat) (vd : Nat → Int) (ad : Nat → Int → Int) (qo : Nat → Nat) (vo : Nat → Int) (ao : Nat → Int → Int) (hB : Nat) (qB : Nat → Nat) (vB : Nat → Int) (aB : Nat → Int → Int) (qv : Nat → Nat) (vv : Nat → Int) (av : Nat → Int → Int)  (T : Int → Int) (z : Int) (y : Int) (hK : TKS T z (ao 0) (ao 1) (ao 2) (vo 3)) (hR : RT T z y (vo 3) (vd 3) (vd 4) (vd 5) (vd 2)) (hRD : RD N 0 ∧ N 2 = 0) (hCV : CV N av (vv 2) (aB 2)) : zC l yX4_readIndexLines wsX4_readIndexLines { frames := 3, cells := 0, slots := 0, locals := 66 } G (tyZ cI cJ cO) (S := (Int) × (Int) × (Int → Int) × Int × Int × Int × Int × Int × Int × (Int → Int) × (Int → Int) × Int × (Int → Int)) [.ref hd, .ref hB] ((rW cI cJ hd qd vd ad) ++ ((sW cI cJ (qd 0) qo vo ao) ++ ((bO cI cJ hB qB vB aB) ++ (vW cI cJ (qB 0) qv vv av)))) (zI (fun u => bI (u.1 = 0))) (fun u => Pixs T z 21 y N = (u.1, u.2.1, u.2.2.1) ∧ RT T z u.2.1 (vo 3) u.2.2.2.2.2.1 u.2.2.2.2.2.2.1 u.2.2.2.2.2.2.2.1 u.2.2.2.2.1 ∧ NF1 u.1 u.2.2.2.1 ∧ N8 u.1 u.2.2.2.1 (vd 1) ∧ IXs u.1 u.2.2.1 (uA (uA (av) 0 u.2.2.2.2.2.2.2.2.2.1) 1 u.2.2.2.2.2.2.2.2.2.2.1) u.2.2.2.2.2.2.2.2.2.2.2.1 u.2.2.2.2.2.2.2.2.2.2.2.2) (fun u => (rW cI cJ hd qd (uV (uV (uV (uV (uV (uV vd 1 u.2.2.2.1) 2 u.2.2.2.2.1) 3 u.2.2.2.2.2.1) 4 u.2.2.2.2.2.2.1) 5 u.2.2.2.2.2.2.2.1) 6 u.2.2.2.2.2.2.2.2.1) ad) ++ ((sW cI cJ (qd 0) qo vo ao) ++ ((bO cI cJ hB qB vB (uA aB 2 u.2.2.2.2.2.2.2.2.2.2.2.2)) ++ (vW cI cJ (qB 0) qv (uV vv 2 u.2.2.2.2.2.2.2.2.2.2.2.1) (uA (uA av 0 u.2.2.2.2.2.2.2.2.2.1) 1 u.2.2.2.2.2.2.2.2.2.2.1))))) 0 0 := by
  refine z_start (cc := cX4_readIndexLines) (maxL := 3) (ret := (some .boolean)) (by decide) rfl (Nat.le_of_ble_eq_true rfl) ?_
  intro p e s m below meth c A ls F hr hlk hnm hAe hA hW hl
  have hx := F.1
  have hb := F.2.1
  have hown : s.vm.findClass RX4 = some m.cls := F.2.2.2.1
  have hts := F.2.2.2.2
  have hl : lv_has ls 3 [(0, .ref hd), (1, .ref hB)] := hl
  have hk9 := KND_R (T := T) (z := z) (y := y)
  have ek9 := hR.2.2.2.1
  refine z_iconst (n := 0) hx hb dX4_readIndexLines_0 ?_
  refine lv_istore_n (lv' := [(2, .int (iI 0)), (0, .ref hd), (1, .ref hB)]) hx hb dX4_readIndexLines_1 rfl hl (by decide) rfl (fun ls hl => ?_)
  refine z_loop13 (fun (yv : Int) (Nv : Int → Int) (p2 : Int) (b1v : Int) (b2v : Int) (b3v : Int) (b4v : Int) (b5v : Int) (b6v : Int) (d0v : Int → Int) (d1v : Int → Int) (d2v : Int) (dnv : Int → Int) (ls : Array Slot) (H : Heap) (locs : List Loc) => (RD Nv p2 ∧ Nv 2 = 0) ∧ (CV Nv (uA (uA av 0 d0v) 1 d1v) d2v dnv) ∧ (b1v = vd 1) ∧ (RT T z yv (vo 3) b3v b4v b5v b2v) ∧ (Pixs T z (21 - p2).toNat yv Nv = Pixs T z 21 y N) ∧ zW G (tyZ cI cJ cO) A s ((rW cI cJ hd qd (uV (uV (uV (uV (uV (uV vd 1 b1v) 2 b2v) 3 b3v) 4 b4v) 5 b5v) 6 b6v) ad) ++ ((sW cI cJ (qd 0) qo vo ao) ++ ((bO cI cJ hB qB vB (uA aB 2 dnv)) ++ (vW cI cJ (qB 0) qv (uV vv 2 d2v) (uA (uA av 0 d0v) 1 d1v))))) H locs ∧ lv_has ls 3 [(2, .int (iI p2)), (0, .ref hd), (1, .ref hB)]) (fun yv Nv p2 b1v b2v b3v b4v b5v b6v d0v d1v d2v dnv => (21 - p2).toNat) ?_ y N 0 (vd 1) (vd 2) (vd 3) (vd 4) (vd 5) (vd 6) (av 0) (av 1) (vv 2) (aB 2) _ _ _ ⟨hRD, hCV, rfl, hR, rfl, hW, (lv_sub hl [0, 1, 2] rfl)⟩
  intro yv Nv p2 b1v b2v b3v b4v b5v b6v d0v d1v d2v dnv ls H locs hI ih
  obtain ⟨i1, i2, i4, hR, i5, hW, hl⟩ := hI
  have hi := i1.1.2.2.2.2.1
  have hk9 := KND_R (T := T) (z := z) (y := yv)
  have ek9 := hR.2.2.2.1
  have hV9 := i1.1.2.2.2.1
  refine lv_iload_n hx hb dX4_readIndexLines_2 rfl (lv_at hl 0 rfl) ?_
  refine z_bipush hx hb dX4_readIndexLines_3 (by decide +kernel) ?_
  refine z_icmp_gt (tgt := 45) hx hb dX4_readIndexLines_5 (by decide) ⟨by omega, by omega⟩ (by decide) (fun c5 => ?_) (fun c5 => ?_)
  · exfalso; omega
  · refine lv_aload_n hx hb dX4_readIndexLines_8 rfl (lv_at hl 1 rfl) ?_
    refine z_get (v := .int (iI b4v)) hx hb hts hiX4_readIndexLines_X4 hown hW 0 4 1 rfl rfl rfl (by decide) rfl dX4_readIndexLines_9 ?_
    refine z_bipush hx hb dX4_readIndexLines_12 (by decide +kernel) ?_
    refine z_icmp_ne (tgt := 45) hx hb dX4_readIndexLines_14 (by decide) ⟨by omega, by omega⟩ (by decide) (fun c14 => ?_) (fun c14 => ?_)
    · refine z_iconst (n := 1) hx hb dX4_readIndexLines_45 ?_
      exact z_zret hx hb hr hlk (by first | exact Or.inl rfl | exact Or.inr rfl | omega) hW (⟨0, yv, Nv, b1v, b2v, b3v, b4v, b5v, b6v, d0v, d1v, d2v, dnv⟩) (bI_t (show (0 : Int) = 0 from rfl)) (show _ = _ ∧ RT _ _ _ _ _ _ _ _ ∧ NF1 _ _ ∧ N8 _ _ _ ∧ IXs _ _ _ _ _ from ⟨by rw [← i5, Pixs_e (by omega) hi.2], hR, (fun q => absurd rfl q), (fun _ => i4), (fun _ => ⟨p2, i1.1, i1.2, i2⟩)⟩) rfl dX4_readIndexLines_46
    · have hk6 : KND T z yv = 6 := by omega
      refine lv_iload_n hx hb dX4_readIndexLines_17 rfl (lv_at hl 0 rfl) ?_
      refine z_bipush hx hb dX4_readIndexLines_18 (by decide +kernel) ?_
      refine z_icmp_ne (tgt := 29) hx hb dX4_readIndexLines_20 (by decide) ⟨by omega, by omega⟩ (by decide) (fun c20 => ?_) (fun c20 => ?_)
      · refine lv_aload_n hx hb dX4_readIndexLines_29 rfl (lv_at hl 1 rfl) ?_
        refine lv_aload_n hx hb dX4_readIndexLines_30 rfl (lv_at hl 2 rfl) ?_
        refine z_callV (As := [.ref hB]) (rest := []) F (c_X4_readIndexLine Nv hd qd (uV (uV (uV (uV (uV (uV vd 1 b1v) 2 b2v) 3 b3v) 4 b4v) 5 b5v) 6 b6v) ad qo vo ao hB qB vB (uA aB 2 dnv) qv (uV vv 2 d2v) (uA (uA av 0 d0v) 1 d1v)  T z yv hK hR hk6 i2.1 hV9) gX4_readIndexLines_X4_readIndexLine rfl ziX4_readIndexLine ⟨rfl, rfl, by decide, by decide⟩ rfl hl.1 rfl (Nat.le_of_ble_eq_true rfl) dX4_readIndexLines_31 ⟨Nat.zero_le _, Nat.zero_le _⟩ hW hA [0, 1, 2, 3, 4, 5, 6, 7, 8, 9] rfl (by decide) (fun _ => rfl) (fun u => (rW cI cJ hd qd (uV (uV (uV (uV (uV (uV vd 1 u.2.2.2.1) 2 u.2.2.2.2.1) 3 u.2.2.2.2.2.1) 4 u.2.2.2.2.2.2.1) 5 u.2.2.2.2.2.2.2.1) 6 u.2.2.2.2.2.2.2.2.1) ad) ++ ((sW cI cJ (qd 0) qo vo ao) ++ ((bO cI cJ hB qB vB (uA aB 2 u.2.2.2.2.2.2.2.2.2.2.2.2)) ++ (vW cI cJ (qB 0) qv (uV vv 2 u.2.2.2.2.2.2.2.2.2.2.2.1) (uA (uA av 0 u.2.2.2.2.2.2.2.2.2.1) 1 u.2.2.2.2.2.2.2.2.2.2.1))))) (fun _ => rfl) (fun u => [.int (iI (bI (u.1 = 0)))]) (fun _ => rfl) 0 rfl rfl rfl (fun u H locs hp31 hW => ?_)
        obtain ⟨ff_1, yy_2, nn_3, b1_4, b2_5, b3_6, b4_7, b5_8, b6_9, d0_10, d1_11, d2_12, dn_13⟩ := u
        have hp31 : Pix T z (tkB T z yv) Nv = (ff_1, yy_2, nn_3) ∧ RT T z yy_2 ((vo 3)) b3_6 b4_7 b5_8 b2_5 ∧ NF1 ff_1 b1_4 ∧ N8 ff_1 b1_4 (b1v) ∧ IXo ff_1 nn_3 Nv (d0v) (d1v) (d2v) (dnv) d0_10 d1_11 d2_12 dn_13 := hp31
        have hW : zW G (tyZ cI cJ cO) A s ((rW cI cJ hd qd (uV (uV (uV (uV (uV (uV vd 1 b1_4) 2 b2_5) 3 b3_6) 4 b4_7) 5 b5_8) 6 b6_9) ad) ++ ((sW cI cJ (qd 0) qo vo ao) ++ ((bO cI cJ hB qB vB (uA aB 2 dn_13)) ++ (vW cI cJ (qB 0) qv (uV vv 2 d2_12) (uA (uA av 0 d0_10) 1 d1_11))))) H locs := hW
        have hR : RT T z yy_2 (vo 3) b3_6 b4_7 b5_8 b2_5 := hp31.2.1
        have hk9 := KND_R (T := T) (z := z) (y := yy_2)
        have ek9 := hR.2.2.2.1
        refine z_b_ne (tgt := 39) hx hb dX4_readIndexLines_34 (by decide) (fun c34 => ?_) (fun c34 => ?_)
        · have hPl : Pixl T z p2 yv Nv = (ff_1, yy_2, nn_3) := by unfold Pixl; rw [if_neg c20, hp31.1]
          have hQ : (RD nn_3 (p2 + 1) ∧ nn_3 2 = 0) ∧ CV nn_3 (uA (uA av 0 d0_10) 1 d1_11) d2_12 dn_13 := by obtain ⟨m9, v9, k9, r1, r2, r3, r4, r5, r6, r7, r8, r9⟩ := hp31.2.2.2.2 c34; rw [r5, r8, r9]; exact ⟨⟨RD_ix i1.1 (by omega) r1 r2 r3 r4, by rw [uI_n (by omega), uI_n (by omega)]; exact i1.2⟩, CV_ix i2 i1.1 r1 r2 r3 r4 r6 r7⟩
          refine z_iinc (k := 0) (lv' := [(2, .int (iI (p2 + 1))), (0, .ref hd), (1, .ref hB)]) hx hb dX4_readIndexLines_39 hl rfl (by decide) rfl (fun ls hl => ?_)
          refine lv_goto (tgt := 2) hx hb dX4_readIndexLines_42 (by decide) ?_
          exact ih yy_2 nn_3 (p2 + 1) b1_4 b2_5 b3_6 b4_7 b5_8 b6_9 d0_10 d1_11 d2_12 dn_13 _ _ _ ⟨hQ.1, hQ.2, ((hp31.2.2.2.1 c34).trans i4), hR, (by rw [← i5, Pixs_l hk6 hi.2, hPl, bnd_0 c34]), hW, (lv_sub hl [0, 1, 2] rfl)⟩ (tni rfl hi.2.2)
        · refine z_iconst (n := 0) hx hb dX4_readIndexLines_37 ?_
          exact z_zret hx hb hr hlk (by first | exact Or.inl rfl | exact Or.inr rfl | omega) hW (⟨ff_1, yy_2, nn_3, b1_4, b2_5, b3_6, b4_7, b5_8, b6_9, d0_10, d1_11, d2_12, dn_13⟩) (bI_f c34) (show _ = _ ∧ RT _ _ _ _ _ _ _ _ ∧ NF1 _ _ ∧ N8 _ _ _ ∧ IXs _ _ _ _ _ from ⟨by rw [← i5, Pixs_l hk6 hi.2]; unfold Pixl; rw [if_neg c20, hp31.1, bnd_1 c34], hR, hp31.2.2.1, (fun q => absurd q c34), (fun q => absurd q c34)⟩) rfl dX4_readIndexLines_38
      · refine lv_aload_n hx hb dX4_readIndexLines_23 rfl (lv_at hl 1 rfl) ?_
        refine z_iconst (n := 3) hx hb dX4_readIndexLines_24 ?_
        refine z_callV (As := [.int (iI 3)]) (rest := []) F (c_X4_refuse  hd qd (uV (uV (uV (uV (uV (uV vd 1 b1v) 2 b2v) 3 b3v) 4 b4v) 5 b5v) 6 b6v) ad 3  (show 1 ≤ 3 ∧ 3 ≤ 4 by omega)) gX4_readIndexLines_X4_refuse rfl ziX4_refuse ⟨rfl, rfl, by decide, by decide⟩ rfl hl.1 rfl (Nat.le_of_ble_eq_true rfl) dX4_readIndexLines_25 ⟨Nat.zero_le _, Nat.zero_le _⟩ hW hA [0] rfl (by decide) (fun _ => rfl) (fun _ => (rW cI cJ hd qd (uV (uV (uV (uV (uV (uV vd 2 b2v) 3 b3v) 4 b4v) 5 b5v) 6 b6v) 1 3) ad) ++ ((sW cI cJ (qd 0) qo vo ao) ++ ((bO cI cJ hB qB vB (uA aB 2 dnv)) ++ (vW cI cJ (qB 0) qv (uV vv 2 d2v) (uA (uA av 0 d0v) 1 d1v))))) (fun _ => rfl) (fun _ => [.int (iI 0)]) (fun _ => rfl) 0 rfl rfl rfl (fun _ H locs hp25 hW => ?_)
        have hW : zW G (tyZ cI cJ cO) A s ((rW cI cJ hd qd (uV (uV (uV (uV (uV (uV vd 2 b2v) 3 b3v) 4 b4v) 5 b5v) 6 b6v) 1 3) ad) ++ ((sW cI cJ (qd 0) qo vo ao) ++ ((bO cI cJ hB qB vB (uA aB 2 dnv)) ++ (vW cI cJ (qB 0) qv (uV vv 2 d2v) (uA (uA av 0 d0v) 1 d1v))))) H locs := hW
        exact z_zret hx hb hr hlk (by first | exact Or.inl rfl | exact Or.inr rfl | omega) hW (⟨3, yv, Nv, 3, b2v, b3v, b4v, b5v, b6v, d0v, d1v, d2v, dnv⟩) (bI_f (show ¬ (3 : Int) = 0 by decide)) (show _ = _ ∧ RT _ _ _ _ _ _ _ _ ∧ NF1 _ _ ∧ N8 _ _ _ ∧ IXs _ _ _ _ _ from ⟨by rw [← i5, Pixs_l hk6 hi.2]; unfold Pixl; rw [if_pos c20, bnd_1 (by decide)], hR, (fun _ => rfl), (fun q => absurd (show (3 : Int) = 0 from q) (by decide)), (fun q => absurd (show (3 : Int) = 0 from q) (by decide))⟩) rfl dX4_readIndexLines_28
theorem hiX1_clear_X1 : ∀ w ∈ wsX10, w ∈ wsX1_clear := fun _ h => List.mem_cons_of_mem _ (List.mem_append_left _ (List.mem_append_right _ h))
theorem hiX1_clear_X8 : ∀ w ∈ wsX80, w ∈ wsX1_clear := fun _ h => List.mem_cons_of_mem _ (List.mem_append_right _ h)
theorem ziX1_clear : yX1_clear.cls = RX1 ∧ yX1_clear.cls ≠ "java/lang/invoke/MethodHandle" ∧ yX1_clear.cls ≠ "java/lang/invoke/VarHandle" ∧ (parseMethodDescriptor yX1_clear.desc).map (fun d => d.parameters.length) = some 0 := by decide +kernel
set_option maxHeartbeats 4000000 in
set_option maxRecDepth 100000 in
theorem c_X1_clear {l : Launch} {G : va_G} {cI cJ cO : ClassId}  (hB : Nat) (qB : Nat → Nat) (vB : Nat → Int) (aB : Nat → Int → Int) (qv : Nat → Nat) (vv : Nat → Int) (av : Nat → Int → Int)    : zC l yX1_clear wsX1_clear { frames := 2, cells := 0, slots := 0, locals := 43 } G (tyZ cI cJ cO) (S := Unit) [.ref hB] ((bO cI cJ hB qB vB aB) ++ (vW cI cJ (qB 0) qv vv av)) (zN) (fun _ => True) (fun _ => (bO cI cJ hB qB (uV (uV vB 3 0) 4 0) (uA aB 2 (fun _ => 0))) ++ (vW cI cJ (qB 0) qv (uV vv 2 0) (uA (uA av 0 (fun _ => 0)) 1 (fun _ => 240)))) 0 0 := by
  refine z_start (cc := cX1_clear) (maxL := 1) (ret := none) (by decide) rfl (Nat.le_of_ble_eq_true rfl) ?_
  intro p e s m below meth c A ls F hr hlk hnm hAe hA hW hl
  have hx := F.1
  have hb := F.2.1
  have hown : s.vm.findClass RX1 = some m.cls := F.2.2.2.1
  have hts := F.2.2.2.2
  have hl : lv_has ls 1 [(0, .ref hB)] := hl
  refine lv_aload_n hx hb dX1_clear_0 rfl (lv_at hl 0 rfl) ?_
  refine z_get (v := .ref (qB 0)) hx hb hts hiX1_clear_X1 hown hW 0 0 1 rfl rfl rfl (by decide) rfl dX1_clear_1 ?_
  refine z_callV (As := []) (rest := []) F (c_X8_clear  (qB 0) qv vv av   ) gX1_clear_X8_clear rfl ziX8_clear ⟨rfl, rfl, by decide, by decide⟩ rfl hl.1 rfl (Nat.le_of_ble_eq_true rfl) dX1_clear_4 ⟨Nat.zero_le _, Nat.zero_le _⟩ hW hA [2, 3, 4] rfl (by decide) (fun _ => rfl) (fun _ => (bO cI cJ hB qB vB aB) ++ (vW cI cJ (qB 0) qv (uV vv 2 0) (uA (uA av 0 (fun _ => 0)) 1 (fun _ => 240)))) (fun _ => rfl) (fun _ => []) (fun _ => rfl) 2 rfl rfl rfl (fun _ H locs hp4 hW => ?_)
  have hW : zW G (tyZ cI cJ cO) A s ((bO cI cJ hB qB vB aB) ++ (vW cI cJ (qB 0) qv (uV vv 2 0) (uA (uA av 0 (fun _ => 0)) 1 (fun _ => 240)))) H locs := hW
  refine lv_aload_n hx hb dX1_clear_7 rfl (lv_at hl 0 rfl) ?_
  refine z_get (v := .ref (qB 2)) hx hb hts hiX1_clear_X1 hown hW 0 2 2 rfl rfl rfl (by decide) rfl dX1_clear_8 ?_
  refine z_iconst (n := 0) hx hb dX1_clear_11 ?_
  refine z_callS (As := [.ref (qB 2), .int (iI 0)]) (rest := []) F (c_fill (qB 2) 240 (aB 2) 0 (by decide)) gX1_clear_J7_fill_53178 rfl ziJ7_fill_53178 ⟨rfl, rfl, by decide, by decide⟩ rfl hl.1 rfl (Nat.le_of_ble_eq_true rfl) dX1_clear_12 ⟨Nat.zero_le _, Nat.zero_le _⟩ hW hA [1] rfl (by decide) (fun _ => rfl) (fun _ => (bO cI cJ hB qB vB (uA aB 2 (fun _ => 0))) ++ (vW cI cJ (qB 0) qv (uV vv 2 0) (uA (uA av 0 (fun _ => 0)) 1 (fun _ => 240)))) (fun _ => rfl) (fun _ => []) (fun _ => rfl) (fun _ H locs hp12 hW => ?_)
  have hW : zW G (tyZ cI cJ cO) A s ((bO cI cJ hB qB vB (uA aB 2 (fun _ => 0))) ++ (vW cI cJ (qB 0) qv (uV vv 2 0) (uA (uA av 0 (fun _ => 0)) 1 (fun _ => 240)))) H locs := hW
  refine lv_aload_n hx hb dX1_clear_15 rfl (lv_at hl 0 rfl) ?_
  refine z_iconst (n := 0) hx hb dX1_clear_16 ?_
  refine z_put hx hb hts hiX1_clear_X1 tyX1 tyX1_ok nmX1 hown hW 0 3 3 rfl rfl (by decide) (Nat.le_of_ble_eq_true rfl) rfl rfl rfl rfl dX1_clear_17 (fun H locs hW => ?_)
  have hW : zW G (tyZ cI cJ cO) A s ((bO cI cJ hB qB (uV vB 3 0) (uA aB 2 (fun _ => 0))) ++ (vW cI cJ (qB 0) qv (uV vv 2 0) (uA (uA av 0 (fun _ => 0)) 1 (fun _ => 240)))) H locs := hW
  refine lv_aload_n hx hb dX1_clear_20 rfl (lv_at hl 0 rfl) ?_
  refine z_iconst (n := 0) hx hb dX1_clear_21 ?_
  refine z_put hx hb hts hiX1_clear_X1 tyX1 tyX1_ok nmX1 hown hW 0 4 4 rfl rfl (by decide) (Nat.le_of_ble_eq_true rfl) rfl rfl rfl rfl dX1_clear_22 (fun H locs hW => ?_)
  have hW : zW G (tyZ cI cJ cO) A s ((bO cI cJ hB qB (uV (uV vB 3 0) 4 0) (uA aB 2 (fun _ => 0))) ++ (vW cI cJ (qB 0) qv (uV vv 2 0) (uA (uA av 0 (fun _ => 0)) 1 (fun _ => 240)))) H locs := hW
  exact z_vret hx hb hr hlk hW () trivial rfl dX1_clear_25
theorem hiX1_addLease_X1 : ∀ w ∈ wsX10, w ∈ wsX1_addLease := fun _ h => List.mem_cons_of_mem _ (List.mem_append_left _ (List.mem_append_left _ (List.mem_append_right _ h)))
theorem hiX1_addLease_X2 : ∀ w ∈ wsX20, w ∈ wsX1_addLease := fun _ h => List.mem_cons_of_mem _ (List.mem_append_left _ (List.mem_append_right _ h))
theorem hiX1_addLease_X3 : ∀ w ∈ wsX30, w ∈ wsX1_addLease := fun _ h => List.mem_cons_of_mem _ (List.mem_append_right _ h)
theorem ziX1_addLease : yX1_addLease.cls = RX1 ∧ yX1_addLease.cls ≠ "java/lang/invoke/MethodHandle" ∧ yX1_addLease.cls ≠ "java/lang/invoke/VarHandle" ∧ (parseMethodDescriptor yX1_addLease.desc).map (fun d => d.parameters.length) = some 0 := by decide +kernel
set_option maxHeartbeats 4000000 in
set_option maxRecDepth 100000 in
theorem c_X1_addLease {l : Launch} {G : va_G} {cI cJ cO : ClassId}  (hB : Nat) (qB : Nat → Nat) (vB : Nat → Int) (aB : Nat → Int → Int) (gB : Nat → Nat) (qe : Nat → Nat) (ve : Nat → Int) (ae : Nat → Int → Int)  (k : Nat) (h4 : vB 4 = (k : Int) ∧ k < 6) : zC l yX1_addLease wsX1_addLease { frames := 2, cells := 0, slots := 0, locals := 43 } G (tyZ cI cJ cO) (S := Unit) [.ref hB] ((bO cI cJ hB qB vB aB) ++ ((gW cO (qB 1) gB) ++ (lW cI cJ (gB k) qe ve ae))) (zO (fun _ => some (gB k))) (fun _ => True) (fun _ => (bO cI cJ hB qB (uV vB 4 (vB 4 + 1)) aB) ++ ((gW cO (qB 1) gB) ++ (lW cI cJ (gB k) qe (uV (uV (uV (uV (uV (uV (uV (uV (uV (uV (uV (uV (uV (uV (uV (uV ve 20 0) 21 0) 22 0) 30 0) 31 0) 32 0) 4 0) 5 0) 6 0) 7 0) 8 0) 9 0) 10 0) 11 0) 12 (-1)) 13 240) (uA (uA ae 2 (fun _ => 0)) 3 (fun _ => 240))))) 0 0 := by
  refine z_start (cc := cX1_addLease) (maxL := 2) (ret := (some (.object "RentReview$Lease"))) (by decide) rfl (Nat.le_of_ble_eq_true rfl) ?_
  intro p e s m below meth c A ls F hr hlk hnm hAe hA hW hl
  have hx := F.1
  have hb := F.2.1
  have hown : s.vm.findClass RX1 = some m.cls := F.2.2.2.1
  have hts := F.2.2.2.2
  have hl : lv_has ls 2 [(0, .ref hB)] := hl
  refine lv_aload_n hx hb dX1_addLease_0 rfl (lv_at hl 0 rfl) ?_
  refine z_get (v := .int (iI (vB 4))) hx hb hts hiX1_addLease_X1 hown hW 0 4 1 rfl rfl rfl (by decide) rfl dX1_addLease_1 ?_
  refine z_if_lt (tgt := 19) hx hb dX1_addLease_4 (by decide) ⟨by omega, by omega⟩ (fun c4 => ?_) (fun c4 => ?_)
  · exfalso; omega
  · refine lv_aload_n hx hb dX1_addLease_7 rfl (lv_at hl 0 rfl) ?_
    refine z_get (v := .int (iI (vB 4))) hx hb hts hiX1_addLease_X1 hown hW 0 4 1 rfl rfl rfl (by decide) rfl dX1_addLease_8 ?_
    refine lv_aload_n hx hb dX1_addLease_11 rfl (lv_at hl 0 rfl) ?_
    refine z_get (v := .ref (qB 1)) hx hb hts hiX1_addLease_X1 hown hW 0 1 2 rfl rfl rfl (by decide) rfl dX1_addLease_12 ?_
    refine z_alen hx hb hW 2 2 rfl rfl dX1_addLease_15 ?_
    refine W.eq (g2 := F0 m 16 ls [.int (iI 6), .int (iI (vB 4))]) rfl ?_
    refine z_icmp_lt (tgt := 21) hx hb dX1_addLease_16 (by decide) ⟨by omega, by omega⟩ (by decide) (fun c16 => ?_) (fun c16 => ?_)
    · refine lv_aload_n hx hb dX1_addLease_21 rfl (lv_at hl 0 rfl) ?_
      refine z_get (v := .ref (qB 1)) hx hb hts hiX1_addLease_X1 hown hW 0 1 2 rfl rfl rfl (by decide) rfl dX1_addLease_22 ?_
      refine lv_aload_n hx hb dX1_addLease_25 rfl (lv_at hl 0 rfl) ?_
      refine z_get (v := .int (iI (vB 4))) hx hb hts hiX1_addLease_X1 hown hW 0 4 1 rfl rfl rfl (by decide) rfl dX1_addLease_26 ?_
      refine z_aald (g := gB) (i := vB 4) hx hb hW 2 2 rfl rfl (by decide) ⟨by omega, by omega⟩ dX1_addLease_29 ?_
      rw [show (vB 4).toNat = k by omega]
      refine lv_astore_n (lv' := [(1, .ref (gB k)), (0, .ref hB)]) hx hb dX1_addLease_30 rfl hl (by decide) rfl (fun ls hl => ?_)
      refine lv_aload_n hx hb dX1_addLease_31 rfl (lv_at hl 0 rfl) ?_
      refine lv_ifnull hx hb dX1_addLease_32 ?_
      refine lv_aload_n hx hb dX1_addLease_35 rfl (lv_at hl 0 rfl) ?_
      refine z_callV (As := []) (rest := []) F (c_X2_clear  (gB k) qe ve ae   ) gX1_addLease_X2_clear rfl ziX2_clear ⟨rfl, rfl, by decide, by decide⟩ rfl hl.1 rfl (Nat.le_of_ble_eq_true rfl) dX1_addLease_36 ⟨Nat.zero_le _, Nat.zero_le _⟩ hW hA [3, 4, 5, 6, 7] rfl (by decide) (fun _ => rfl) (fun _ => (bO cI cJ hB qB vB aB) ++ ((gW cO (qB 1) gB) ++ (lW cI cJ (gB k) qe (uV (uV (uV (uV (uV (uV (uV (uV (uV (uV (uV (uV (uV (uV (uV (uV ve 20 0) 21 0) 22 0) 30 0) 31 0) 32 0) 4 0) 5 0) 6 0) 7 0) 8 0) 9 0) 10 0) 11 0) 12 (-1)) 13 240) (uA (uA ae 2 (fun _ => 0)) 3 (fun _ => 240))))) (fun _ => rfl) (fun _ => []) (fun _ => rfl) 3 rfl rfl rfl (fun _ H locs hp36 hW => ?_)
      have hW : zW G (tyZ cI cJ cO) A s ((bO cI cJ hB qB vB aB) ++ ((gW cO (qB 1) gB) ++ (lW cI cJ (gB k) qe (uV (uV (uV (uV (uV (uV (uV (uV (uV (uV (uV (uV (uV (uV (uV (uV ve 20 0) 21 0) 22 0) 30 0) 31 0) 32 0) 4 0) 5 0) 6 0) 7 0) 8 0) 9 0) 10 0) 11 0) 12 (-1)) 13 240) (uA (uA ae 2 (fun _ => 0)) 3 (fun _ => 240))))) H locs := hW
      refine lv_aload_n hx hb dX1_addLease_39 rfl (lv_at hl 1 rfl) ?_
      refine lv_dup hx hb dX1_addLease_40 rfl ?_
      refine z_get (v := .int (iI (vB 4))) hx hb hts hiX1_addLease_X1 hown hW 0 4 1 rfl rfl rfl (by decide) rfl dX1_addLease_41 ?_
      refine z_iconst (n := 1) hx hb dX1_addLease_44 ?_
      refine z_iadd hx hb dX1_addLease_45 ?_
      refine z_put hx hb hts hiX1_addLease_X1 tyX1 tyX1_ok nmX1 hown hW 0 4 1 rfl rfl (by decide) (Nat.le_of_ble_eq_true rfl) rfl rfl rfl rfl dX1_addLease_46 (fun H locs hW => ?_)
      have hW : zW G (tyZ cI cJ cO) A s ((bO cI cJ hB qB (uV vB 4 ((vB 4) + 1)) aB) ++ ((gW cO (qB 1) gB) ++ (lW cI cJ (gB k) qe (uV (uV (uV (uV (uV (uV (uV (uV (uV (uV (uV (uV (uV (uV (uV (uV ve 20 0) 21 0) 22 0) 30 0) 31 0) 32 0) 4 0) 5 0) 6 0) 7 0) 8 0) 9 0) 10 0) 11 0) 12 (-1)) 13 240) (uA (uA ae 2 (fun _ => 0)) 3 (fun _ => 240))))) H locs := hW
      refine lv_aload_n hx hb dX1_addLease_49 rfl (lv_at hl 0 rfl) ?_
      exact z_oret (o := some (gB k)) hx hb hr hlk hW () rfl trivial rfl dX1_addLease_50
    · exfalso; omega
set_option maxHeartbeats 4000000 in
set_option maxRecDepth 100000 in
theorem c_X1_addLease0 {l : Launch} {G : va_G} {cI cJ cO : ClassId}  (hB : Nat) (qB : Nat → Nat) (vB : Nat → Int) (aB : Nat → Int → Int) (gB : Nat → Nat)   (h4 : vB 4 = 6) : zC l yX1_addLease wsX1_addLease { frames := 2, cells := 0, slots := 0, locals := 43 } G (tyZ cI cJ cO) (S := Unit) [.ref hB] ((bO cI cJ hB qB vB aB) ++ (gW cO (qB 1) gB)) (zO (fun _ => none)) (fun _ => True) (fun _ => (bO cI cJ hB qB vB aB) ++ (gW cO (qB 1) gB)) 0 0 := by
  refine z_start (cc := cX1_addLease) (maxL := 2) (ret := (some (.object "RentReview$Lease"))) (by decide) rfl (Nat.le_of_ble_eq_true rfl) ?_
  intro p e s m below meth c A ls F hr hlk hnm hAe hA hW hl
  have hx := F.1
  have hb := F.2.1
  have hown : s.vm.findClass RX1 = some m.cls := F.2.2.2.1
  have hts := F.2.2.2.2
  have hl : lv_has ls 2 [(0, .ref hB)] := hl
  refine lv_aload_n hx hb dX1_addLease_0 rfl (lv_at hl 0 rfl) ?_
  refine z_get (v := .int (iI (vB 4))) hx hb hts hiX1_addLease_X1 hown hW 0 4 1 rfl rfl rfl (by decide) rfl dX1_addLease_1 ?_
  refine z_if_lt (tgt := 19) hx hb dX1_addLease_4 (by decide) ⟨by omega, by omega⟩ (fun c4 => ?_) (fun c4 => ?_)
  · exfalso; omega
  · refine lv_aload_n hx hb dX1_addLease_7 rfl (lv_at hl 0 rfl) ?_
    refine z_get (v := .int (iI (vB 4))) hx hb hts hiX1_addLease_X1 hown hW 0 4 1 rfl rfl rfl (by decide) rfl dX1_addLease_8 ?_
    refine lv_aload_n hx hb dX1_addLease_11 rfl (lv_at hl 0 rfl) ?_
    refine z_get (v := .ref (qB 1)) hx hb hts hiX1_addLease_X1 hown hW 0 1 2 rfl rfl rfl (by decide) rfl dX1_addLease_12 ?_
    refine z_alen hx hb hW 2 2 rfl rfl dX1_addLease_15 ?_
    refine W.eq (g2 := F0 m 16 ls [.int (iI 6), .int (iI (vB 4))]) rfl ?_
    refine z_icmp_lt (tgt := 21) hx hb dX1_addLease_16 (by decide) ⟨by omega, by omega⟩ (by decide) (fun c16 => ?_) (fun c16 => ?_)
    · exfalso; omega
    · refine lv_null hx hb dX1_addLease_19 ?_
      exact z_oret (o := none) hx hb hr hlk hW () rfl trivial rfl dX1_addLease_20
