theorem hiX4_readPart_X4 : ∀ w ∈ wsX40, w ∈ wsX4_readPart := fun _ h => List.mem_cons_of_mem _ (List.mem_append_left _ (List.mem_append_left _ (List.mem_append_left _ (List.mem_append_right _ h))))
theorem hiX4_readPart_X2 : ∀ w ∈ wsX20, w ∈ wsX4_readPart := fun _ h => List.mem_cons_of_mem _ (List.mem_append_left _ (List.mem_append_left _ (List.mem_append_right _ h)))
theorem hiX4_readPart_X7 : ∀ w ∈ wsX70, w ∈ wsX4_readPart := fun _ h => List.mem_cons_of_mem _ (List.mem_append_left _ (List.mem_append_right _ h))
theorem hiX4_readPart_X3 : ∀ w ∈ wsX30, w ∈ wsX4_readPart := fun _ h => List.mem_cons_of_mem _ (List.mem_append_right _ h)
theorem ziX4_readPart : yX4_readPart.cls = RX4 ∧ yX4_readPart.cls ≠ "java/lang/invoke/MethodHandle" ∧ yX4_readPart.cls ≠ "java/lang/invoke/VarHandle" ∧ (parseMethodDescriptor yX4_readPart.desc).map (fun d => d.parameters.length) = some 1 := by decide +kernel
set_option maxHeartbeats 4000000 in
set_option maxRecDepth 100000 in
theorem c_X4_readPart {l : Launch} {G : va_G} {cI cJ cO : ClassId} (N : Int → Int) (x : Int) (hd : Nat) (qd : Nat → Nat) (vd : Nat → Int) (ad : Nat → Int → Int) (qo : Nat → Nat) (vo : Nat → Int) (ao : Nat → Int → Int) (he : Nat) (qe : Nat → Nat) (ve : Nat → Int) (ae : Nat → Int → Int)  (T : Int → Int) (z : Int) (y : Int) (hK : TKS T z (ao 0) (ao 1) (ao 2) (vo 3)) (hR : RT T z y (vo 3) (vd 3) (vd 4) (vd 5) (vd 2)) (hp9 : PB (KND T z y) ≠ 0) (hlx : LX N x ve) (h79 : 0 ≤ LF N x 7 ∧ LF N x 7 ≤ 31) (hz9 : zand (LF N x 7) (PB (KND T z y)) = 0) (hs : 0 ≤ LF N x 0 ∧ LF N x 0 ≤ 119 ∧ 1 ≤ LF N x 1 ∧ LF N x 1 ≤ 120) : zC l yX4_readPart wsX4_readPart { frames := 3, cells := 0, slots := 0, locals := 65 } G (tyZ cI cJ cO) (S := (Int) × (Int) × (Int → Int) × Int × Int × Int × Int × Int × Int × Int × Int × Int × Int × Int × Int × Int × Int × Int × Int) [.ref hd, .ref he] ((rW cI cJ hd qd vd ad) ++ ((sW cI cJ (qd 0) qo vo ao) ++ (lW cI cJ he qe ve ae))) (zI (fun u => bI (u.1 = 0))) (fun u => Ppt T z x (KND T z y) (tkB T z y) (uI N (483 + 500 * x + 7) (zor (N (483 + 500 * x + 7)) (PB (KND T z y)))) = (u.1, u.2.1, u.2.2.1) ∧ RT T z u.2.1 (vo 3) u.2.2.2.2.2.1 u.2.2.2.2.2.2.1 u.2.2.2.2.2.2.2.1 u.2.2.2.2.1 ∧ NF1 u.1 u.2.2.2.1 ∧ N8 u.1 u.2.2.2.1 (vd 1) ∧ LXo u.1 u.2.2.1 x (uV (uV (uV (uV (uV (uV (uV (uV (uV (uV ve 9 u.2.2.2.2.2.2.2.2.2.1) 10 u.2.2.2.2.2.2.2.2.2.2.1) 11 u.2.2.2.2.2.2.2.2.2.2.2.1) 12 u.2.2.2.2.2.2.2.2.2.2.2.2.1) 20 u.2.2.2.2.2.2.2.2.2.2.2.2.2.1) 21 u.2.2.2.2.2.2.2.2.2.2.2.2.2.2.1) 22 u.2.2.2.2.2.2.2.2.2.2.2.2.2.2.2.1) 30 u.2.2.2.2.2.2.2.2.2.2.2.2.2.2.2.2.1) 31 u.2.2.2.2.2.2.2.2.2.2.2.2.2.2.2.2.2.1) 32 u.2.2.2.2.2.2.2.2.2.2.2.2.2.2.2.2.2.2)) (fun u => (rW cI cJ hd qd (uV (uV (uV (uV (uV (uV vd 1 u.2.2.2.1) 2 u.2.2.2.2.1) 3 u.2.2.2.2.2.1) 4 u.2.2.2.2.2.2.1) 5 u.2.2.2.2.2.2.2.1) 6 u.2.2.2.2.2.2.2.2.1) ad) ++ ((sW cI cJ (qd 0) qo vo ao) ++ (lW cI cJ he qe (uV (uV (uV (uV (uV (uV (uV (uV (uV (uV ve 9 u.2.2.2.2.2.2.2.2.2.1) 10 u.2.2.2.2.2.2.2.2.2.2.1) 11 u.2.2.2.2.2.2.2.2.2.2.2.1) 12 u.2.2.2.2.2.2.2.2.2.2.2.2.1) 20 u.2.2.2.2.2.2.2.2.2.2.2.2.2.1) 21 u.2.2.2.2.2.2.2.2.2.2.2.2.2.2.1) 22 u.2.2.2.2.2.2.2.2.2.2.2.2.2.2.2.1) 30 u.2.2.2.2.2.2.2.2.2.2.2.2.2.2.2.2.1) 31 u.2.2.2.2.2.2.2.2.2.2.2.2.2.2.2.2.2.1) 32 u.2.2.2.2.2.2.2.2.2.2.2.2.2.2.2.2.2.2) ae))) 0 0 := by
  refine z_start (cc := cX4_readPart) (maxL := 3) (ret := (some .boolean)) (by decide) rfl (Nat.le_of_ble_eq_true rfl) ?_
  intro p e s m below meth c A ls F hr hlk hnm hAe hA hW hl
  have hx := F.1
  have hb := F.2.1
  have hown : s.vm.findClass RX4 = some m.cls := F.2.2.2.1
  have hts := F.2.2.2.2
  have hl : lv_has ls 3 [(0, .ref hd), (1, .ref he)] := hl
  have hk9 := KND_R (T := T) (z := z) (y := y)
  have ek9 := hR.2.2.2.1
  have hpi := PB_iff (KND T z y)
  refine lv_aload_n hx hb dX4_readPart_0 rfl (lv_at hl 0 rfl) ?_
  refine z_get (v := .int (iI (vd 4))) hx hb hts hiX4_readPart_X4 hown hW 0 4 1 rfl rfl rfl (by decide) rfl dX4_readPart_1 ?_
  refine z_name (fun kk ek => ?_)
  rcases PBc (KND T z y) with e9 | ⟨hkn, e9⟩ | ⟨hkn, e9⟩ | ⟨hkn, e9⟩ | ⟨hkn, e9⟩ | ⟨hkn, e9⟩
  · exact absurd e9 hp9
  · have e1 : kk = 8 := ek.trans (ek9.trans hkn)
    subst e1
    rw [e9] at hz9
    refine lv_istore_n (lv' := [(2, .int (iI 8)), (0, .ref hd), (1, .ref he)]) hx hb dX4_readPart_4 rfl hl (by decide) rfl (fun ls hl => ?_)
    refine lv_aload_n hx hb dX4_readPart_5 rfl (lv_at hl 1 rfl) ?_
    refine z_callV (As := []) (rest := []) F (c_X4_advance  hd qd vd ad qo vo ao  T z y hK hR (show 2 ≤ KND T z y by omega)) gX4_readPart_X4_advance rfl ziX4_advance ⟨rfl, rfl, by decide, by decide⟩ rfl hl.1 rfl (Nat.le_of_ble_eq_true rfl) dX4_readPart_6 ⟨Nat.zero_le _, Nat.zero_le _⟩ hW hA [0, 1, 2, 3, 4] rfl (by decide) (fun _ => rfl) (fun u => (rW cI cJ hd qd (uV (uV (uV (uV vd 2 u.1) 3 u.2.1) 4 u.2.2.1) 5 u.2.2.2) ad) ++ ((sW cI cJ (qd 0) qo vo ao) ++ (lW cI cJ he qe ve ae))) (fun _ => rfl) (fun u => []) (fun _ => rfl) 0 rfl rfl rfl (fun u H locs hp6 hW => ?_)
    obtain ⟨b2_1, b3_2, b4_3, b5_4⟩ := u
    have hp6 : RT T z (tkB T z y) ((vo 3)) b3_2 b4_3 b5_4 b2_1 := hp6
    have hW : zW G (tyZ cI cJ cO) A s ((rW cI cJ hd qd (uV (uV (uV (uV vd 2 b2_1) 3 b3_2) 4 b4_3) 5 b5_4) ad) ++ ((sW cI cJ (qd 0) qo vo ao) ++ (lW cI cJ he qe ve ae))) H locs := hW
    have hR : RT T z (tkB T z y) (vo 3) b3_2 b4_3 b5_4 b2_1 := hp6
    clear hp6
    have hy9 := hR.1
    have hk9 := KND_R (T := T) (z := z) (y := tkB T z y)
    have ek9 := hR.2.2.2.1
    refine lv_iload_n hx hb dX4_readPart_9 rfl (lv_at hl 0 rfl) ?_
    refine z_tabIn (z := 8) (tgt := 52) hx hb dX4_readPart_10 rfl (by decide) (by decide) (by decide) rfl (by decide) ?_
    refine lv_aload_n hx hb dX4_readPart_52 rfl (lv_at hl 1 rfl) ?_
    refine lv_aload_n hx hb dX4_readPart_53 rfl (lv_at hl 2 rfl) ?_
    refine z_callV (As := [.ref he]) (rest := []) F (c_X4_readBy (uI N (483 + 500 * x + 7) (zor (N (483 + 500 * x + 7)) 1)) x hd qd (uV (uV (uV (uV vd 2 b2_1) 3 b3_2) 4 b4_3) 5 b5_4) ad qo vo ao he qe ve ae  T z (tkB T z y) hK hR) gX4_readPart_X4_readBy rfl ziX4_readBy ⟨rfl, rfl, by decide, by decide⟩ rfl hl.1 rfl (Nat.le_of_ble_eq_true rfl) dX4_readPart_54 ⟨Nat.zero_le _, Nat.zero_le _⟩ hW hA [0, 1, 2, 3, 4, 5, 6, 7, 8, 9] rfl (by decide) (fun _ => rfl) (fun u => (rW cI cJ hd qd (uV (uV (uV (uV (uV (uV vd 1 u.2.2.2.1) 2 u.2.2.2.2.1) 3 u.2.2.2.2.2.1) 4 u.2.2.2.2.2.2.1) 5 u.2.2.2.2.2.2.2.1) 6 u.2.2.2.2.2.2.2.2.1) ad) ++ ((sW cI cJ (qd 0) qo vo ao) ++ (lW cI cJ he qe (uV (uV ve 9 u.2.2.2.2.2.2.2.2.2.1) 10 u.2.2.2.2.2.2.2.2.2.2) ae))) (fun _ => rfl) (fun u => [.int (iI (bI (u.1 = 0)))]) (fun _ => rfl) 0 rfl rfl rfl (fun u H locs hp54 hW => ?_)
    obtain ⟨ff_5, yy_6, nn_7, b1_8, b2_9, b3_10, b4_11, b5_12, b6_13, c9_14, c10_15⟩ := u
    have hp54 : Pby T z x (tkB T z y) (uI N (483 + 500 * x + 7) (zor (N (483 + 500 * x + 7)) 1)) = (ff_5, yy_6, nn_7) ∧ RT T z yy_6 ((vo 3)) b3_10 b4_11 b5_12 b2_9 ∧ NF1 ff_5 b1_8 ∧ N8 ff_5 b1_8 ((vd 1)) ∧ BYo ff_5 nn_7 (uI N (483 + 500 * x + 7) (zor (N (483 + 500 * x + 7)) 1)) x c9_14 c10_15 ((ve 10)) := hp54
    have hW : zW G (tyZ cI cJ cO) A s ((rW cI cJ hd qd (uV (uV (uV (uV (uV (uV vd 1 b1_8) 2 b2_9) 3 b3_10) 4 b4_11) 5 b5_12) 6 b6_13) ad) ++ ((sW cI cJ (qd 0) qo vo ao) ++ (lW cI cJ he qe (uV (uV ve 9 c9_14) 10 c10_15) ae))) H locs := hW
    have hR : RT T z yy_6 (vo 3) b3_10 b4_11 b5_12 b2_9 := hp54.2.1
    have hk9 := KND_R (T := T) (z := z) (y := yy_6)
    have ek9 := hR.2.2.2.1
    exact z_zret hx hb hr hlk (by unfold bI; split <;> omega) hW (⟨ff_5, yy_6, nn_7, b1_8, b2_9, b3_10, b4_11, b5_12, b6_13, c9_14, c10_15, ve 11, ve 12, ve 20, ve 21, ve 22, ve 30, ve 31, ve 32⟩) rfl (show _ = _ ∧ RT _ _ _ _ _ _ _ _ ∧ NF1 _ _ ∧ N8 _ _ _ ∧ LXo _ _ _ _ from ⟨by rw [e9, hkn]; unfold Ppt; rw [if_pos rfl, hp54.1], hR, hp54.2.2.1, hp54.2.2.2.1, (fun q => by rcases hp54.2.2.2.2 q with ⟨g1, g2, g3⟩ | g3; (rw [g1, g2]; have t := LX_1m (N := N) (x := x) hlx h79 hz9; rw [g3]; exact t); (have t := LX_1 (N := N) (x := x) (b := c9_14) (g := c10_15) hlx h79 hz9; rw [g3]; exact t))⟩) rfl dX4_readPart_57
  · have e1 : kk = 12 := ek.trans (ek9.trans hkn)
    subst e1
    rw [e9] at hz9
    refine lv_istore_n (lv' := [(2, .int (iI 12)), (0, .ref hd), (1, .ref he)]) hx hb dX4_readPart_4 rfl hl (by decide) rfl (fun ls hl => ?_)
    refine lv_aload_n hx hb dX4_readPart_5 rfl (lv_at hl 1 rfl) ?_
    refine z_callV (As := []) (rest := []) F (c_X4_advance  hd qd vd ad qo vo ao  T z y hK hR (show 2 ≤ KND T z y by omega)) gX4_readPart_X4_advance rfl ziX4_advance ⟨rfl, rfl, by decide, by decide⟩ rfl hl.1 rfl (Nat.le_of_ble_eq_true rfl) dX4_readPart_6 ⟨Nat.zero_le _, Nat.zero_le _⟩ hW hA [0, 1, 2, 3, 4] rfl (by decide) (fun _ => rfl) (fun u => (rW cI cJ hd qd (uV (uV (uV (uV vd 2 u.1) 3 u.2.1) 4 u.2.2.1) 5 u.2.2.2) ad) ++ ((sW cI cJ (qd 0) qo vo ao) ++ (lW cI cJ he qe ve ae))) (fun _ => rfl) (fun u => []) (fun _ => rfl) 0 rfl rfl rfl (fun u H locs hp6 hW => ?_)
    obtain ⟨b2_16, b3_17, b4_18, b5_19⟩ := u
    have hp6 : RT T z (tkB T z y) ((vo 3)) b3_17 b4_18 b5_19 b2_16 := hp6
    have hW : zW G (tyZ cI cJ cO) A s ((rW cI cJ hd qd (uV (uV (uV (uV vd 2 b2_16) 3 b3_17) 4 b4_18) 5 b5_19) ad) ++ ((sW cI cJ (qd 0) qo vo ao) ++ (lW cI cJ he qe ve ae))) H locs := hW
    have hR : RT T z (tkB T z y) (vo 3) b3_17 b4_18 b5_19 b2_16 := hp6
    clear hp6
    have hy9 := hR.1
    have hk9 := KND_R (T := T) (z := z) (y := tkB T z y)
    have ek9 := hR.2.2.2.1
    refine lv_iload_n hx hb dX4_readPart_9 rfl (lv_at hl 0 rfl) ?_
    refine z_tabIn (z := 12) (tgt := 58) hx hb dX4_readPart_10 rfl (by decide) (by decide) (by decide) rfl (by decide) ?_
    refine lv_aload_n hx hb dX4_readPart_58 rfl (lv_at hl 1 rfl) ?_
    refine lv_aload_n hx hb dX4_readPart_59 rfl (lv_at hl 2 rfl) ?_
    refine z_get (v := .ref (qe 0)) hx hb hts hiX4_readPart_X2 hown hW 5 0 2 rfl rfl rfl (by decide) rfl dX4_readPart_60 ?_
    refine z_callV (As := [.ref (qe 0)]) (rest := []) F (c_X4_readLimits (uI N (483 + 500 * x + 7) (zor (N (483 + 500 * x + 7)) 2)) hd qd (uV (uV (uV (uV vd 2 b2_16) 3 b3_17) 4 b4_18) 5 b5_19) ad qo vo ao he qe ve ae  T z (tkB T z y) (483 + 500 * x + 8) (483 + 500 * x + 9) hK hR) gX4_readPart_X4_readLimits rfl ziX4_readLimits ⟨rfl, rfl, by decide, by decide⟩ rfl hl.1 rfl (Nat.le_of_ble_eq_true rfl) dX4_readPart_63 ⟨Nat.zero_le _, Nat.zero_le _⟩ hW hA [0, 1, 2, 3, 4, 5, 6, 7, 8, 9] rfl (by decide) (fun _ => rfl) (fun u => (rW cI cJ hd qd (uV (uV (uV (uV (uV (uV vd 1 u.2.2.2.1) 2 u.2.2.2.2.1) 3 u.2.2.2.2.2.1) 4 u.2.2.2.2.2.2.1) 5 u.2.2.2.2.2.2.2.1) 6 u.2.2.2.2.2.2.2.2.1) ad) ++ ((sW cI cJ (qd 0) qo vo ao) ++ (lW cI cJ he qe (uV (uV (uV ve 20 u.2.2.2.2.2.2.2.2.2.1) 21 u.2.2.2.2.2.2.2.2.2.2.1) 22 u.2.2.2.2.2.2.2.2.2.2.2) ae))) (fun _ => rfl) (fun u => [.int (iI (bI (u.1 = 0)))]) (fun _ => rfl) 0 rfl rfl rfl (fun u H locs hp63 hW => ?_)
    obtain ⟨ff_20, yy_21, nn_22, b1_23, b2_24, b3_25, b4_26, b5_27, b6_28, c0_29, c1_30, c2_31⟩ := u
    have hp63 : (bnd (Pnum T z (483 + 500 * x + 8) 0 999 (tkB T z y) (uI N (483 + 500 * x + 7) (zor (N (483 + 500 * x + 7)) 2))) fun y1 N1 => Pnum T z (483 + 500 * x + 9) 0 999 y1 N1) = (ff_20, yy_21, nn_22) ∧ RT T z yy_21 ((vo 3)) b3_25 b4_26 b5_27 b2_24 ∧ NF1 ff_20 b1_23 ∧ N8 ff_20 b1_23 ((vd 1)) ∧ LMo ff_20 nn_22 (uI N (483 + 500 * x + 7) (zor (N (483 + 500 * x + 7)) 2)) (483 + 500 * x + 8) (483 + 500 * x + 9) c0_29 c1_30 c2_31 := hp63
    have hW : zW G (tyZ cI cJ cO) A s ((rW cI cJ hd qd (uV (uV (uV (uV (uV (uV vd 1 b1_23) 2 b2_24) 3 b3_25) 4 b4_26) 5 b5_27) 6 b6_28) ad) ++ ((sW cI cJ (qd 0) qo vo ao) ++ (lW cI cJ he qe (uV (uV (uV ve 20 c0_29) 21 c1_30) 22 c2_31) ae))) H locs := hW
    have hR : RT T z yy_21 (vo 3) b3_25 b4_26 b5_27 b2_24 := hp63.2.1
    have hk9 := KND_R (T := T) (z := z) (y := yy_21)
    have ek9 := hR.2.2.2.1
    exact z_zret hx hb hr hlk (by unfold bI; split <;> omega) hW (⟨ff_20, yy_21, nn_22, b1_23, b2_24, b3_25, b4_26, b5_27, b6_28, ve 9, ve 10, ve 11, ve 12, c0_29, c1_30, c2_31, ve 30, ve 31, ve 32⟩) rfl (show _ = _ ∧ RT _ _ _ _ _ _ _ _ ∧ NF1 _ _ ∧ N8 _ _ _ ∧ LXo _ _ _ _ from ⟨by rw [e9, hkn]; unfold Ppt; rw [if_neg (by decide), if_pos rfl, hp63.1], hR, hp63.2.2.1, hp63.2.2.2.1, (fun q => by have t := LX_2 (N := N) (x := x) (b := c1_30) (g := c2_31) hlx h79 hz9; rw [(hp63.2.2.2.2 q).1, (hp63.2.2.2.2 q).2]; exact t)⟩) rfl dX4_readPart_66
  · have e1 : kk = 13 := ek.trans (ek9.trans hkn)
    subst e1
    rw [e9] at hz9
    refine lv_istore_n (lv' := [(2, .int (iI 13)), (0, .ref hd), (1, .ref he)]) hx hb dX4_readPart_4 rfl hl (by decide) rfl (fun ls hl => ?_)
    refine lv_aload_n hx hb dX4_readPart_5 rfl (lv_at hl 1 rfl) ?_
    refine z_callV (As := []) (rest := []) F (c_X4_advance  hd qd vd ad qo vo ao  T z y hK hR (show 2 ≤ KND T z y by omega)) gX4_readPart_X4_advance rfl ziX4_advance ⟨rfl, rfl, by decide, by decide⟩ rfl hl.1 rfl (Nat.le_of_ble_eq_true rfl) dX4_readPart_6 ⟨Nat.zero_le _, Nat.zero_le _⟩ hW hA [0, 1, 2, 3, 4] rfl (by decide) (fun _ => rfl) (fun u => (rW cI cJ hd qd (uV (uV (uV (uV vd 2 u.1) 3 u.2.1) 4 u.2.2.1) 5 u.2.2.2) ad) ++ ((sW cI cJ (qd 0) qo vo ao) ++ (lW cI cJ he qe ve ae))) (fun _ => rfl) (fun u => []) (fun _ => rfl) 0 rfl rfl rfl (fun u H locs hp6 hW => ?_)
    obtain ⟨b2_32, b3_33, b4_34, b5_35⟩ := u
    have hp6 : RT T z (tkB T z y) ((vo 3)) b3_33 b4_34 b5_35 b2_32 := hp6
    have hW : zW G (tyZ cI cJ cO) A s ((rW cI cJ hd qd (uV (uV (uV (uV vd 2 b2_32) 3 b3_33) 4 b4_34) 5 b5_35) ad) ++ ((sW cI cJ (qd 0) qo vo ao) ++ (lW cI cJ he qe ve ae))) H locs := hW
    have hR : RT T z (tkB T z y) (vo 3) b3_33 b4_34 b5_35 b2_32 := hp6
    clear hp6
    have hy9 := hR.1
    have hk9 := KND_R (T := T) (z := z) (y := tkB T z y)
    have ek9 := hR.2.2.2.1
    refine lv_iload_n hx hb dX4_readPart_9 rfl (lv_at hl 0 rfl) ?_
    refine z_tabIn (z := 13) (tgt := 67) hx hb dX4_readPart_10 rfl (by decide) (by decide) (by decide) rfl (by decide) ?_
    refine lv_aload_n hx hb dX4_readPart_67 rfl (lv_at hl 1 rfl) ?_
    refine lv_aload_n hx hb dX4_readPart_68 rfl (lv_at hl 2 rfl) ?_
    refine z_get (v := .ref (qe 1)) hx hb hts hiX4_readPart_X2 hown hW 5 1 3 rfl rfl rfl (by decide) rfl dX4_readPart_69 ?_
    refine z_callV (As := [.ref (qe 1)]) (rest := []) F (c_X4_readLimitso (uI N (483 + 500 * x + 7) (zor (N (483 + 500 * x + 7)) 4)) hd qd (uV (uV (uV (uV vd 2 b2_32) 3 b3_33) 4 b4_34) 5 b5_35) ad qo vo ao he qe ve ae  T z (tkB T z y) (483 + 500 * x + 10) (483 + 500 * x + 11) hK hR) gX4_readPart_X4_readLimits rfl ziX4_readLimits ⟨rfl, rfl, by decide, by decide⟩ rfl hl.1 rfl (Nat.le_of_ble_eq_true rfl) dX4_readPart_72 ⟨Nat.zero_le _, Nat.zero_le _⟩ hW hA [0, 1, 2, 3, 4, 5, 6, 7, 8, 9] rfl (by decide) (fun _ => rfl) (fun u => (rW cI cJ hd qd (uV (uV (uV (uV (uV (uV vd 1 u.2.2.2.1) 2 u.2.2.2.2.1) 3 u.2.2.2.2.2.1) 4 u.2.2.2.2.2.2.1) 5 u.2.2.2.2.2.2.2.1) 6 u.2.2.2.2.2.2.2.2.1) ad) ++ ((sW cI cJ (qd 0) qo vo ao) ++ (lW cI cJ he qe (uV (uV (uV ve 30 u.2.2.2.2.2.2.2.2.2.1) 31 u.2.2.2.2.2.2.2.2.2.2.1) 32 u.2.2.2.2.2.2.2.2.2.2.2) ae))) (fun _ => rfl) (fun u => [.int (iI (bI (u.1 = 0)))]) (fun _ => rfl) 0 rfl rfl rfl (fun u H locs hp72 hW => ?_)
    obtain ⟨ff_36, yy_37, nn_38, b1_39, b2_40, b3_41, b4_42, b5_43, b6_44, c0_45, c1_46, c2_47⟩ := u
    have hp72 : (bnd (Pnum T z (483 + 500 * x + 10) 0 999 (tkB T z y) (uI N (483 + 500 * x + 7) (zor (N (483 + 500 * x + 7)) 4))) fun y1 N1 => Pnum T z (483 + 500 * x + 11) 0 999 y1 N1) = (ff_36, yy_37, nn_38) ∧ RT T z yy_37 ((vo 3)) b3_41 b4_42 b5_43 b2_40 ∧ NF1 ff_36 b1_39 ∧ N8 ff_36 b1_39 ((vd 1)) ∧ LMo ff_36 nn_38 (uI N (483 + 500 * x + 7) (zor (N (483 + 500 * x + 7)) 4)) (483 + 500 * x + 10) (483 + 500 * x + 11) c0_45 c1_46 c2_47 := hp72
    have hW : zW G (tyZ cI cJ cO) A s ((rW cI cJ hd qd (uV (uV (uV (uV (uV (uV vd 1 b1_39) 2 b2_40) 3 b3_41) 4 b4_42) 5 b5_43) 6 b6_44) ad) ++ ((sW cI cJ (qd 0) qo vo ao) ++ (lW cI cJ he qe (uV (uV (uV ve 30 c0_45) 31 c1_46) 32 c2_47) ae))) H locs := hW
    have hR : RT T z yy_37 (vo 3) b3_41 b4_42 b5_43 b2_40 := hp72.2.1
    have hk9 := KND_R (T := T) (z := z) (y := yy_37)
    have ek9 := hR.2.2.2.1
    exact z_zret hx hb hr hlk (by unfold bI; split <;> omega) hW (⟨ff_36, yy_37, nn_38, b1_39, b2_40, b3_41, b4_42, b5_43, b6_44, ve 9, ve 10, ve 11, ve 12, ve 20, ve 21, ve 22, c0_45, c1_46, c2_47⟩) rfl (show _ = _ ∧ RT _ _ _ _ _ _ _ _ ∧ NF1 _ _ ∧ N8 _ _ _ ∧ LXo _ _ _ _ from ⟨by rw [e9, hkn]; unfold Ppt; rw [if_neg (by decide), if_neg (by decide), if_pos rfl, hp72.1], hR, hp72.2.2.1, hp72.2.2.2.1, (fun q => by have t := LX_4 (N := N) (x := x) (b := c1_46) (g := c2_47) hlx h79 hz9; rw [(hp72.2.2.2.2 q).1, (hp72.2.2.2.2 q).2]; exact t)⟩) rfl dX4_readPart_75
  · have e1 : kk = 14 := ek.trans (ek9.trans hkn)
    subst e1
    rw [e9] at hz9
    refine lv_istore_n (lv' := [(2, .int (iI 14)), (0, .ref hd), (1, .ref he)]) hx hb dX4_readPart_4 rfl hl (by decide) rfl (fun ls hl => ?_)
    refine lv_aload_n hx hb dX4_readPart_5 rfl (lv_at hl 1 rfl) ?_
    refine z_callV (As := []) (rest := []) F (c_X4_advance  hd qd vd ad qo vo ao  T z y hK hR (show 2 ≤ KND T z y by omega)) gX4_readPart_X4_advance rfl ziX4_advance ⟨rfl, rfl, by decide, by decide⟩ rfl hl.1 rfl (Nat.le_of_ble_eq_true rfl) dX4_readPart_6 ⟨Nat.zero_le _, Nat.zero_le _⟩ hW hA [0, 1, 2, 3, 4] rfl (by decide) (fun _ => rfl) (fun u => (rW cI cJ hd qd (uV (uV (uV (uV vd 2 u.1) 3 u.2.1) 4 u.2.2.1) 5 u.2.2.2) ad) ++ ((sW cI cJ (qd 0) qo vo ao) ++ (lW cI cJ he qe ve ae))) (fun _ => rfl) (fun u => []) (fun _ => rfl) 0 rfl rfl rfl (fun u H locs hp6 hW => ?_)
    obtain ⟨b2_48, b3_49, b4_50, b5_51⟩ := u
    have hp6 : RT T z (tkB T z y) ((vo 3)) b3_49 b4_50 b5_51 b2_48 := hp6
    have hW : zW G (tyZ cI cJ cO) A s ((rW cI cJ hd qd (uV (uV (uV (uV vd 2 b2_48) 3 b3_49) 4 b4_50) 5 b5_51) ad) ++ ((sW cI cJ (qd 0) qo vo ao) ++ (lW cI cJ he qe ve ae))) H locs := hW
    have hR : RT T z (tkB T z y) (vo 3) b3_49 b4_50 b5_51 b2_48 := hp6
    clear hp6
    have hy9 := hR.1
    have hk9 := KND_R (T := T) (z := z) (y := tkB T z y)
    have ek9 := hR.2.2.2.1
    refine lv_iload_n hx hb dX4_readPart_9 rfl (lv_at hl 0 rfl) ?_
    refine z_tabIn (z := 14) (tgt := 76) hx hb dX4_readPart_10 rfl (by decide) (by decide) (by decide) rfl (by decide) ?_
    refine lv_aload_n hx hb dX4_readPart_76 rfl (lv_at hl 2 rfl) ?_
    refine z_iconst (n := 1) hx hb dX4_readPart_77 ?_
    refine z_put hx hb hts hiX4_readPart_X2 tyX2 tyX2_ok nmX2 hown hW 5 11 4 rfl rfl (by decide) (Nat.le_of_ble_eq_true rfl) rfl rfl (by decide +kernel) (by decide +kernel) dX4_readPart_78 (fun H locs hW => ?_)
    have hW : zW G (tyZ cI cJ cO) A s ((rW cI cJ hd qd (uV (uV (uV (uV vd 2 b2_48) 3 b3_49) 4 b4_50) 5 b5_51) ad) ++ ((sW cI cJ (qd 0) qo vo ao) ++ (lW cI cJ he qe (uV ve 11 1) ae))) H locs := hW
    refine z_iconst (n := 1) hx hb dX4_readPart_81 ?_
    exact z_zret hx hb hr hlk (by first | exact Or.inl rfl | exact Or.inr rfl | omega) hW (⟨0, tkB T z y, uI N (483 + 500 * x + 7) (zor (N (483 + 500 * x + 7)) 8), vd 1, b2_48, b3_49, b4_50, b5_51, vd 6, ve 9, ve 10, 1, ve 12, ve 20, ve 21, ve 22, ve 30, ve 31, ve 32⟩) (bI_t (show (0 : Int) = 0 from rfl)) (show _ = _ ∧ RT _ _ _ _ _ _ _ _ ∧ NF1 _ _ ∧ N8 _ _ _ ∧ LXo _ _ _ _ from ⟨by rw [e9, hkn]; unfold Ppt; rw [if_neg (by decide), if_neg (by decide), if_neg (by decide), if_neg (by decide)], hR, (fun q => absurd rfl q), (fun _ => rfl), (fun _ => by have t := LX_8 (N := N) (x := x) hlx h79 hz9; exact t)⟩) rfl dX4_readPart_82
  · have e1 : kk = 15 := ek.trans (ek9.trans hkn)
    subst e1
    rw [e9] at hz9
    refine lv_istore_n (lv' := [(2, .int (iI 15)), (0, .ref hd), (1, .ref he)]) hx hb dX4_readPart_4 rfl hl (by decide) rfl (fun ls hl => ?_)
    refine lv_aload_n hx hb dX4_readPart_5 rfl (lv_at hl 1 rfl) ?_
    refine z_callV (As := []) (rest := []) F (c_X4_advance  hd qd vd ad qo vo ao  T z y hK hR (show 2 ≤ KND T z y by omega)) gX4_readPart_X4_advance rfl ziX4_advance ⟨rfl, rfl, by decide, by decide⟩ rfl hl.1 rfl (Nat.le_of_ble_eq_true rfl) dX4_readPart_6 ⟨Nat.zero_le _, Nat.zero_le _⟩ hW hA [0, 1, 2, 3, 4] rfl (by decide) (fun _ => rfl) (fun u => (rW cI cJ hd qd (uV (uV (uV (uV vd 2 u.1) 3 u.2.1) 4 u.2.2.1) 5 u.2.2.2) ad) ++ ((sW cI cJ (qd 0) qo vo ao) ++ (lW cI cJ he qe ve ae))) (fun _ => rfl) (fun u => []) (fun _ => rfl) 0 rfl rfl rfl (fun u H locs hp6 hW => ?_)
    obtain ⟨b2_52, b3_53, b4_54, b5_55⟩ := u
    have hp6 : RT T z (tkB T z y) ((vo 3)) b3_53 b4_54 b5_55 b2_52 := hp6
    have hW : zW G (tyZ cI cJ cO) A s ((rW cI cJ hd qd (uV (uV (uV (uV vd 2 b2_52) 3 b3_53) 4 b4_54) 5 b5_55) ad) ++ ((sW cI cJ (qd 0) qo vo ao) ++ (lW cI cJ he qe ve ae))) H locs := hW
    have hR : RT T z (tkB T z y) (vo 3) b3_53 b4_54 b5_55 b2_52 := hp6
    clear hp6
    have hy9 := hR.1
    have hk9 := KND_R (T := T) (z := z) (y := tkB T z y)
    have ek9 := hR.2.2.2.1
    refine lv_iload_n hx hb dX4_readPart_9 rfl (lv_at hl 0 rfl) ?_
    refine z_tabOut (tgt := 83) hx hb dX4_readPart_10 (by decide) (by omega) (by decide) ?_
    refine lv_aload_n hx hb dX4_readPart_83 rfl (lv_at hl 1 rfl) ?_
    refine lv_aload_n hx hb dX4_readPart_84 rfl (lv_at hl 2 rfl) ?_
    have hs9 : 0 ≤ ve 4 ∧ ve 4 ≤ 119 ∧ 1 ≤ ve 5 ∧ ve 5 ≤ 120 := by rw [hlx.1, hlx.2.1]; exact hs
    refine z_callV (As := [.ref he]) (rest := []) F (c_X4_readBreak  hd qd (uV (uV (uV (uV vd 2 b2_52) 3 b3_53) 4 b4_54) 5 b5_55) ad qo vo ao he qe ve ae  T z (tkB T z y) hK hR (show 0 ≤ (ve 4) ∧ (ve 4) ≤ 119 ∧ 1 ≤ (ve 5) ∧ (ve 5) ≤ 120 by omega)) gX4_readPart_X4_readBreak rfl ziX4_readBreak ⟨rfl, rfl, by decide, by decide⟩ rfl hl.1 rfl (Nat.le_of_ble_eq_true rfl) dX4_readPart_85 ⟨Nat.zero_le _, Nat.zero_le _⟩ hW hA [0, 1, 2, 3, 4, 5, 6, 7, 8, 9] rfl (by decide) (fun _ => rfl) (fun u => (rW cI cJ hd qd (uV (uV (uV (uV (uV (uV vd 1 u.2.2.1) 2 u.2.2.2.1) 3 u.2.2.2.2.1) 4 u.2.2.2.2.2.1) 5 u.2.2.2.2.2.2.1) 6 u.2.2.2.2.2.2.2.1) ad) ++ ((sW cI cJ (qd 0) qo vo ao) ++ (lW cI cJ he qe (uV ve 12 u.2.2.2.2.2.2.2.2) ae))) (fun _ => rfl) (fun u => [.int (iI (bI (u.1 = 0)))]) (fun _ => rfl) 0 rfl rfl rfl (fun u H locs hp85 hW => ?_)
    obtain ⟨ff_56, yy_57, b1_58, b2_59, b3_60, b4_61, b5_62, b6_63, c12_64⟩ := u
    have hp85 : Ptn T z ((ve 4) + 1) ((ve 4) + (ve 5) - 1) (tkB T z y) = (ff_56, yy_57) ∧ RT T z yy_57 ((vo 3)) b3_60 b4_61 b5_62 b2_59 ∧ NF1 ff_56 b1_58 ∧ N8 ff_56 b1_58 ((vd 1)) ∧ N8 ff_56 c12_64 (tkN T z (tkB T z y)) := hp85
    have hW : zW G (tyZ cI cJ cO) A s ((rW cI cJ hd qd (uV (uV (uV (uV (uV (uV vd 1 b1_58) 2 b2_59) 3 b3_60) 4 b4_61) 5 b5_62) 6 b6_63) ad) ++ ((sW cI cJ (qd 0) qo vo ao) ++ (lW cI cJ he qe (uV ve 12 c12_64) ae))) H locs := hW
    have hR : RT T z yy_57 (vo 3) b3_60 b4_61 b5_62 b2_59 := hp85.2.1
    have hk9 := KND_R (T := T) (z := z) (y := yy_57)
    have ek9 := hR.2.2.2.1
    exact z_zret hx hb hr hlk (by unfold bI; split <;> omega) hW (⟨ff_56, yy_57, (if ff_56 = 0 then uI (uI N (483 + 500 * x + 7) (zor (N (483 + 500 * x + 7)) 16)) (483 + 500 * x + 12) (tkN T z (tkB T z y)) else uI N (483 + 500 * x + 7) (zor (N (483 + 500 * x + 7)) 16)), b1_58, b2_59, b3_60, b4_61, b5_62, b6_63, ve 9, ve 10, ve 11, c12_64, ve 20, ve 21, ve 22, ve 30, ve 31, ve 32⟩) rfl (show _ = _ ∧ RT _ _ _ _ _ _ _ _ ∧ NF1 _ _ ∧ N8 _ _ _ ∧ LXo _ _ _ _ from ⟨by rw [e9, hkn]; unfold Ppt; rw [if_neg (by decide), if_neg (by decide), if_neg (by decide), if_pos rfl, show (uI N (483 + 500 * x + 7) (zor (N (483 + 500 * x + 7)) 16)) (483 + 500 * x + 0) = ve 4 by rw [uI_n (by omega)]; exact hlx.1.symm, show (uI N (483 + 500 * x + 7) (zor (N (483 + 500 * x + 7)) 16)) (483 + 500 * x + 1) = ve 5 by rw [uI_n (by omega)]; exact hlx.2.1.symm]; by_cases q : ff_56 = 0; (rw [if_pos q]; exact (Ptn_0 hp85.1 q).1); (rw [if_neg q]; exact Ptn_1 hp85.1 q), hR, hp85.2.2.1, hp85.2.2.2.1, (fun q => by have t := LX_16 (N := N) (x := x) (b := c12_64) hlx h79 hz9; rw [hp85.2.2.2.2 q] at t; show LX (if ff_56 = 0 then _ else _) _ _; rw [if_pos q, hp85.2.2.2.2 q]; exact t)⟩) rfl dX4_readPart_88
