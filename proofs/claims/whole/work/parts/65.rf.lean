/-! the class: all parts of a lease -/
def PTo (ff : Int) (nn N : Int → Int) (i x : Int) (f : Nat → Int) : Prop := ff = 0 → (RD nn i ∧ nn 2 = N 2) ∧ LX nn x f ∧ ∀ j : Int, (j < 483 + 500 * x + 5 ∨ 483 + 500 * x + 13 ≤ j) → nn j = N j
theorem hiX4_readParts_X4 : ∀ w ∈ wsX40, w ∈ wsX4_readParts := fun _ h => List.mem_cons_of_mem _ (List.mem_append_left _ (List.mem_append_left _ (List.mem_append_left _ (List.mem_append_right _ h))))
theorem hiX4_readParts_X2 : ∀ w ∈ wsX20, w ∈ wsX4_readParts := fun _ h => List.mem_cons_of_mem _ (List.mem_append_left _ (List.mem_append_left _ (List.mem_append_right _ h)))
theorem hiX4_readParts_X3 : ∀ w ∈ wsX30, w ∈ wsX4_readParts := fun _ h => List.mem_cons_of_mem _ (List.mem_append_left _ (List.mem_append_right _ h))
theorem hiX4_readParts_X7 : ∀ w ∈ wsX70, w ∈ wsX4_readParts := fun _ h => List.mem_cons_of_mem _ (List.mem_append_right _ h)
theorem ziX4_readParts : yX4_readParts.cls = RX4 ∧ yX4_readParts.cls ≠ "java/lang/invoke/MethodHandle" ∧ yX4_readParts.cls ≠ "java/lang/invoke/VarHandle" ∧ (parseMethodDescriptor yX4_readParts.desc).map (fun d => d.parameters.length) = some 1 := by decide +kernel
set_option maxHeartbeats 4000000 in
set_option maxRecDepth 100000 in
theorem c_X4_readParts {l : Launch} {G : va_G} {cI cJ cO : ClassId} (N : Int → Int) (x : Int) (hd : Nat) (qd : Nat → Nat) (vd : Nat → Int) (ad : Nat → Int → Int) (qo : Nat → Nat) (vo : Nat → Int) (ao : Nat → Int → Int) (he : Nat) (qe : Nat → Nat) (ve : Nat → Int) (ae : Nat → Int → Int)  (T : Int → Int) (z : Int) (y : Int) (i : Int) (hK : TKS T z (ao 0) (ao 1) (ao 2) (vo 3)) (hR : RT T z y (vo 3) (vd 3) (vd 4) (vd 5) (vd 2)) (hRD : RD N i) (hx9 : x = N 2 - 1 ∧ 0 ≤ x) (hlx : LX N x ve) (h70 : LF N x 7 = 0) : zC l yX4_readParts wsX4_readParts { frames := 4, cells := 0, slots := 0, locals := 87 } G (tyZ cI cJ cO) (S := (Int) × (Int) × (Int → Int) × Int × Int × Int × Int × Int × Int × Int × Int × Int × Int × Int × Int × Int × Int × Int × Int) [.ref hd, .ref he] ((rW cI cJ hd qd vd ad) ++ ((sW cI cJ (qd 0) qo vo ao) ++ (lW cI cJ he qe ve ae))) (zI (fun u => bI (u.1 = 0))) (fun u => Pprts T z x 6 y N = (u.1, u.2.1, u.2.2.1) ∧ RT T z u.2.1 (vo 3) u.2.2.2.2.2.1 u.2.2.2.2.2.2.1 u.2.2.2.2.2.2.2.1 u.2.2.2.2.1 ∧ NF1 u.1 u.2.2.2.1 ∧ N8 u.1 u.2.2.2.1 (vd 1) ∧ PTo u.1 u.2.2.1 N i x (uV (uV (uV (uV (uV (uV (uV (uV (uV (uV (ve) 9 u.2.2.2.2.2.2.2.2.2.1) 10 u.2.2.2.2.2.2.2.2.2.2.1) 11 u.2.2.2.2.2.2.2.2.2.2.2.1) 12 u.2.2.2.2.2.2.2.2.2.2.2.2.1) 20 u.2.2.2.2.2.2.2.2.2.2.2.2.2.1) 21 u.2.2.2.2.2.2.2.2.2.2.2.2.2.2.1) 22 u.2.2.2.2.2.2.2.2.2.2.2.2.2.2.2.1) 30 u.2.2.2.2.2.2.2.2.2.2.2.2.2.2.2.2.1) 31 u.2.2.2.2.2.2.2.2.2.2.2.2.2.2.2.2.2.1) 32 u.2.2.2.2.2.2.2.2.2.2.2.2.2.2.2.2.2.2)) (fun u => (rW cI cJ hd qd (uV (uV (uV (uV (uV (uV vd 1 u.2.2.2.1) 2 u.2.2.2.2.1) 3 u.2.2.2.2.2.1) 4 u.2.2.2.2.2.2.1) 5 u.2.2.2.2.2.2.2.1) 6 u.2.2.2.2.2.2.2.2.1) ad) ++ ((sW cI cJ (qd 0) qo vo ao) ++ (lW cI cJ he qe (uV (uV (uV (uV (uV (uV (uV (uV (uV (uV ve 9 u.2.2.2.2.2.2.2.2.2.1) 10 u.2.2.2.2.2.2.2.2.2.2.1) 11 u.2.2.2.2.2.2.2.2.2.2.2.1) 12 u.2.2.2.2.2.2.2.2.2.2.2.2.1) 20 u.2.2.2.2.2.2.2.2.2.2.2.2.2.1) 21 u.2.2.2.2.2.2.2.2.2.2.2.2.2.2.1) 22 u.2.2.2.2.2.2.2.2.2.2.2.2.2.2.2.1) 30 u.2.2.2.2.2.2.2.2.2.2.2.2.2.2.2.2.1) 31 u.2.2.2.2.2.2.2.2.2.2.2.2.2.2.2.2.2.1) 32 u.2.2.2.2.2.2.2.2.2.2.2.2.2.2.2.2.2.2) ae))) 0 0 := by
  refine z_start (cc := cX4_readParts) (maxL := 3) (ret := (some .boolean)) (by decide) rfl (Nat.le_of_ble_eq_true rfl) ?_
  intro p e s m below meth c A ls F hr hlk hnm hAe hA hW hl
  have hx := F.1
  have hb := F.2.1
  have hown : s.vm.findClass RX4 = some m.cls := F.2.2.2.1
  have hts := F.2.2.2.2
  have hl : lv_has ls 3 [(0, .ref hd), (1, .ref he)] := hl
  have hk9 := KND_R (T := T) (z := z) (y := y)
  have ek9 := hR.2.2.2.1
  refine z_iconst (n := 0) hx hb dX4_readParts_0 ?_
  refine lv_istore_n (lv' := [(2, .int (iI 0)), (0, .ref hd), (1, .ref he)]) hx hb dX4_readParts_1 rfl hl (by decide) rfl (fun ls hl => ?_)
  refine z_loop10 (fun (yv : Int) (Nv : Int → Int) (fe : Nat → Int) (p2 : Int) (b1v : Int) (b2v : Int) (b3v : Int) (b4v : Int) (b5v : Int) (b6v : Int) (ls : Array Slot) (H : Heap) (locs : List Loc) => (RD Nv i ∧ Nv 2 = N 2) ∧ (LX Nv x (uV (uV (uV (uV (uV (uV (uV (uV (uV (uV ve 9 (fe 9)) 10 (fe 10)) 11 (fe 11)) 12 (fe 12)) 20 (fe 20)) 21 (fe 21)) 22 (fe 22)) 30 (fe 30)) 31 (fe 31)) 32 (fe 32))) ∧ (∀ j : Int, (j < 483 + 500 * x + 5 ∨ 483 + 500 * x + 13 ≤ j) → Nv j = N j) ∧ (b1v = vd 1) ∧ (RT T z yv (vo 3) b3v b4v b5v b2v) ∧ (Pprts T z x (6 - PC (LF Nv x 7)).toNat yv Nv = Pprts T z x 6 y N) ∧ (p2 = PC (LF Nv x 7)) ∧ zW G (tyZ cI cJ cO) A s ((rW cI cJ hd qd (uV (uV (uV (uV (uV (uV vd 1 b1v) 2 b2v) 3 b3v) 4 b4v) 5 b5v) 6 b6v) ad) ++ ((sW cI cJ (qd 0) qo vo ao) ++ (lW cI cJ he qe (uV (uV (uV (uV (uV (uV (uV (uV (uV (uV ve 9 (fe 9)) 10 (fe 10)) 11 (fe 11)) 12 (fe 12)) 20 (fe 20)) 21 (fe 21)) 22 (fe 22)) 30 (fe 30)) 31 (fe 31)) 32 (fe 32)) ae))) H locs ∧ lv_has ls 3 [(2, .int (iI p2)), (0, .ref hd), (1, .ref he)]) (fun yv Nv fe p2 b1v b2v b3v b4v b5v b6v => (6 - p2).toNat) ?_ y N ve 0 (vd 1) (vd 2) (vd 3) (vd 4) (vd 5) (vd 6) _ _ _ ⟨⟨hRD, rfl⟩, hlx, (fun j _ => rfl), rfl, hR, (by rw [h70]; rfl), (by rw [h70]; decide), hW, (lv_sub hl [0, 1, 2] rfl)⟩
  intro yv Nv fe p2 b1v b2v b3v b4v b5v b6v ls H locs hI ih
  obtain ⟨i1, i2, i3, i4, hR, i5, i6, hW, hl⟩ := hI
  have hkp := PC_R (LF Nv x 7)
  have hlq := i1.1.2.2.2.2.2.1 x hx9.2 (by omega)
  have hl := hl
  have hk9 := KND_R (T := T) (z := z) (y := yv)
  have ek9 := hR.2.2.2.1
  have hL7 := hlq.1.2.2.2.2.2.2.2.1
  have hs := (show 0 ≤ LF Nv x 0 ∧ LF Nv x 0 ≤ 119 ∧ 1 ≤ LF Nv x 1 ∧ LF Nv x 1 ≤ 120 from ⟨hlq.1.1.1, hlq.1.1.2, hlq.1.2.1.1, hlq.1.2.1.2⟩)
  refine lv_iload_n hx hb dX4_readParts_2 rfl (lv_at hl 0 rfl) ?_
  refine z_iconst (n := 5) hx hb dX4_readParts_3 ?_
  refine z_icmp_gt (tgt := 52) hx hb dX4_readParts_4 (by decide) ⟨by omega, by omega⟩ (by decide) (fun c4 => ?_) (fun c4 => ?_)
  · exfalso; omega
  · have hk9 := KND_R (T := T) (z := z) (y := yv)
    have ek9 := hR.2.2.2.1
    refine lv_aload_n hx hb dX4_readParts_7 rfl (lv_at hl 1 rfl) ?_
    refine z_callV (As := []) (rest := []) F (c_X4_isPart  hd qd (uV (uV (uV (uV (uV (uV vd 1 b1v) 2 b2v) 3 b3v) 4 b4v) 5 b5v) 6 b6v) ad  T z yv hR.2.2.2.1) gX4_readParts_X4_isPart rfl ziX4_isPart ⟨rfl, rfl, by decide, by decide⟩ rfl hl.1 rfl (Nat.le_of_ble_eq_true rfl) dX4_readParts_8 ⟨Nat.zero_le _, Nat.zero_le _⟩ hW hA [0] rfl (by decide) (fun _ => rfl) (fun _ => (rW cI cJ hd qd (uV (uV (uV (uV (uV (uV vd 1 b1v) 2 b2v) 3 b3v) 4 b4v) 5 b5v) 6 b6v) ad) ++ ((sW cI cJ (qd 0) qo vo ao) ++ (lW cI cJ he qe (uV (uV (uV (uV (uV (uV (uV (uV (uV (uV ve 9 (fe 9)) 10 (fe 10)) 11 (fe 11)) 12 (fe 12)) 20 (fe 20)) 21 (fe 21)) 22 (fe 22)) 30 (fe 30)) 31 (fe 31)) 32 (fe 32)) ae))) (fun _ => rfl) (fun _ => [.int (iI (bI (PB (KND T z yv) ≠ 0)))]) (fun _ => rfl) 0 rfl rfl rfl (fun _ H locs hp8 hW => ?_)
    refine z_b_eq (tgt := 52) hx hb dX4_readParts_11 (by decide) (fun c11 => ?_) (fun c11 => ?_)
    · refine z_iconst (n := 1) hx hb dX4_readParts_52 ?_
      exact z_zret hx hb hr hlk (by first | exact Or.inl rfl | exact Or.inr rfl | omega) hW (⟨0, yv, Nv, b1v, b2v, b3v, b4v, b5v, b6v, fe 9, fe 10, fe 11, fe 12, fe 20, fe 21, fe 22, fe 30, fe 31, fe 32⟩) (bI_t (show (0 : Int) = 0 from rfl)) (show _ = _ ∧ RT _ _ _ _ _ _ _ _ ∧ NF1 _ _ ∧ N8 _ _ _ ∧ PTo _ _ _ _ _ _ from ⟨by rw [← i5, Pprts_E hkp (by omega)], hR, (fun q => absurd rfl q), (fun _ => i4), (fun _ => ⟨i1, i2, i3⟩)⟩) rfl dX4_readParts_53
    · refine lv_aload_n hx hb dX4_readParts_14 rfl (lv_at hl 1 rfl) ?_
      refine lv_aload_n hx hb dX4_readParts_15 rfl (lv_at hl 2 rfl) ?_
      refine z_callV (As := [.ref he]) (rest := []) F (c_X4_isToldIn Nv x hd qd (uV (uV (uV (uV (uV (uV vd 1 b1v) 2 b2v) 3 b3v) 4 b4v) 5 b5v) 6 b6v) ad he qe (uV (uV (uV (uV (uV (uV (uV (uV (uV (uV ve 9 (fe 9)) 10 (fe 10)) 11 (fe 11)) 12 (fe 12)) 20 (fe 20)) 21 (fe 21)) 22 (fe 22)) 30 (fe 30)) 31 (fe 31)) 32 (fe 32)) ae  T z yv hR.2.2.2.1 c11 i2 hlq) gX4_readParts_X4_isToldIn rfl ziX4_isToldIn ⟨rfl, rfl, by decide, by decide⟩ rfl hl.1 rfl (Nat.le_of_ble_eq_true rfl) dX4_readParts_16 ⟨Nat.zero_le _, Nat.zero_le _⟩ hW hA [0, 5, 6, 7, 8, 9] rfl (by decide) (fun _ => rfl) (fun _ => (rW cI cJ hd qd (uV (uV (uV (uV (uV (uV vd 1 b1v) 2 b2v) 3 b3v) 4 b4v) 5 b5v) 6 b6v) ad) ++ ((sW cI cJ (qd 0) qo vo ao) ++ (lW cI cJ he qe (uV (uV (uV (uV (uV (uV (uV (uV (uV (uV ve 9 (fe 9)) 10 (fe 10)) 11 (fe 11)) 12 (fe 12)) 20 (fe 20)) 21 (fe 21)) 22 (fe 22)) 30 (fe 30)) 31 (fe 31)) 32 (fe 32)) ae))) (fun _ => rfl) (fun _ => [.int (iI (bI (zand (LF Nv x 7) (PB (KND T z yv)) ≠ 0)))]) (fun _ => rfl) 0 rfl rfl rfl (fun _ H locs hp16 hW => ?_)
      refine z_b_eq (tgt := 28) hx hb dX4_readParts_19 (by decide) (fun c19 => ?_) (fun c19 => ?_)
      · have hzz : zand (LF Nv x 7) (PB (KND T z yv)) = 0 := by omega
        refine lv_aload_n hx hb dX4_readParts_28 rfl (lv_at hl 1 rfl) ?_
        refine lv_aload_n hx hb dX4_readParts_29 rfl (lv_at hl 2 rfl) ?_
        refine z_callV (As := [.ref he]) (rest := []) F (c_X4_readPart Nv x hd qd (uV (uV (uV (uV (uV (uV vd 1 b1v) 2 b2v) 3 b3v) 4 b4v) 5 b5v) 6 b6v) ad qo vo ao he qe (uV (uV (uV (uV (uV (uV (uV (uV (uV (uV ve 9 (fe 9)) 10 (fe 10)) 11 (fe 11)) 12 (fe 12)) 20 (fe 20)) 21 (fe 21)) 22 (fe 22)) 30 (fe 30)) 31 (fe 31)) 32 (fe 32)) ae  T z yv hK hR c11 i2 hL7 hzz hs) gX4_readParts_X4_readPart rfl ziX4_readPart ⟨rfl, rfl, by decide, by decide⟩ rfl hl.1 rfl (Nat.le_of_ble_eq_true rfl) dX4_readParts_30 ⟨Nat.zero_le _, Nat.zero_le _⟩ hW hA [0, 1, 2, 3, 4, 5, 6, 7, 8, 9] rfl (by decide) (fun _ => rfl) (fun u => (rW cI cJ hd qd (uV (uV (uV (uV (uV (uV vd 1 u.2.2.2.1) 2 u.2.2.2.2.1) 3 u.2.2.2.2.2.1) 4 u.2.2.2.2.2.2.1) 5 u.2.2.2.2.2.2.2.1) 6 u.2.2.2.2.2.2.2.2.1) ad) ++ ((sW cI cJ (qd 0) qo vo ao) ++ (lW cI cJ he qe (uV (uV (uV (uV (uV (uV (uV (uV (uV (uV ve 9 u.2.2.2.2.2.2.2.2.2.1) 10 u.2.2.2.2.2.2.2.2.2.2.1) 11 u.2.2.2.2.2.2.2.2.2.2.2.1) 12 u.2.2.2.2.2.2.2.2.2.2.2.2.1) 20 u.2.2.2.2.2.2.2.2.2.2.2.2.2.1) 21 u.2.2.2.2.2.2.2.2.2.2.2.2.2.2.1) 22 u.2.2.2.2.2.2.2.2.2.2.2.2.2.2.2.1) 30 u.2.2.2.2.2.2.2.2.2.2.2.2.2.2.2.2.1) 31 u.2.2.2.2.2.2.2.2.2.2.2.2.2.2.2.2.2.1) 32 u.2.2.2.2.2.2.2.2.2.2.2.2.2.2.2.2.2.2) ae))) (fun _ => rfl) (fun u => [.int (iI (bI (u.1 = 0)))]) (fun _ => rfl) 0 rfl rfl rfl (fun u H locs hp30 hW => ?_)
        obtain ⟨ff_1, yy_2, nn_3, b1_4, b2_5, b3_6, b4_7, b5_8, b6_9, c9_10, c10_11, c11_12, c12_13, c20_14, c21_15, c22_16, c30_17, c31_18, c32_19⟩ := u
        have hp30 : Ppt T z x (KND T z yv) (tkB T z yv) (uI Nv (483 + 500 * x + 7) (zor (Nv (483 + 500 * x + 7)) (PB (KND T z yv)))) = (ff_1, yy_2, nn_3) ∧ RT T z yy_2 ((vo 3)) b3_6 b4_7 b5_8 b2_5 ∧ NF1 ff_1 b1_4 ∧ N8 ff_1 b1_4 (b1v) ∧ LXo ff_1 nn_3 x (uV (uV (uV (uV (uV (uV (uV (uV (uV (uV ((uV (uV (uV (uV (uV (uV (uV (uV (uV (uV ve 9 (fe 9)) 10 (fe 10)) 11 (fe 11)) 12 (fe 12)) 20 (fe 20)) 21 (fe 21)) 22 (fe 22)) 30 (fe 30)) 31 (fe 31)) 32 (fe 32))) 9 c9_10) 10 c10_11) 11 c11_12) 12 c12_13) 20 c20_14) 21 c21_15) 22 c22_16) 30 c30_17) 31 c31_18) 32 c32_19) := hp30
        have hW : zW G (tyZ cI cJ cO) A s ((rW cI cJ hd qd (uV (uV (uV (uV (uV (uV vd 1 b1_4) 2 b2_5) 3 b3_6) 4 b4_7) 5 b5_8) 6 b6_9) ad) ++ ((sW cI cJ (qd 0) qo vo ao) ++ (lW cI cJ he qe (uV (uV (uV (uV (uV (uV (uV (uV (uV (uV ve 9 c9_10) 10 c10_11) 11 c11_12) 12 c12_13) 20 c20_14) 21 c21_15) 22 c22_16) 30 c30_17) 31 c31_18) 32 c32_19) ae))) H locs := hW
        have hR : RT T z yy_2 (vo 3) b3_6 b4_7 b5_8 b2_5 := hp30.2.1
        have hk9 := KND_R (T := T) (z := z) (y := yy_2)
        have ek9 := hR.2.2.2.1
        refine z_b_eq (tgt := 44) hx hb dX4_readParts_33 (by decide) (fun c33 => ?_) (fun c33 => ?_)
        · refine z_iconst (n := 0) hx hb dX4_readParts_44 ?_
          exact z_zret hx hb hr hlk (by first | exact Or.inl rfl | exact Or.inr rfl | omega) hW (⟨ff_1, yy_2, nn_3, b1_4, b2_5, b3_6, b4_7, b5_8, b6_9, c9_10, c10_11, c11_12, c12_13, c20_14, c21_15, c22_16, c30_17, c31_18, c32_19⟩) (bI_f c33) (show _ = _ ∧ RT _ _ _ _ _ _ _ _ ∧ NF1 _ _ ∧ N8 _ _ _ ∧ PTo _ _ _ _ _ _ from ⟨by rw [← i5, Pprts_L hkp c11]; unfold Ppart; rw [if_neg (fun q => q (show zand (Nv (483 + 500 * x + 7)) (PB (KND T z yv)) = 0 from hzz)), hp30.1, bnd_1 c33, bnd_1 c33], hR, hp30.2.2.1, (fun q => absurd q c33), (fun q => absurd q c33)⟩) rfl dX4_readParts_45
        · refine lv_aload_n hx hb dX4_readParts_36 rfl (lv_at hl 1 rfl) ?_
          refine z_iconst (n := 2) hx hb dX4_readParts_37 ?_
          refine z_callV (As := [.int (iI 2)]) (rest := []) F (c_X4_take  hd qd (uV (uV (uV (uV (uV (uV vd 1 b1_4) 2 b2_5) 3 b3_6) 4 b4_7) 5 b5_8) 6 b6_9) ad qo vo ao 2 T z yy_2 hK hR (show 2 ≤ 2 ∧ 2 ≤ 15 by omega)) gX4_readParts_X4_take rfl ziX4_take ⟨rfl, rfl, by decide, by decide⟩ rfl hl.1 rfl (Nat.le_of_ble_eq_true rfl) dX4_readParts_38 ⟨Nat.zero_le _, Nat.zero_le _⟩ hW hA [0, 1, 2, 3, 4] rfl (by decide) (fun _ => rfl) (fun u => (rW cI cJ hd qd (uV (uV (uV (uV (uV (uV vd 1 u.2.2.1) 2 u.2.2.2.1) 3 u.2.2.2.2.1) 4 u.2.2.2.2.2.1) 5 u.2.2.2.2.2.2.1) 6 u.2.2.2.2.2.2.2) ad) ++ ((sW cI cJ (qd 0) qo vo ao) ++ (lW cI cJ he qe (uV (uV (uV (uV (uV (uV (uV (uV (uV (uV ve 9 c9_10) 10 c10_11) 11 c11_12) 12 c12_13) 20 c20_14) 21 c21_15) 22 c22_16) 30 c30_17) 31 c31_18) 32 c32_19) ae))) (fun _ => rfl) (fun u => [.int (iI (bI (u.1 = 0)))]) (fun _ => rfl) 0 rfl rfl rfl (fun u H locs hp38 hW => ?_)
          obtain ⟨ff_20, yy_21, b1_22, b2_23, b3_24, b4_25, b5_26, b6_27⟩ := u
          have hp38 : Ptk T z 2 yy_2 = (ff_20, yy_21) ∧ RT T z yy_21 ((vo 3)) b3_24 b4_25 b5_26 b2_23 ∧ NF1 ff_20 b1_22 ∧ N8 ff_20 b1_22 (b1_4) := hp38
          have hW : zW G (tyZ cI cJ cO) A s ((rW cI cJ hd qd (uV (uV (uV (uV (uV (uV vd 1 b1_22) 2 b2_23) 3 b3_24) 4 b4_25) 5 b5_26) 6 b6_27) ad) ++ ((sW cI cJ (qd 0) qo vo ao) ++ (lW cI cJ he qe (uV (uV (uV (uV (uV (uV (uV (uV (uV (uV ve 9 c9_10) 10 c10_11) 11 c11_12) 12 c12_13) 20 c20_14) 21 c21_15) 22 c22_16) 30 c30_17) 31 c31_18) 32 c32_19) ae))) H locs := hW
          have hR : RT T z yy_21 (vo 3) b3_24 b4_25 b5_26 b2_23 := hp38.2.1
          have hk9 := KND_R (T := T) (z := z) (y := yy_21)
          have ek9 := hR.2.2.2.1
          refine z_b_ne (tgt := 46) hx hb dX4_readParts_41 (by decide) (fun c41 => ?_) (fun c41 => ?_)
          · have hPp : Ppart T z x yv Nv = (ff_20, yy_21, nn_3) := by unfold Ppart; rw [if_neg (fun q => q (show zand (Nv (483 + 500 * x + 7)) (PB (KND T z yv)) = 0 from hzz)), hp30.1, bnd_0 c33, Ptk_e hp38.1]
            have hP0 := Ppart_0 c11 hPp c41
            have hQ := RD_part i1.1 ⟨by omega, hx9.2⟩ hP0.1 hP0.2
            have hZ := zbI hL7 ((PB_R (KND T z yv)).2 c11) hzz
            refine z_iinc (k := 0) (lv' := [(2, .int (iI (p2 + 1))), (0, .ref hd), (1, .ref he)]) hx hb dX4_readParts_46 hl rfl (by decide) rfl (fun ls hl => ?_)
            refine lv_goto (tgt := 2) hx hb dX4_readParts_49 (by decide) ?_
            exact ih yy_21 nn_3 (uV (uV (uV (uV (uV (uV (uV (uV (uV (uV ve 9 c9_10) 10 c10_11) 11 c11_12) 12 c12_13) 20 c20_14) 21 c21_15) 22 c22_16) 30 c30_17) 31 c31_18) 32 c32_19) (p2 + 1) b1_22 b2_23 b3_24 b4_25 b5_26 b6_27 _ _ _ ⟨⟨hQ.1, hQ.2.1.trans i1.2⟩, (hp30.2.2.2.2 c33), (fun j hj => (hQ.2.2.2 j hj).trans (i3 j hj)), ((hp38.2.2.2 c41).trans ((hp30.2.2.2.1 c33).trans i4)), hR, (by rw [hQ.2.2.1, hZ.2.1, ← i5, Pprts_L hkp c11, hPp, bnd_0 c41]), (by rw [hQ.2.2.1, hZ.2.1, i6]), hW, (lv_sub hl [0, 1, 2] rfl)⟩ (tnp rfl (by have := hZ.2.2; omega))
          · refine z_iconst (n := 0) hx hb dX4_readParts_44 ?_
            exact z_zret hx hb hr hlk (by first | exact Or.inl rfl | exact Or.inr rfl | omega) hW (⟨ff_20, yy_21, nn_3, b1_22, b2_23, b3_24, b4_25, b5_26, b6_27, c9_10, c10_11, c11_12, c12_13, c20_14, c21_15, c22_16, c30_17, c31_18, c32_19⟩) (bI_f c41) (show _ = _ ∧ RT _ _ _ _ _ _ _ _ ∧ NF1 _ _ ∧ N8 _ _ _ ∧ PTo _ _ _ _ _ _ from ⟨by rw [← i5, Pprts_L hkp c11]; unfold Ppart; rw [if_neg (fun q => q (show zand (Nv (483 + 500 * x + 7)) (PB (KND T z yv)) = 0 from hzz)), hp30.1, bnd_0 c33, Ptk_e hp38.1, bnd_1 c41], hR, hp38.2.2.1, (fun q => absurd q c41), (fun q => absurd q c41)⟩) rfl dX4_readParts_45
      · refine lv_aload_n hx hb dX4_readParts_22 rfl (lv_at hl 1 rfl) ?_
        refine z_iconst (n := 4) hx hb dX4_readParts_23 ?_
        refine z_callV (As := [.int (iI 4)]) (rest := []) F (c_X4_refuse  hd qd (uV (uV (uV (uV (uV (uV vd 1 b1v) 2 b2v) 3 b3v) 4 b4v) 5 b5v) 6 b6v) ad 4  (show 1 ≤ 4 ∧ 4 ≤ 4 by omega)) gX4_readParts_X4_refuse rfl ziX4_refuse ⟨rfl, rfl, by decide, by decide⟩ rfl hl.1 rfl (Nat.le_of_ble_eq_true rfl) dX4_readParts_24 ⟨Nat.zero_le _, Nat.zero_le _⟩ hW hA [0] rfl (by decide) (fun _ => rfl) (fun _ => (rW cI cJ hd qd (uV (uV (uV (uV (uV (uV vd 2 b2v) 3 b3v) 4 b4v) 5 b5v) 6 b6v) 1 4) ad) ++ ((sW cI cJ (qd 0) qo vo ao) ++ (lW cI cJ he qe (uV (uV (uV (uV (uV (uV (uV (uV (uV (uV ve 9 (fe 9)) 10 (fe 10)) 11 (fe 11)) 12 (fe 12)) 20 (fe 20)) 21 (fe 21)) 22 (fe 22)) 30 (fe 30)) 31 (fe 31)) 32 (fe 32)) ae))) (fun _ => rfl) (fun _ => [.int (iI 0)]) (fun _ => rfl) 0 rfl rfl rfl (fun _ H locs hp24 hW => ?_)
        have hW : zW G (tyZ cI cJ cO) A s ((rW cI cJ hd qd (uV (uV (uV (uV (uV (uV vd 2 b2v) 3 b3v) 4 b4v) 5 b5v) 6 b6v) 1 4) ad) ++ ((sW cI cJ (qd 0) qo vo ao) ++ (lW cI cJ he qe (uV (uV (uV (uV (uV (uV (uV (uV (uV (uV ve 9 (fe 9)) 10 (fe 10)) 11 (fe 11)) 12 (fe 12)) 20 (fe 20)) 21 (fe 21)) 22 (fe 22)) 30 (fe 30)) 31 (fe 31)) 32 (fe 32)) ae))) H locs := hW
        exact z_zret hx hb hr hlk (by first | exact Or.inl rfl | exact Or.inr rfl | omega) hW (⟨4, yv, Nv, 4, b2v, b3v, b4v, b5v, b6v, fe 9, fe 10, fe 11, fe 12, fe 20, fe 21, fe 22, fe 30, fe 31, fe 32⟩) (bI_f (show ¬ (4 : Int) = 0 by decide)) (show _ = _ ∧ RT _ _ _ _ _ _ _ _ ∧ NF1 _ _ ∧ N8 _ _ _ ∧ PTo _ _ _ _ _ _ from ⟨by rw [← i5, Pprts_L hkp c11]; unfold Ppart; rw [if_pos (show zand (Nv (483 + 500 * x + 7)) (PB (KND T z yv)) ≠ 0 from c19), bnd_1 (by decide)], hR, (fun _ => rfl), (fun q => absurd (show (4 : Int) = 0 from q) (by decide)), (fun q => absurd (show (4 : Int) = 0 from q) (by decide))⟩) rfl dX4_readParts_27
theorem hiX4_isAtEnd_X4 : ∀ w ∈ wsX40, w ∈ wsX4_isAtEnd := fun _ h => List.mem_cons_of_mem _ (List.mem_append_right _ h)
theorem ziX4_isAtEnd : yX4_isAtEnd.cls = RX4 ∧ yX4_isAtEnd.cls ≠ "java/lang/invoke/MethodHandle" ∧ yX4_isAtEnd.cls ≠ "java/lang/invoke/VarHandle" ∧ (parseMethodDescriptor yX4_isAtEnd.desc).map (fun d => d.parameters.length) = some 0 := by decide +kernel
set_option maxHeartbeats 4000000 in
set_option maxRecDepth 100000 in
theorem c_X4_isAtEnd {l : Launch} {G : va_G} {cI cJ cO : ClassId}  (hd : Nat) (qd : Nat → Nat) (vd : Nat → Int) (ad : Nat → Int → Int) (qo : Nat → Nat) (vo : Nat → Int) (ao : Nat → Int → Int)  (T : Int → Int) (z : Int) (y : Int) (hK : TKS T z (ao 0) (ao 1) (ao 2) (vo 3)) (hR : RT T z y (vo 3) (vd 3) (vd 4) (vd 5) (vd 2)) : zC l yX4_isAtEnd wsX4_isAtEnd { frames := 1, cells := 0, slots := 0, locals := 21 } G (tyZ cI cJ cO) (S := (Int) × (Int) × Int × Int × Int × Int × Int × Int) [.ref hd] ((rW cI cJ hd qd vd ad) ++ (sW cI cJ (qd 0) qo vo ao)) (zI (fun u => bI (u.1 = 0))) (fun u => (if KND T z y = 0 then (0, y) else (1, y)) = (u.1, u.2.1) ∧ RT T z u.2.1 (vo 3) u.2.2.2.2.1 u.2.2.2.2.2.1 u.2.2.2.2.2.2.1 u.2.2.2.1 ∧ NF1 u.1 u.2.2.1 ∧ N8 u.1 u.2.2.1 (vd 1)) (fun u => (rW cI cJ hd qd (uV (uV (uV (uV (uV (uV vd 1 u.2.2.1) 2 u.2.2.2.1) 3 u.2.2.2.2.1) 4 u.2.2.2.2.2.1) 5 u.2.2.2.2.2.2.1) 6 u.2.2.2.2.2.2.2) ad) ++ (sW cI cJ (qd 0) qo vo ao)) 0 0 := by
  refine z_start (cc := cX4_isAtEnd) (maxL := 1) (ret := (some .boolean)) (by decide) rfl (Nat.le_of_ble_eq_true rfl) ?_
  intro p e s m below meth c A ls F hr hlk hnm hAe hA hW hl
  have hx := F.1
  have hb := F.2.1
  have hown : s.vm.findClass RX4 = some m.cls := F.2.2.2.1
  have hts := F.2.2.2.2
  have hl : lv_has ls 1 [(0, .ref hd)] := hl
  have hk9 := KND_R (T := T) (z := z) (y := y)
  have ek9 := hR.2.2.2.1
  refine lv_aload_n hx hb dX4_isAtEnd_0 rfl (lv_at hl 0 rfl) ?_
  refine z_get (v := .int (iI (vd 4))) hx hb hts hiX4_isAtEnd_X4 hown hW 0 4 1 rfl rfl rfl (by decide) rfl dX4_isAtEnd_1 ?_
  refine z_if_eq (tgt := 15) hx hb dX4_isAtEnd_4 (by decide) ⟨by omega, by omega⟩ (fun c4 => ?_) (fun c4 => ?_)
  · refine z_iconst (n := 1) hx hb dX4_isAtEnd_15 ?_
    refine lv_goto (tgt := 20) hx hb dX4_isAtEnd_16 (by decide) ?_
    exact z_zret hx hb hr hlk (by first | exact Or.inl rfl | exact Or.inr rfl | omega) hW (⟨0, y, vd 1, vd 2, vd 3, vd 4, vd 5, vd 6⟩) (bI_t (show (0 : Int) = 0 from rfl)) (show _ = _ ∧ RT _ _ _ _ _ _ _ _ ∧ NF1 _ _ ∧ N8 _ _ _ from ⟨by rw [if_pos (by omega)], hR, (fun q => absurd rfl q), (fun _ => rfl)⟩) rfl dX4_isAtEnd_20
  · refine lv_aload_n hx hb dX4_isAtEnd_7 rfl (lv_at hl 0 rfl) ?_
    refine z_iconst (n := 1) hx hb dX4_isAtEnd_8 ?_
    refine z_callV (As := [.int (iI 1)]) (rest := []) F (c_X4_refuse  hd qd vd ad 1  (show 1 ≤ 1 ∧ 1 ≤ 4 by omega)) gX4_isAtEnd_X4_refuse rfl ziX4_refuse ⟨rfl, rfl, by decide, by decide⟩ rfl hl.1 rfl (Nat.le_of_ble_eq_true rfl) dX4_isAtEnd_9 ⟨Nat.zero_le _, Nat.zero_le _⟩ hW hA [0] rfl (by decide) (fun _ => rfl) (fun _ => (rW cI cJ hd qd (uV vd 1 1) ad) ++ (sW cI cJ (qd 0) qo vo ao)) (fun _ => rfl) (fun _ => [.int (iI 0)]) (fun _ => rfl) 0 rfl rfl rfl (fun _ H locs hp9 hW => ?_)
    have hW : zW G (tyZ cI cJ cO) A s ((rW cI cJ hd qd (uV vd 1 1) ad) ++ (sW cI cJ (qd 0) qo vo ao)) H locs := hW
    refine z_if_eq (tgt := 19) hx hb dX4_isAtEnd_12 (by decide) (by decide) (fun c12 => ?_) (fun c12 => ?_)
    · refine z_iconst (n := 0) hx hb dX4_isAtEnd_19 ?_
      exact z_zret hx hb hr hlk (by first | exact Or.inl rfl | exact Or.inr rfl | omega) hW (⟨1, y, 1, vd 2, vd 3, vd 4, vd 5, vd 6⟩) (bI_f (show ¬ (1 : Int) = 0 by decide)) (show _ = _ ∧ RT _ _ _ _ _ _ _ _ ∧ NF1 _ _ ∧ N8 _ _ _ from ⟨by rw [if_neg (by omega)], hR, (fun _ => rfl), (fun q => absurd (show (1 : Int) = 0 from q) (by decide))⟩) rfl dX4_isAtEnd_20
    · exfalso; omega
