/-! the class: the lines of the index -/
def PrR (T : Int → Int) (z y : Int) (N : Int → Int) : PR := if KND T z y ≠ 5 then (1, y, N) else bnd (Pnum T z 1 0 500 (tkB T z y) N) fun y1 N1 => Pend T z y1 N1
theorem Ptk_0 {T : Int → Int} {z w y f y1 : Int} (h : Ptk T z w y = (f, y1)) (hf : f = 0) : KND T z y = w ∧ y1 = tkB T z y := by
  unfold Ptk at h
  split at h
  · exact absurd (show (1 : Int) = f from congrArg Prod.fst h) (by omega)
  · injection h with e1 e2
    exact ⟨by omega, e2.symm⟩
theorem Ptk_1 {T : Int → Int} {z w y f y1 : Int} (h : Ptk T z w y = (f, y1)) (hf : ¬ f = 0) : KND T z y ≠ w ∧ y1 = y ∧ f = 1 := by
  unfold Ptk at h
  split at h
  · next q =>
    injection h with e1 e2
    exact ⟨q, e2.symm, e1.symm⟩
  · injection h with e1 e2
    omega
theorem Pix_f {T : Int → Int} {z y f y1 : Int} {N : Int → Int} (h : Ptn T z 0 239 y = (f, y1)) (hf : ¬ f = 0) : Pix T z y N = (f, y1, N) := by
  have k := (KND_S (T := T) (z := z) (y := y)).2.2.2.1
  unfold Ptn at h
  unfold Pix
  split at h
  · next q1 =>
    injection h with e1 e2
    rw [if_pos (fun w => q1 (k.mpr w)), e1, e2]
  · next q1 =>
    have hn := tkN_R (T := T) (z := z) (y := y) (by omega)
    rw [if_neg (fun q => q1 (fun w => q (k.mp w)))]
    split at h
    · next q2 =>
      injection h with e1 e2
      rw [if_pos (by omega), e1, e2]
    · injection h with e1 e2
      exact absurd e1.symm hf
theorem Pix_t {T : Int → Int} {z y f y1 : Int} {N : Int → Int} (h : Ptn T z 0 239 y = (f, y1)) (hf : f = 0) (h0 : ¬ 0 < N (3 + tkN T z y)) : Pix T z y N = bnd (Pnum T z (3 + tkN T z y) 1 9999 y1 N) fun y2 N2 => bnd (Pnum T z (243 + tkN T z y) 0 239 y2 N2) fun y3 N3 => Pend T z y3 N3 := by
  have k := (KND_S (T := T) (z := z) (y := y)).2.2.2.1
  have a := Ptn_0 (p := 0) (N := N) h hf
  have e : y1 = tkB T z y := (Pnum_0 a.1 hf).2.2.1
  unfold Pix
  rw [if_neg (fun q => q (k.mp a.2.2)), if_neg (by omega), e]
def IXo (ff : Int) (nn N a0 a1 : Int → Int) (cv : Int) (nw d0 d1 : Int → Int) (d2 : Int) (dn : Int → Int) : Prop := ff = 0 → ∃ m v k : Int, (0 ≤ m ∧ m ≤ 239) ∧ (1 ≤ v ∧ v ≤ 9999) ∧ (0 ≤ k ∧ k ≤ 239) ∧ ¬ 0 < N (3 + m) ∧ nn = uI (uI N (3 + m) v) (243 + m) k ∧ d0 = uI a0 m v ∧ d1 = uI a1 m k ∧ d2 = cv + 1 ∧ dn = uI nw k (nw k + 1)
/-- the class's rows of values and of news hold N -/
def CV (N : Int → Int) (a : Nat → Int → Int) (cv : Int) (nw : Int → Int) : Prop := RV N a ∧ cv = CNTV N 240 ∧ ∀ m : Int, 0 ≤ m → m ≤ 239 → nw m = NWc N m
theorem CV_ix {N : Int → Int} {i m v k cv : Int} {a b : Nat → Int → Int} {nw : Int → Int} (hC : CV N a cv nw) (h : RD N i) (hm : 0 ≤ m ∧ m ≤ 239) (hv : 1 ≤ v ∧ v ≤ 9999) (hk : 0 ≤ k ∧ k ≤ 239) (h0 : ¬ 0 < N (3 + m)) (b0 : b 0 = uI (a 0) m v) (b1 : b 1 = uI (a 1) m k) : CV (uI (uI N (3 + m) v) (243 + m) k) b (cv + 1) (uI nw k (nw k + 1)) := by
  obtain ⟨c1, c2, c3⟩ := hC
  have a1 : AGv (uI (uI N (3 + m) v) (243 + m) k) (PUB (uI N 0 k) m v) := by
    intro j j0 j1
    unfold PUB
    rw [uI_s]
    by_cases q1 : j = 243 + m
    · rw [q1, uI_s, uI_s]
    · rw [uI_n q1, uI_n q1]
      by_cases q2 : j = 3 + m
      · rw [q2, uI_s, uI_s]
      · rw [uI_n q2, uI_n q2, uI_n (by omega)]
  have a3 : ∀ j : Int, 1 ≤ j → (j < 3 ∨ 483 ≤ j) → uI (uI N (3 + m) v) (243 + m) k j = PUB (uI N 0 k) m v j := fun j j0 j1 => by
    unfold PUB
    rw [uI_n (by omega), uI_n (by omega), uI_n (by omega), uI_n (by omega), uI_n (by omega)]
  have a2 : AGv (uI N 0 k) N := fun j j0 j1 => uI_n (by omega)
  have h0' : ¬ 0 < (uI N 0 k) (3 + m) := by rw [uI_n (by omega)]; exact h0
  have k0 : (uI N 0 k) 0 = k := uI_s
  refine ⟨RV_ag a1 (RV_tell (N := uI N 0 k) (a := a) (RV_ag a2 c1) hv.1 (by rw [k0]; exact hk) hm b0 (by rw [k0]; exact b1)), ?_, fun q q0 q1 => ?_⟩
  · rw [CNTV_ag a1 240 (by decide), CNTV_PUB hm hv.1 h0', CNTV_ag a2 240 (by decide), c2]
  · have e1 : NWc (uI (uI N (3 + m) v) (243 + m) k) q = NWc (PUB (uI N 0 k) m v) q := NWc_ag a1 (a3 2 (by omega) (by omega)) (fun x x0 x1 w w0 w1 => a3 _ (by omega) (by omega))
    have e2 : NWc (uI N 0 k) q = NWc N q := NWc_ag a2 (uI_n (by omega)) (fun x x0 x1 w w0 w1 => uI_n (by omega))
    rw [e1, NWc_PUB hm hv.1 h0', e2, k0]
    by_cases z : q = k
    · rw [z, uI_s, bI_t rfl, c3 k hk.1 hk.2]
    · rw [uI_n z, bI_f (fun w => z w.symm), c3 q q0 q1]
      omega
def IXs (ff : Int) (nn : Int → Int) (a : Nat → Int → Int) (cv : Int) (nw : Int → Int) : Prop := ff = 0 → ∃ i : Int, RD nn i ∧ nn 2 = 0 ∧ CV nn a cv nw
theorem hiX4_readRate_X4 : ∀ w ∈ wsX40, w ∈ wsX4_readRate := fun _ h => List.mem_cons_of_mem _ (List.mem_append_left _ (List.mem_append_left _ (List.mem_append_right _ h)))
theorem hiX4_readRate_X1 : ∀ w ∈ wsX10, w ∈ wsX4_readRate := fun _ h => List.mem_cons_of_mem _ (List.mem_append_left _ (List.mem_append_right _ h))
theorem hiX4_readRate_X7 : ∀ w ∈ wsX70, w ∈ wsX4_readRate := fun _ h => List.mem_cons_of_mem _ (List.mem_append_right _ h)
theorem ziX4_readRate : yX4_readRate.cls = RX4 ∧ yX4_readRate.cls ≠ "java/lang/invoke/MethodHandle" ∧ yX4_readRate.cls ≠ "java/lang/invoke/VarHandle" ∧ (parseMethodDescriptor yX4_readRate.desc).map (fun d => d.parameters.length) = some 1 := by decide +kernel
set_option maxHeartbeats 4000000 in
set_option maxRecDepth 100000 in
theorem c_X4_readRate {l : Launch} {G : va_G} {cI cJ cO : ClassId} (N : Int → Int) (hd : Nat) (qd : Nat → Nat) (vd : Nat → Int) (ad : Nat → Int → Int) (qo : Nat → Nat) (vo : Nat → Int) (ao : Nat → Int → Int) (hB : Nat) (qB : Nat → Nat) (vB : Nat → Int) (aB : Nat → Int → Int)  (T : Int → Int) (z : Int) (y : Int) (hK : TKS T z (ao 0) (ao 1) (ao 2) (vo 3)) (hR : RT T z y (vo 3) (vd 3) (vd 4) (vd 5) (vd 2)) : zC l yX4_readRate wsX4_readRate { frames := 2, cells := 0, slots := 0, locals := 43 } G (tyZ cI cJ cO) (S := (Int) × (Int) × (Int → Int) × Int × Int × Int × Int × Int × Int × Int) [.ref hd, .ref hB] ((rW cI cJ hd qd vd ad) ++ ((sW cI cJ (qd 0) qo vo ao) ++ (bO cI cJ hB qB vB aB))) (zI (fun u => bI (u.1 = 0))) (fun u => PrR T z y N = (u.1, u.2.1, u.2.2.1) ∧ RT T z u.2.1 (vo 3) u.2.2.2.2.2.1 u.2.2.2.2.2.2.1 u.2.2.2.2.2.2.2.1 u.2.2.2.2.1 ∧ NF1 u.1 u.2.2.2.1 ∧ N8 u.1 u.2.2.2.1 (vd 1) ∧ N8 u.1 u.2.2.2.2.2.2.2.2.2 (u.2.2.1 1)) (fun u => (rW cI cJ hd qd (uV (uV (uV (uV (uV (uV vd 1 u.2.2.2.1) 2 u.2.2.2.2.1) 3 u.2.2.2.2.2.1) 4 u.2.2.2.2.2.2.1) 5 u.2.2.2.2.2.2.2.1) 6 u.2.2.2.2.2.2.2.2.1) ad) ++ ((sW cI cJ (qd 0) qo vo ao) ++ (bO cI cJ hB qB (uV vB 3 u.2.2.2.2.2.2.2.2.2) aB))) 0 0 := by
  refine z_start (cc := cX4_readRate) (maxL := 2) (ret := (some .boolean)) (by decide) rfl (Nat.le_of_ble_eq_true rfl) ?_
  intro p e s m below meth c A ls F hr hlk hnm hAe hA hW hl
  have hx := F.1
  have hb := F.2.1
  have hown : s.vm.findClass RX4 = some m.cls := F.2.2.2.1
  have hts := F.2.2.2.2
  have hl : lv_has ls 2 [(0, .ref hd), (1, .ref hB)] := hl
  have hk9 := KND_R (T := T) (z := z) (y := y)
  have ek9 := hR.2.2.2.1
  refine lv_aload_n hx hb dX4_readRate_0 rfl (lv_at hl 0 rfl) ?_
  refine z_iconst (n := 5) hx hb dX4_readRate_1 ?_
  refine z_callV (As := [.int (iI 5)]) (rest := []) F (c_X4_take  hd qd vd ad qo vo ao 5 T z y hK hR (show 2 ≤ 5 ∧ 5 ≤ 15 by omega)) gX4_readRate_X4_take rfl ziX4_take ⟨rfl, rfl, by decide, by decide⟩ rfl hl.1 rfl (Nat.le_of_ble_eq_true rfl) dX4_readRate_2 ⟨Nat.zero_le _, Nat.zero_le _⟩ hW hA [0, 1, 2, 3, 4] rfl (by decide) (fun _ => rfl) (fun u => (rW cI cJ hd qd (uV (uV (uV (uV (uV (uV vd 1 u.2.2.1) 2 u.2.2.2.1) 3 u.2.2.2.2.1) 4 u.2.2.2.2.2.1) 5 u.2.2.2.2.2.2.1) 6 u.2.2.2.2.2.2.2) ad) ++ ((sW cI cJ (qd 0) qo vo ao) ++ (bO cI cJ hB qB vB aB))) (fun _ => rfl) (fun u => [.int (iI (bI (u.1 = 0)))]) (fun _ => rfl) 0 rfl rfl rfl (fun u H locs hp2 hW => ?_)
  obtain ⟨ff_1, yy_2, b1_3, b2_4, b3_5, b4_6, b5_7, b6_8⟩ := u
  have hp2 : Ptk T z 5 y = (ff_1, yy_2) ∧ RT T z yy_2 ((vo 3)) b3_5 b4_6 b5_7 b2_4 ∧ NF1 ff_1 b1_3 ∧ N8 ff_1 b1_3 ((vd 1)) := hp2
  have hW : zW G (tyZ cI cJ cO) A s ((rW cI cJ hd qd (uV (uV (uV (uV (uV (uV vd 1 b1_3) 2 b2_4) 3 b3_5) 4 b4_6) 5 b5_7) 6 b6_8) ad) ++ ((sW cI cJ (qd 0) qo vo ao) ++ (bO cI cJ hB qB vB aB))) H locs := hW
  have hR : RT T z yy_2 (vo 3) b3_5 b4_6 b5_7 b2_4 := hp2.2.1
  have hk9 := KND_R (T := T) (z := z) (y := yy_2)
  have ek9 := hR.2.2.2.1
  refine z_b_eq (tgt := 19) hx hb dX4_readRate_5 (by decide) (fun c5 => ?_) (fun c5 => ?_)
  · refine z_iconst (n := 0) hx hb dX4_readRate_19 ?_
    exact z_zret hx hb hr hlk (by first | exact Or.inl rfl | exact Or.inr rfl | omega) hW (⟨ff_1, yy_2, N, b1_3, b2_4, b3_5, b4_6, b5_7, b6_8, vB 3⟩) (bI_f c5) (show _ = _ ∧ RT _ _ _ _ _ _ _ _ ∧ NF1 _ _ ∧ N8 _ _ _ ∧ N8 _ _ _ from ⟨by unfold PrR; rw [if_pos (Ptk_1 hp2.1 c5).1, (Ptk_1 hp2.1 c5).2.1, (Ptk_1 hp2.1 c5).2.2], hR, hp2.2.2.1, (fun q => absurd q c5), (fun q => absurd q c5)⟩) rfl dX4_readRate_20
  · refine lv_aload_n hx hb dX4_readRate_8 rfl (lv_at hl 0 rfl) ?_
    refine z_iconst (n := 0) hx hb dX4_readRate_9 ?_
    refine z_sipush hx hb dX4_readRate_10 (by decide +kernel) ?_
    refine z_callV (As := [.int (iI 0), .int (iI 500)]) (rest := []) F (c_X4_takeNumber  hd qd (uV (uV (uV (uV (uV (uV vd 1 b1_3) 2 b2_4) 3 b3_5) 4 b4_6) 5 b5_7) 6 b6_8) ad qo vo ao 0 500 T z yy_2 hK hR (show -2147483648 ≤ 0 ∧ 0 < 2147483648 by omega) (show -2147483648 ≤ 500 ∧ 500 < 2147483648 by omega)) gX4_readRate_X4_takeNumber rfl ziX4_takeNumber ⟨rfl, rfl, by decide, by decide⟩ rfl hl.1 rfl (Nat.le_of_ble_eq_true rfl) dX4_readRate_13 ⟨Nat.zero_le _, Nat.zero_le _⟩ hW hA [0, 1, 2, 3, 4] rfl (by decide) (fun _ => rfl) (fun u => (rW cI cJ hd qd (uV (uV (uV (uV (uV (uV vd 1 u.2.2.1) 2 u.2.2.2.1) 3 u.2.2.2.2.1) 4 u.2.2.2.2.2.1) 5 u.2.2.2.2.2.2.1) 6 u.2.2.2.2.2.2.2) ad) ++ ((sW cI cJ (qd 0) qo vo ao) ++ (bO cI cJ hB qB vB aB))) (fun _ => rfl) (fun u => [.int (iI (bI (u.1 = 0)))]) (fun _ => rfl) 0 rfl rfl rfl (fun u H locs hp13 hW => ?_)
    obtain ⟨ff_9, yy_10, b1_11, b2_12, b3_13, b4_14, b5_15, b6_16⟩ := u
    have hp13 : Ptn T z 0 500 yy_2 = (ff_9, yy_10) ∧ RT T z yy_10 ((vo 3)) b3_13 b4_14 b5_15 b2_12 ∧ NF1 ff_9 b1_11 ∧ N8 ff_9 b1_11 (b1_3) ∧ N8 ff_9 b6_16 (tkN T z yy_2) := hp13
    have hW : zW G (tyZ cI cJ cO) A s ((rW cI cJ hd qd (uV (uV (uV (uV (uV (uV vd 1 b1_11) 2 b2_12) 3 b3_13) 4 b4_14) 5 b5_15) 6 b6_16) ad) ++ ((sW cI cJ (qd 0) qo vo ao) ++ (bO cI cJ hB qB vB aB))) H locs := hW
    have hR : RT T z yy_10 (vo 3) b3_13 b4_14 b5_15 b2_12 := hp13.2.1
    have hk9 := KND_R (T := T) (z := z) (y := yy_10)
    have ek9 := hR.2.2.2.1
    refine z_b_ne (tgt := 21) hx hb dX4_readRate_16 (by decide) (fun c16 => ?_) (fun c16 => ?_)
    · refine lv_aload_n hx hb dX4_readRate_21 rfl (lv_at hl 1 rfl) ?_
      refine lv_aload_n hx hb dX4_readRate_22 rfl (lv_at hl 0 rfl) ?_
      refine z_get (v := .int (iI b6_16)) hx hb hts hiX4_readRate_X4 hown hW 0 6 1 rfl rfl rfl (by decide) rfl dX4_readRate_23 ?_
      refine z_put hx hb hts hiX4_readRate_X1 tyX1 tyX1_ok nmX1 hown hW 5 3 2 rfl rfl (by decide) (Nat.le_of_ble_eq_true rfl) rfl rfl rfl rfl dX4_readRate_26 (fun H locs hW => ?_)
      have hW : zW G (tyZ cI cJ cO) A s ((rW cI cJ hd qd (uV (uV (uV (uV (uV (uV vd 1 b1_11) 2 b2_12) 3 b3_13) 4 b4_14) 5 b5_15) 6 b6_16) ad) ++ ((sW cI cJ (qd 0) qo vo ao) ++ (bO cI cJ hB qB (uV vB 3 b6_16) aB))) H locs := hW
      refine lv_aload_n hx hb dX4_readRate_29 rfl (lv_at hl 0 rfl) ?_
      refine z_iconst (n := 2) hx hb dX4_readRate_30 ?_
      refine z_callV (As := [.int (iI 2)]) (rest := []) F (c_X4_take  hd qd (uV (uV (uV (uV (uV (uV vd 1 b1_11) 2 b2_12) 3 b3_13) 4 b4_14) 5 b5_15) 6 b6_16) ad qo vo ao 2 T z yy_10 hK hR (show 2 ≤ 2 ∧ 2 ≤ 15 by omega)) gX4_readRate_X4_take rfl ziX4_take ⟨rfl, rfl, by decide, by decide⟩ rfl hl.1 rfl (Nat.le_of_ble_eq_true rfl) dX4_readRate_31 ⟨Nat.zero_le _, Nat.zero_le _⟩ hW hA [0, 1, 2, 3, 4] rfl (by decide) (fun _ => rfl) (fun u => (rW cI cJ hd qd (uV (uV (uV (uV (uV (uV vd 1 u.2.2.1) 2 u.2.2.2.1) 3 u.2.2.2.2.1) 4 u.2.2.2.2.2.1) 5 u.2.2.2.2.2.2.1) 6 u.2.2.2.2.2.2.2) ad) ++ ((sW cI cJ (qd 0) qo vo ao) ++ (bO cI cJ hB qB (uV vB 3 b6_16) aB))) (fun _ => rfl) (fun u => [.int (iI (bI (u.1 = 0)))]) (fun _ => rfl) 0 rfl rfl rfl (fun u H locs hp31 hW => ?_)
      obtain ⟨ff_17, yy_18, b1_19, b2_20, b3_21, b4_22, b5_23, b6_24⟩ := u
      have hp31 : Ptk T z 2 yy_10 = (ff_17, yy_18) ∧ RT T z yy_18 ((vo 3)) b3_21 b4_22 b5_23 b2_20 ∧ NF1 ff_17 b1_19 ∧ N8 ff_17 b1_19 (b1_11) := hp31
      have hW : zW G (tyZ cI cJ cO) A s ((rW cI cJ hd qd (uV (uV (uV (uV (uV (uV vd 1 b1_19) 2 b2_20) 3 b3_21) 4 b4_22) 5 b5_23) 6 b6_24) ad) ++ ((sW cI cJ (qd 0) qo vo ao) ++ (bO cI cJ hB qB (uV vB 3 b6_16) aB))) H locs := hW
      have hR : RT T z yy_18 (vo 3) b3_21 b4_22 b5_23 b2_20 := hp31.2.1
      have hk9 := KND_R (T := T) (z := z) (y := yy_18)
      have ek9 := hR.2.2.2.1
      exact z_zret hx hb hr hlk (by unfold bI; split <;> omega) hW (⟨ff_17, yy_18, uI N 1 (tkN T z yy_2), b1_19, b2_20, b3_21, b4_22, b5_23, b6_24, b6_16⟩) rfl (show _ = _ ∧ RT _ _ _ _ _ _ _ _ ∧ NF1 _ _ ∧ N8 _ _ _ ∧ N8 _ _ _ from ⟨by unfold PrR; rw [if_neg (fun q => q (Ptk_0 hp2.1 c5).1), ← (Ptk_0 hp2.1 c5).2, (Ptn_0 hp13.1 c16).1, bnd_0 c16, Ptk_e hp31.1], hR, hp31.2.2.1, (fun q => (hp31.2.2.2 q).trans ((hp13.2.2.2.1 c16).trans (hp2.2.2.2 c5))), (fun _ => (hp13.2.2.2.2 c16).trans (show tkN T z yy_2 = uI N 1 (tkN T z yy_2) 1 from uI_s.symm))⟩) rfl dX4_readRate_34
    · refine z_iconst (n := 0) hx hb dX4_readRate_19 ?_
      exact z_zret hx hb hr hlk (by first | exact Or.inl rfl | exact Or.inr rfl | omega) hW (⟨ff_9, yy_10, N, b1_11, b2_12, b3_13, b4_14, b5_15, b6_16, vB 3⟩) (bI_f c16) (show _ = _ ∧ RT _ _ _ _ _ _ _ _ ∧ NF1 _ _ ∧ N8 _ _ _ ∧ N8 _ _ _ from ⟨by unfold PrR; rw [if_neg (fun q => q (Ptk_0 hp2.1 c5).1), ← (Ptk_0 hp2.1 c5).2, Ptn_1 hp13.1 c16, bnd_1 c16], hR, hp13.2.2.1, (fun q => absurd q c16), (fun q => absurd q c16)⟩) rfl dX4_readRate_20
theorem hiX4_readIndexLine_X4 : ∀ w ∈ wsX40, w ∈ wsX4_readIndexLine := fun _ h => List.mem_cons_of_mem _ (List.mem_append_left _ (List.mem_append_left _ (List.mem_append_left _ (List.mem_append_right _ h))))
theorem hiX4_readIndexLine_X1 : ∀ w ∈ wsX10, w ∈ wsX4_readIndexLine := fun _ h => List.mem_cons_of_mem _ (List.mem_append_left _ (List.mem_append_left _ (List.mem_append_right _ h)))
theorem hiX4_readIndexLine_X7 : ∀ w ∈ wsX70, w ∈ wsX4_readIndexLine := fun _ h => List.mem_cons_of_mem _ (List.mem_append_left _ (List.mem_append_right _ h))
theorem hiX4_readIndexLine_X8 : ∀ w ∈ wsX80, w ∈ wsX4_readIndexLine := fun _ h => List.mem_cons_of_mem _ (List.mem_append_right _ h)
theorem ziX4_readIndexLine : yX4_readIndexLine.cls = RX4 ∧ yX4_readIndexLine.cls ≠ "java/lang/invoke/MethodHandle" ∧ yX4_readIndexLine.cls ≠ "java/lang/invoke/VarHandle" ∧ (parseMethodDescriptor yX4_readIndexLine.desc).map (fun d => d.parameters.length) = some 1 := by decide +kernel
set_option maxHeartbeats 4000000 in
set_option maxRecDepth 100000 in
theorem c_X4_readIndexLine {l : Launch} {G : va_G} {cI cJ cO : ClassId} (N : Int → Int) (hd : Nat) (qd : Nat → Nat) (vd : Nat → Int) (ad : Nat → Int → Int) (qo : Nat → Nat) (vo : Nat → Int) (ao : Nat → Int → Int) (hB : Nat) (qB : Nat → Nat) (vB : Nat → Int) (aB : Nat → Int → Int) (qv : Nat → Nat) (vv : Nat → Int) (av : Nat → Int → Int)  (T : Int → Int) (z : Int) (y : Int) (hK : TKS T z (ao 0) (ao 1) (ao 2) (vo 3)) (hR : RT T z y (vo 3) (vd 3) (vd 4) (vd 5) (vd 2)) (hk6 : KND T z y = 6) (hRV : RV N av) (hV : WFv N) : zC l yX4_readIndexLine wsX4_readIndexLine { frames := 2, cells := 0, slots := 0, locals := 43 } G (tyZ cI cJ cO) (S := (Int) × (Int) × (Int → Int) × Int × Int × Int × Int × Int × Int × (Int → Int) × (Int → Int) × Int × (Int → Int)) [.ref hd, .ref hB] ((rW cI cJ hd qd vd ad) ++ ((sW cI cJ (qd 0) qo vo ao) ++ ((bO cI cJ hB qB vB aB) ++ (vW cI cJ (qB 0) qv vv av)))) (zI (fun u => bI (u.1 = 0))) (fun u => Pix T z (tkB T z y) N = (u.1, u.2.1, u.2.2.1) ∧ RT T z u.2.1 (vo 3) u.2.2.2.2.2.1 u.2.2.2.2.2.2.1 u.2.2.2.2.2.2.2.1 u.2.2.2.2.1 ∧ NF1 u.1 u.2.2.2.1 ∧ N8 u.1 u.2.2.2.1 (vd 1) ∧ IXo u.1 u.2.2.1 N (av 0) (av 1) (vv 2) (aB 2) u.2.2.2.2.2.2.2.2.2.1 u.2.2.2.2.2.2.2.2.2.2.1 u.2.2.2.2.2.2.2.2.2.2.2.1 u.2.2.2.2.2.2.2.2.2.2.2.2) (fun u => (rW cI cJ hd qd (uV (uV (uV (uV (uV (uV vd 1 u.2.2.2.1) 2 u.2.2.2.2.1) 3 u.2.2.2.2.2.1) 4 u.2.2.2.2.2.2.1) 5 u.2.2.2.2.2.2.2.1) 6 u.2.2.2.2.2.2.2.2.1) ad) ++ ((sW cI cJ (qd 0) qo vo ao) ++ ((bO cI cJ hB qB vB (uA aB 2 u.2.2.2.2.2.2.2.2.2.2.2.2)) ++ (vW cI cJ (qB 0) qv (uV vv 2 u.2.2.2.2.2.2.2.2.2.2.2.1) (uA (uA av 0 u.2.2.2.2.2.2.2.2.2.1) 1 u.2.2.2.2.2.2.2.2.2.2.1))))) 0 0 := by
  refine z_start (cc := cX4_readIndexLine) (maxL := 4) (ret := (some .boolean)) (by decide) rfl (Nat.le_of_ble_eq_true rfl) ?_
  intro p e s m below meth c A ls F hr hlk hnm hAe hA hW hl
  have hx := F.1
  have hb := F.2.1
  have hown : s.vm.findClass RX4 = some m.cls := F.2.2.2.1
  have hts := F.2.2.2.2
  have hl : lv_has ls 4 [(0, .ref hd), (1, .ref hB)] := hl
  have hk9 := KND_R (T := T) (z := z) (y := y)
  have ek9 := hR.2.2.2.1
  refine lv_aload_n hx hb dX4_readIndexLine_0 rfl (lv_at hl 0 rfl) ?_
  refine z_callV (As := []) (rest := []) F (c_X4_advance  hd qd vd ad qo vo ao  T z y hK hR (show 2 ≤ KND T z y by omega)) gX4_readIndexLine_X4_advance rfl ziX4_advance ⟨rfl, rfl, by decide, by decide⟩ rfl hl.1 rfl (Nat.le_of_ble_eq_true rfl) dX4_readIndexLine_1 ⟨Nat.zero_le _, Nat.zero_le _⟩ hW hA [0, 1, 2, 3, 4] rfl (by decide) (fun _ => rfl) (fun u => (rW cI cJ hd qd (uV (uV (uV (uV vd 2 u.1) 3 u.2.1) 4 u.2.2.1) 5 u.2.2.2) ad) ++ ((sW cI cJ (qd 0) qo vo ao) ++ ((bO cI cJ hB qB vB aB) ++ (vW cI cJ (qB 0) qv vv av)))) (fun _ => rfl) (fun u => []) (fun _ => rfl) 0 rfl rfl rfl (fun u H locs hp1 hW => ?_)
  obtain ⟨b2_1, b3_2, b4_3, b5_4⟩ := u
  have hp1 : RT T z (tkB T z y) ((vo 3)) b3_2 b4_3 b5_4 b2_1 := hp1
  have hW : zW G (tyZ cI cJ cO) A s ((rW cI cJ hd qd (uV (uV (uV (uV vd 2 b2_1) 3 b3_2) 4 b4_3) 5 b5_4) ad) ++ ((sW cI cJ (qd 0) qo vo ao) ++ ((bO cI cJ hB qB vB aB) ++ (vW cI cJ (qB 0) qv vv av)))) H locs := hW
  have hR : RT T z (tkB T z y) (vo 3) b3_2 b4_3 b5_4 b2_1 := hp1
  clear hp1
  have hy9 := hR.1
  have hk9 := KND_R (T := T) (z := z) (y := tkB T z y)
  have ek9 := hR.2.2.2.1
  have hz0 := hy9
  have hs30 := (KND_S (T := T) (z := z) (y := tkB T z y)).2.2.2.1
  refine z_join0 (fun  (ls : Array Slot) (H : Heap) (locs : List Loc) => (KND T z (tkB T z y) = 3 → ¬ 0 < N (3 + tkN T z (tkB T z y)) ∨ 240 ≤ tkN T z (tkB T z y)) ∧ zW G (tyZ cI cJ cO) A s ((rW cI cJ hd qd (uV (uV (uV (uV vd 2 b2_1) 3 b3_2) 4 b4_3) 5 b5_4) ad) ++ ((sW cI cJ (qd 0) qo vo ao) ++ ((bO cI cJ hB qB vB aB) ++ (vW cI cJ (qB 0) qv vv av)))) H locs ∧ lv_has ls 4 [(0, .ref hd), (1, .ref hB)]) 32 [] ?_ ?_
  · intro ls H locs hJ
    obtain ⟨g1, hW, hl⟩ := hJ
    refine lv_aload_n hx hb dX4_readIndexLine_32 rfl (lv_at hl 0 rfl) ?_
    refine z_iconst (n := 0) hx hb dX4_readIndexLine_33 ?_
    refine z_sipush hx hb dX4_readIndexLine_34 (by decide +kernel) ?_
    refine z_callV (As := [.int (iI 0), .int (iI 239)]) (rest := []) F (c_X4_takeNumber  hd qd (uV (uV (uV (uV vd 2 b2_1) 3 b3_2) 4 b4_3) 5 b5_4) ad qo vo ao 0 239 T z (tkB T z y) hK hR (show -2147483648 ≤ 0 ∧ 0 < 2147483648 by omega) (show -2147483648 ≤ 239 ∧ 239 < 2147483648 by omega)) gX4_readIndexLine_X4_takeNumber rfl ziX4_takeNumber ⟨rfl, rfl, by decide, by decide⟩ rfl hl.1 rfl (Nat.le_of_ble_eq_true rfl) dX4_readIndexLine_37 ⟨Nat.zero_le _, Nat.zero_le _⟩ hW hA [0, 1, 2, 3, 4] rfl (by decide) (fun _ => rfl) (fun u => (rW cI cJ hd qd (uV (uV (uV (uV (uV (uV vd 1 u.2.2.1) 2 u.2.2.2.1) 3 u.2.2.2.2.1) 4 u.2.2.2.2.2.1) 5 u.2.2.2.2.2.2.1) 6 u.2.2.2.2.2.2.2) ad) ++ ((sW cI cJ (qd 0) qo vo ao) ++ ((bO cI cJ hB qB vB aB) ++ (vW cI cJ (qB 0) qv vv av)))) (fun _ => rfl) (fun u => [.int (iI (bI (u.1 = 0)))]) (fun _ => rfl) 0 rfl rfl rfl (fun u H locs hp37 hW => ?_)
    obtain ⟨ff_5, yy_6, b1_7, b2_8, b3_9, b4_10, b5_11, b6_12⟩ := u
    have hp37 : Ptn T z 0 239 (tkB T z y) = (ff_5, yy_6) ∧ RT T z yy_6 ((vo 3)) b3_9 b4_10 b5_11 b2_8 ∧ NF1 ff_5 b1_7 ∧ N8 ff_5 b1_7 ((vd 1)) ∧ N8 ff_5 b6_12 (tkN T z (tkB T z y)) := hp37
    have hW : zW G (tyZ cI cJ cO) A s ((rW cI cJ hd qd (uV (uV (uV (uV (uV (uV vd 1 b1_7) 2 b2_8) 3 b3_9) 4 b4_10) 5 b5_11) 6 b6_12) ad) ++ ((sW cI cJ (qd 0) qo vo ao) ++ ((bO cI cJ hB qB vB aB) ++ (vW cI cJ (qB 0) qv vv av)))) H locs := hW
    have hR : RT T z yy_6 (vo 3) b3_9 b4_10 b5_11 b2_8 := hp37.2.1
    have hk9 := KND_R (T := T) (z := z) (y := yy_6)
    have ek9 := hR.2.2.2.1
    refine z_b_ne (tgt := 45) hx hb dX4_readIndexLine_40 (by decide) (fun c40 => ?_) (fun c40 => ?_)
    · have r37 := Ptn_0 (p := 0) (N := N) hp37.1 c40
      have n37 := hp37.2.2.2.2 c40
      have h03 : ¬ 0 < N (3 + tkN T z (tkB T z y)) := (g1 r37.2.2).elim id (fun q => by have := r37.2.1; omega)
      refine lv_aload_n hx hb dX4_readIndexLine_45 rfl (lv_at hl 0 rfl) ?_
      refine z_get (v := .int (iI b6_12)) hx hb hts hiX4_readIndexLine_X4 hown hW 0 6 4 rfl rfl rfl (by decide) rfl dX4_readIndexLine_46 ?_
      refine lv_istore_n (lv' := [(2, .int (iI b6_12)), (0, .ref hd), (1, .ref hB)]) hx hb dX4_readIndexLine_49 rfl hl (by decide) rfl (fun ls hl => ?_)
      refine lv_aload_n hx hb dX4_readIndexLine_50 rfl (lv_at hl 1 rfl) ?_
      refine z_iconst (n := 1) hx hb dX4_readIndexLine_51 ?_
      refine z_sipush hx hb dX4_readIndexLine_52 (by decide +kernel) ?_
      refine z_callV (As := [.int (iI 1), .int (iI 9999)]) (rest := []) F (c_X4_takeNumber  hd qd (uV (uV (uV (uV (uV (uV vd 1 b1_7) 2 b2_8) 3 b3_9) 4 b4_10) 5 b5_11) 6 b6_12) ad qo vo ao 1 9999 T z yy_6 hK hR (show -2147483648 ≤ 1 ∧ 1 < 2147483648 by omega) (show -2147483648 ≤ 9999 ∧ 9999 < 2147483648 by omega)) gX4_readIndexLine_X4_takeNumber rfl ziX4_takeNumber ⟨rfl, rfl, by decide, by decide⟩ rfl hl.1 rfl (Nat.le_of_ble_eq_true rfl) dX4_readIndexLine_55 ⟨Nat.zero_le _, Nat.zero_le _⟩ hW hA [0, 1, 2, 3, 4] rfl (by decide) (fun _ => rfl) (fun u => (rW cI cJ hd qd (uV (uV (uV (uV (uV (uV vd 1 u.2.2.1) 2 u.2.2.2.1) 3 u.2.2.2.2.1) 4 u.2.2.2.2.2.1) 5 u.2.2.2.2.2.2.1) 6 u.2.2.2.2.2.2.2) ad) ++ ((sW cI cJ (qd 0) qo vo ao) ++ ((bO cI cJ hB qB vB aB) ++ (vW cI cJ (qB 0) qv vv av)))) (fun _ => rfl) (fun u => [.int (iI (bI (u.1 = 0)))]) (fun _ => rfl) 0 rfl rfl rfl (fun u H locs hp55 hW => ?_)
      obtain ⟨ff_13, yy_14, b1_15, b2_16, b3_17, b4_18, b5_19, b6_20⟩ := u
      have hp55 : Ptn T z 1 9999 yy_6 = (ff_13, yy_14) ∧ RT T z yy_14 ((vo 3)) b3_17 b4_18 b5_19 b2_16 ∧ NF1 ff_13 b1_15 ∧ N8 ff_13 b1_15 (b1_7) ∧ N8 ff_13 b6_20 (tkN T z yy_6) := hp55
      have hW : zW G (tyZ cI cJ cO) A s ((rW cI cJ hd qd (uV (uV (uV (uV (uV (uV vd 1 b1_15) 2 b2_16) 3 b3_17) 4 b4_18) 5 b5_19) 6 b6_20) ad) ++ ((sW cI cJ (qd 0) qo vo ao) ++ ((bO cI cJ hB qB vB aB) ++ (vW cI cJ (qB 0) qv vv av)))) H locs := hW
      have hR : RT T z yy_14 (vo 3) b3_17 b4_18 b5_19 b2_16 := hp55.2.1
      have hk9 := KND_R (T := T) (z := z) (y := yy_14)
      have ek9 := hR.2.2.2.1
      refine z_b_ne (tgt := 63) hx hb dX4_readIndexLine_58 (by decide) (fun c58 => ?_) (fun c58 => ?_)
      · have r55 := Ptn_0 (p := 0) (N := N) hp55.1 c58
        have n55 := hp55.2.2.2.2 c58
        refine lv_aload_n hx hb dX4_readIndexLine_63 rfl (lv_at hl 1 rfl) ?_
        refine z_get (v := .int (iI b6_20)) hx hb hts hiX4_readIndexLine_X4 hown hW 0 6 4 rfl rfl rfl (by decide) rfl dX4_readIndexLine_64 ?_
        refine lv_istore_n (lv' := [(3, .int (iI b6_20)), (2, .int (iI b6_12)), (0, .ref hd), (1, .ref hB)]) hx hb dX4_readIndexLine_67 rfl hl (by decide) rfl (fun ls hl => ?_)
        refine lv_aload_n hx hb dX4_readIndexLine_68 rfl (lv_at hl 2 rfl) ?_
        refine z_iconst (n := 0) hx hb dX4_readIndexLine_69 ?_
        refine z_sipush hx hb dX4_readIndexLine_70 (by decide +kernel) ?_
        refine z_callV (As := [.int (iI 0), .int (iI 239)]) (rest := []) F (c_X4_takeNumber  hd qd (uV (uV (uV (uV (uV (uV vd 1 b1_15) 2 b2_16) 3 b3_17) 4 b4_18) 5 b5_19) 6 b6_20) ad qo vo ao 0 239 T z yy_14 hK hR (show -2147483648 ≤ 0 ∧ 0 < 2147483648 by omega) (show -2147483648 ≤ 239 ∧ 239 < 2147483648 by omega)) gX4_readIndexLine_X4_takeNumber rfl ziX4_takeNumber ⟨rfl, rfl, by decide, by decide⟩ rfl hl.1 rfl (Nat.le_of_ble_eq_true rfl) dX4_readIndexLine_73 ⟨Nat.zero_le _, Nat.zero_le _⟩ hW hA [0, 1, 2, 3, 4] rfl (by decide) (fun _ => rfl) (fun u => (rW cI cJ hd qd (uV (uV (uV (uV (uV (uV vd 1 u.2.2.1) 2 u.2.2.2.1) 3 u.2.2.2.2.1) 4 u.2.2.2.2.2.1) 5 u.2.2.2.2.2.2.1) 6 u.2.2.2.2.2.2.2) ad) ++ ((sW cI cJ (qd 0) qo vo ao) ++ ((bO cI cJ hB qB vB aB) ++ (vW cI cJ (qB 0) qv vv av)))) (fun _ => rfl) (fun u => [.int (iI (bI (u.1 = 0)))]) (fun _ => rfl) 0 rfl rfl rfl (fun u H locs hp73 hW => ?_)
        obtain ⟨ff_21, yy_22, b1_23, b2_24, b3_25, b4_26, b5_27, b6_28⟩ := u
        have hp73 : Ptn T z 0 239 yy_14 = (ff_21, yy_22) ∧ RT T z yy_22 ((vo 3)) b3_25 b4_26 b5_27 b2_24 ∧ NF1 ff_21 b1_23 ∧ N8 ff_21 b1_23 (b1_15) ∧ N8 ff_21 b6_28 (tkN T z yy_14) := hp73
        have hW : zW G (tyZ cI cJ cO) A s ((rW cI cJ hd qd (uV (uV (uV (uV (uV (uV vd 1 b1_23) 2 b2_24) 3 b3_25) 4 b4_26) 5 b5_27) 6 b6_28) ad) ++ ((sW cI cJ (qd 0) qo vo ao) ++ ((bO cI cJ hB qB vB aB) ++ (vW cI cJ (qB 0) qv vv av)))) H locs := hW
        have hR : RT T z yy_22 (vo 3) b3_25 b4_26 b5_27 b2_24 := hp73.2.1
        have hk9 := KND_R (T := T) (z := z) (y := yy_22)
        have ek9 := hR.2.2.2.1
        refine z_b_ne (tgt := 81) hx hb dX4_readIndexLine_76 (by decide) (fun c76 => ?_) (fun c76 => ?_)
        · have r73 := Ptn_0 (p := 0) (N := N) hp73.1 c76
          have n73 := hp73.2.2.2.2 c76
          refine lv_aload_n hx hb dX4_readIndexLine_81 rfl (lv_at hl 3 rfl) ?_
          refine z_get (v := .ref (qB 0)) hx hb hts hiX4_readIndexLine_X1 hown hW 5 0 2 rfl rfl rfl (by decide) rfl dX4_readIndexLine_82 ?_
          refine lv_iload_n hx hb dX4_readIndexLine_85 rfl (lv_at hl 1 rfl) ?_
          refine lv_iload_n hx hb dX4_readIndexLine_86 rfl (lv_at hl 0 rfl) ?_
          refine lv_aload_n hx hb dX4_readIndexLine_87 rfl (lv_at hl 2 rfl) ?_
          refine z_get (v := .int (iI b6_28)) hx hb hts hiX4_readIndexLine_X4 hown hW 0 6 4 rfl rfl rfl (by decide) rfl dX4_readIndexLine_88 ?_
          refine z_callV (As := [.int (iI b6_12), .int (iI b6_20), .int (iI b6_28)]) (rest := []) F (c_X8_tell  (qB 0) qv vv av b6_12 b6_20 b6_28  (show 0 ≤ b6_12 ∧ b6_12 < 240 by omega)) gX4_readIndexLine_X8_tell rfl ziX8_tell ⟨rfl, rfl, by decide, by decide⟩ rfl hl.1 rfl (Nat.le_of_ble_eq_true rfl) dX4_readIndexLine_91 ⟨Nat.zero_le _, Nat.zero_le _⟩ hW hA [7, 8, 9] rfl (by decide) (fun _ => rfl) (fun _ => (rW cI cJ hd qd (uV (uV (uV (uV (uV (uV vd 1 b1_23) 2 b2_24) 3 b3_25) 4 b4_26) 5 b5_27) 6 b6_28) ad) ++ ((sW cI cJ (qd 0) qo vo ao) ++ ((bO cI cJ hB qB vB aB) ++ (vW cI cJ (qB 0) qv (uV vv 2 ((vv 2) + 1)) (uA (uA av 0 (uI ((av 0)) b6_12 b6_20)) 1 (uI ((av 1)) b6_12 b6_28)))))) (fun _ => rfl) (fun _ => []) (fun _ => rfl) 7 rfl rfl rfl (fun _ H locs hp91 hW => ?_)
          have hW : zW G (tyZ cI cJ cO) A s ((rW cI cJ hd qd (uV (uV (uV (uV (uV (uV vd 1 b1_23) 2 b2_24) 3 b3_25) 4 b4_26) 5 b5_27) 6 b6_28) ad) ++ ((sW cI cJ (qd 0) qo vo ao) ++ ((bO cI cJ hB qB vB aB) ++ (vW cI cJ (qB 0) qv (uV vv 2 ((vv 2) + 1)) (uA (uA av 0 (uI ((av 0)) b6_12 b6_20)) 1 (uI ((av 1)) b6_12 b6_28)))))) H locs := hW
          refine lv_aload_n hx hb dX4_readIndexLine_94 rfl (lv_at hl 3 rfl) ?_
          refine lv_aload_n hx hb dX4_readIndexLine_95 rfl (lv_at hl 2 rfl) ?_
          refine z_get (v := .int (iI b6_28)) hx hb hts hiX4_readIndexLine_X4 hown hW 0 6 4 rfl rfl rfl (by decide) rfl dX4_readIndexLine_96 ?_
          refine z_iconst (n := 1) hx hb dX4_readIndexLine_99 ?_
          refine z_callV (As := [.int (iI b6_28), .int (iI 1)]) (rest := []) F (c_X1_addNews  hB qB vB aB b6_28 1  (show 0 ≤ b6_28 ∧ b6_28 < 240 by omega)) gX4_readIndexLine_X1_addNews rfl ziX1_addNews ⟨rfl, rfl, by decide, by decide⟩ rfl hl.1 rfl (Nat.le_of_ble_eq_true rfl) dX4_readIndexLine_100 ⟨Nat.zero_le _, Nat.zero_le _⟩ hW hA [5, 6] rfl (by decide) (fun _ => rfl) (fun _ => (rW cI cJ hd qd (uV (uV (uV (uV (uV (uV vd 1 b1_23) 2 b2_24) 3 b3_25) 4 b4_26) 5 b5_27) 6 b6_28) ad) ++ ((sW cI cJ (qd 0) qo vo ao) ++ ((bO cI cJ hB qB vB (uA aB 2 (uI ((aB 2)) b6_28 ((aB 2) b6_28 + 1)))) ++ (vW cI cJ (qB 0) qv (uV vv 2 ((vv 2) + 1)) (uA (uA av 0 (uI ((av 0)) b6_12 b6_20)) 1 (uI ((av 1)) b6_12 b6_28)))))) (fun _ => rfl) (fun _ => []) (fun _ => rfl) 5 rfl rfl rfl (fun _ H locs hp100 hW => ?_)
          have hW : zW G (tyZ cI cJ cO) A s ((rW cI cJ hd qd (uV (uV (uV (uV (uV (uV vd 1 b1_23) 2 b2_24) 3 b3_25) 4 b4_26) 5 b5_27) 6 b6_28) ad) ++ ((sW cI cJ (qd 0) qo vo ao) ++ ((bO cI cJ hB qB vB (uA aB 2 (uI ((aB 2)) b6_28 ((aB 2) b6_28 + 1)))) ++ (vW cI cJ (qB 0) qv (uV vv 2 ((vv 2) + 1)) (uA (uA av 0 (uI ((av 0)) b6_12 b6_20)) 1 (uI ((av 1)) b6_12 b6_28)))))) H locs := hW
          refine lv_aload_n hx hb dX4_readIndexLine_103 rfl (lv_at hl 2 rfl) ?_
          refine z_iconst (n := 2) hx hb dX4_readIndexLine_104 ?_
          refine z_callV (As := [.int (iI 2)]) (rest := []) F (c_X4_take  hd qd (uV (uV (uV (uV (uV (uV vd 1 b1_23) 2 b2_24) 3 b3_25) 4 b4_26) 5 b5_27) 6 b6_28) ad qo vo ao 2 T z yy_22 hK hR (show 2 ≤ 2 ∧ 2 ≤ 15 by omega)) gX4_readIndexLine_X4_take rfl ziX4_take ⟨rfl, rfl, by decide, by decide⟩ rfl hl.1 rfl (Nat.le_of_ble_eq_true rfl) dX4_readIndexLine_105 ⟨Nat.zero_le _, Nat.zero_le _⟩ hW hA [0, 1, 2, 3, 4] rfl (by decide) (fun _ => rfl) (fun u => (rW cI cJ hd qd (uV (uV (uV (uV (uV (uV vd 1 u.2.2.1) 2 u.2.2.2.1) 3 u.2.2.2.2.1) 4 u.2.2.2.2.2.1) 5 u.2.2.2.2.2.2.1) 6 u.2.2.2.2.2.2.2) ad) ++ ((sW cI cJ (qd 0) qo vo ao) ++ ((bO cI cJ hB qB vB (uA aB 2 (uI ((aB 2)) b6_28 ((aB 2) b6_28 + 1)))) ++ (vW cI cJ (qB 0) qv (uV vv 2 ((vv 2) + 1)) (uA (uA av 0 (uI ((av 0)) b6_12 b6_20)) 1 (uI ((av 1)) b6_12 b6_28)))))) (fun _ => rfl) (fun u => [.int (iI (bI (u.1 = 0)))]) (fun _ => rfl) 0 rfl rfl rfl (fun u H locs hp105 hW => ?_)
          obtain ⟨ff_29, yy_30, b1_31, b2_32, b3_33, b4_34, b5_35, b6_36⟩ := u
          have hp105 : Ptk T z 2 yy_22 = (ff_29, yy_30) ∧ RT T z yy_30 ((vo 3)) b3_33 b4_34 b5_35 b2_32 ∧ NF1 ff_29 b1_31 ∧ N8 ff_29 b1_31 (b1_23) := hp105
          have hW : zW G (tyZ cI cJ cO) A s ((rW cI cJ hd qd (uV (uV (uV (uV (uV (uV vd 1 b1_31) 2 b2_32) 3 b3_33) 4 b4_34) 5 b5_35) 6 b6_36) ad) ++ ((sW cI cJ (qd 0) qo vo ao) ++ ((bO cI cJ hB qB vB (uA aB 2 (uI ((aB 2)) b6_28 ((aB 2) b6_28 + 1)))) ++ (vW cI cJ (qB 0) qv (uV vv 2 ((vv 2) + 1)) (uA (uA av 0 (uI ((av 0)) b6_12 b6_20)) 1 (uI ((av 1)) b6_12 b6_28)))))) H locs := hW
          have hR : RT T z yy_30 (vo 3) b3_33 b4_34 b5_35 b2_32 := hp105.2.1
          have hk9 := KND_R (T := T) (z := z) (y := yy_30)
          have ek9 := hR.2.2.2.1
          exact z_zret hx hb hr hlk (by unfold bI; split <;> omega) hW (⟨ff_29, yy_30, uI (uI N (3 + tkN T z (tkB T z y)) (tkN T z yy_6)) (243 + tkN T z (tkB T z y)) (tkN T z yy_14), b1_31, b2_32, b3_33, b4_34, b5_35, b6_36, uI ((av 0)) b6_12 b6_20, uI ((av 1)) b6_12 b6_28, (vv 2) + 1, uI ((aB 2)) b6_28 ((aB 2) b6_28 + 1)⟩) rfl (show _ = _ ∧ RT _ _ _ _ _ _ _ _ ∧ NF1 _ _ ∧ N8 _ _ _ ∧ IXo _ _ _ _ _ _ _ _ _ _ _ from ⟨by rw [Pix_t hp37.1 c40 h03, (Ptn_0 hp55.1 c58).1, bnd_0 c58, (Ptn_0 hp73.1 c76).1, bnd_0 c76, Ptk_e hp105.1], hR, hp105.2.2.1, (fun q => (hp105.2.2.2 q).trans ((hp73.2.2.2.1 c76).trans ((hp55.2.2.2.1 c58).trans (hp37.2.2.2.1 c40)))), (fun _ => ⟨tkN T z (tkB T z y), tkN T z yy_6, tkN T z yy_14, r37.2.1, r55.2.1, r73.2.1, h03, rfl, by rw [n37, n55], by rw [n37, n73], rfl, by rw [n73]⟩)⟩) rfl dX4_readIndexLine_108
        · refine z_iconst (n := 0) hx hb dX4_readIndexLine_79 ?_
          exact z_zret hx hb hr hlk (by first | exact Or.inl rfl | exact Or.inr rfl | omega) hW (⟨ff_21, yy_22, uI N (3 + tkN T z (tkB T z y)) (tkN T z yy_6), b1_23, b2_24, b3_25, b4_26, b5_27, b6_28, av 0, av 1, vv 2, aB 2⟩) (bI_f c76) (show _ = _ ∧ RT _ _ _ _ _ _ _ _ ∧ NF1 _ _ ∧ N8 _ _ _ ∧ IXo _ _ _ _ _ _ _ _ _ _ _ from ⟨by rw [Pix_t hp37.1 c40 h03, (Ptn_0 hp55.1 c58).1, bnd_0 c58, Ptn_1 hp73.1 c76, bnd_1 c76], hR, hp73.2.2.1, (fun q => absurd q c76), (fun q => absurd q c76)⟩) rfl dX4_readIndexLine_80
      · refine z_iconst (n := 0) hx hb dX4_readIndexLine_61 ?_
        exact z_zret hx hb hr hlk (by first | exact Or.inl rfl | exact Or.inr rfl | omega) hW (⟨ff_13, yy_14, N, b1_15, b2_16, b3_17, b4_18, b5_19, b6_20, av 0, av 1, vv 2, aB 2⟩) (bI_f c58) (show _ = _ ∧ RT _ _ _ _ _ _ _ _ ∧ NF1 _ _ ∧ N8 _ _ _ ∧ IXo _ _ _ _ _ _ _ _ _ _ _ from ⟨by rw [Pix_t hp37.1 c40 h03, Ptn_1 hp55.1 c58, bnd_1 c58], hR, hp55.2.2.1, (fun q => absurd q c58), (fun q => absurd q c58)⟩) rfl dX4_readIndexLine_62
    · refine z_iconst (n := 0) hx hb dX4_readIndexLine_43 ?_
      exact z_zret hx hb hr hlk (by first | exact Or.inl rfl | exact Or.inr rfl | omega) hW (⟨ff_5, yy_6, N, b1_7, b2_8, b3_9, b4_10, b5_11, b6_12, av 0, av 1, vv 2, aB 2⟩) (bI_f c40) (show _ = _ ∧ RT _ _ _ _ _ _ _ _ ∧ NF1 _ _ ∧ N8 _ _ _ ∧ IXo _ _ _ _ _ _ _ _ _ _ _ from ⟨by exact Pix_f hp37.1 c40, hR, hp37.2.2.1, (fun q => absurd q c40), (fun q => absurd q c40)⟩) rfl dX4_readIndexLine_44
  · intro J37
    refine lv_aload_n hx hb dX4_readIndexLine_4 rfl (lv_at hl 0 rfl) ?_
    refine z_get (v := .int (iI b4_3)) hx hb hts hiX4_readIndexLine_X4 hown hW 0 4 1 rfl rfl rfl (by decide) rfl dX4_readIndexLine_5 ?_
    refine z_iconst (n := 3) hx hb dX4_readIndexLine_8 ?_
    refine z_icmp_ne (tgt := 32) hx hb dX4_readIndexLine_9 (by decide) ⟨by omega, by omega⟩ (by decide) (fun c9 => ?_) (fun c9 => ?_)
    · exact J37  _ _ _ ⟨(by first | exact (fun q => absurd q (by omega)) | (rw [en9] at c23; exact (fun _ => by by_cases q9 : tkN T z (tkB T z y) < 240; (left; have t := (hRV (tkN T z (tkB T z y)) (by omega) q9).1; omega); (right; omega)))), hW, (lv_sub hl [0, 1] rfl)⟩
    · have hs3 := hs30.mp (by omega)
      have hn9 := tkN_R hs3
      have en9 := hR.2.2.2.2.2 (by omega)
      refine lv_aload_n hx hb dX4_readIndexLine_12 rfl (lv_at hl 1 rfl) ?_
      refine z_get (v := .ref (qB 0)) hx hb hts hiX4_readIndexLine_X1 hown hW 5 0 2 rfl rfl rfl (by decide) rfl dX4_readIndexLine_13 ?_
      refine lv_aload_n hx hb dX4_readIndexLine_16 rfl (lv_at hl 0 rfl) ?_
      refine z_get (v := .int (iI b5_4)) hx hb hts hiX4_readIndexLine_X4 hown hW 0 5 3 rfl rfl rfl (by decide) rfl dX4_readIndexLine_17 ?_
      refine z_callV (As := [.int (iI b5_4)]) (rest := []) F (c_X8_has  (qB 0) qv vv av b5_4  (show -2147483648 ≤ b5_4 ∧ b5_4 < 2147483648 by omega) (fun q0 q1 => by have t := (hRV (tkN T z (tkB T z y)) (by omega) (by omega)).1; have t2 := hV (tkN T z (tkB T z y)) (by omega) (by omega); rw [en9]; omega)) gX4_readIndexLine_X8_has rfl ziX8_has ⟨rfl, rfl, by decide, by decide⟩ rfl hl.1 rfl (Nat.le_of_ble_eq_true rfl) dX4_readIndexLine_20 ⟨Nat.zero_le _, Nat.zero_le _⟩ hW hA [7, 8, 9] rfl (by decide) (fun _ => rfl) (fun _ => (rW cI cJ hd qd (uV (uV (uV (uV vd 2 b2_1) 3 b3_2) 4 b4_3) 5 b5_4) ad) ++ ((sW cI cJ (qd 0) qo vo ao) ++ ((bO cI cJ hB qB vB aB) ++ (vW cI cJ (qB 0) qv vv av)))) (fun _ => rfl) (fun _ => [.int (iI (bI ((0 ≤ b5_4 ∧ b5_4 < 240) ∧ (av 0) b5_4 ≠ 0)))]) (fun _ => rfl) 7 rfl rfl rfl (fun _ H locs hp20 hW => ?_)
      refine z_b_eq (tgt := 32) hx hb dX4_readIndexLine_23 (by decide) (fun c23 => ?_) (fun c23 => ?_)
      · exact J37  _ _ _ ⟨(by first | exact (fun q => absurd q (by omega)) | (rw [en9] at c23; exact (fun _ => by by_cases q9 : tkN T z (tkB T z y) < 240; (left; have t := (hRV (tkN T z (tkB T z y)) (by omega) q9).1; omega); (right; omega)))), hW, (lv_sub hl [0, 1] rfl)⟩
      · refine lv_aload_n hx hb dX4_readIndexLine_26 rfl (lv_at hl 0 rfl) ?_
        refine z_iconst (n := 2) hx hb dX4_readIndexLine_27 ?_
        refine z_callV (As := [.int (iI 2)]) (rest := []) F (c_X4_refuse  hd qd (uV (uV (uV (uV vd 2 b2_1) 3 b3_2) 4 b4_3) 5 b5_4) ad 2  (show 1 ≤ 2 ∧ 2 ≤ 4 by omega)) gX4_readIndexLine_X4_refuse rfl ziX4_refuse ⟨rfl, rfl, by decide, by decide⟩ rfl hl.1 rfl (Nat.le_of_ble_eq_true rfl) dX4_readIndexLine_28 ⟨Nat.zero_le _, Nat.zero_le _⟩ hW hA [0] rfl (by decide) (fun _ => rfl) (fun _ => (rW cI cJ hd qd (uV (uV (uV (uV (uV vd 2 b2_1) 3 b3_2) 4 b4_3) 5 b5_4) 1 2) ad) ++ ((sW cI cJ (qd 0) qo vo ao) ++ ((bO cI cJ hB qB vB aB) ++ (vW cI cJ (qB 0) qv vv av)))) (fun _ => rfl) (fun _ => [.int (iI 0)]) (fun _ => rfl) 0 rfl rfl rfl (fun _ H locs hp28 hW => ?_)
        have hW : zW G (tyZ cI cJ cO) A s ((rW cI cJ hd qd (uV (uV (uV (uV (uV vd 2 b2_1) 3 b3_2) 4 b4_3) 5 b5_4) 1 2) ad) ++ ((sW cI cJ (qd 0) qo vo ao) ++ ((bO cI cJ hB qB vB aB) ++ (vW cI cJ (qB 0) qv vv av)))) H locs := hW
        exact z_zret hx hb hr hlk (by first | exact Or.inl rfl | exact Or.inr rfl | omega) hW (⟨2, tkB T z y, N, 2, b2_1, b3_2, b4_3, b5_4, vd 6, av 0, av 1, vv 2, aB 2⟩) (bI_f (show ¬ (2 : Int) = 0 by decide)) (show _ = _ ∧ RT _ _ _ _ _ _ _ _ ∧ NF1 _ _ ∧ N8 _ _ _ ∧ IXo _ _ _ _ _ _ _ _ _ _ _ from ⟨by unfold Pix; rw [if_neg (fun q => q hs3), if_pos (Or.inr (by rw [en9] at c23; have t := (hRV (tkN T z (tkB T z y)) (by omega) (by omega)).1; have t2 := hV (tkN T z (tkB T z y)) (by omega) (by omega); omega))], hR, (fun _ => rfl), (fun q => absurd (show (2 : Int) = 0 from q) (by decide)), (fun q => absurd (show (2 : Int) = 0 from q) (by decide))⟩) rfl dX4_readIndexLine_31
