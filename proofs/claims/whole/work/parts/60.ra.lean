/-! the class: the reader's steps -/
def NF1 (ff b1 : Int) : Prop := ff ≠ 0 → b1 = ff
def N3 (kd nb t : Int) : Prop := kd = 3 → nb = t
/-- the class's reader stands at the token that comes at y -/
def RT (T : Int → Int) (z y c nx kd nb pl : Int) : Prop := (0 ≤ y ∧ y ≤ z) ∧ (1 ≤ nx ∧ nx ≤ c) ∧ y = POS T z (nx - 1).toNat ∧ kd = KND T z y ∧ pl = tkP T z y ∧ N3 kd nb (tkN T z y)
theorem RT_nx {T : Int → Int} {z y c nx kd nb pl : Int} {K P M : Int → Int} (hK : TKS T z K P M c) (h : RT T z y c nx kd nb pl) (h2 : 2 ≤ KND T z y) : nx < c := by
  obtain ⟨h0, h1, hy, -⟩ := h
  obtain ⟨k1, k2, k3, k4, k5⟩ := hK
  by_cases q : nx < c
  · exact q
  · exfalso
    have e : nx = c := by omega
    have t := (k3 (c - 1).toNat (by omega)).1
    rw [show (((c - 1).toNat : Nat) : Int) = c - 1 by omega] at t
    rw [e] at hy
    rw [← hy] at t
    omega
theorem RT_go {T : Int → Int} {z y c nx kd nb pl : Int} {K P M : Int → Int} (hK : TKS T z K P M c) (h : RT T z y c nx kd nb pl) (h2 : 2 ≤ KND T z y) : RT T z (tkB T z y) c (nx + 1) (K nx) (M nx) (P nx) := by
  have hn := RT_nx hK h h2
  obtain ⟨h0, h1, hy, -⟩ := h
  have b := tkB_R (T := T) h0
  have ey : tkB T z y = POS T z (nx + 1 - 1).toNat := by
    rw [show (nx + 1 - 1).toNat = (nx - 1).toNat + 1 by omega]
    show tkB T z y = tkB T z (POS T z (nx - 1).toNat)
    rw [← hy]
  have t := hK.2.2.1 nx.toNat (by omega)
  rw [show ((nx.toNat : Nat) : Int) = nx by omega] at t
  rw [show (nx + 1 - 1).toNat = nx.toNat by omega] at ey
  rw [← ey] at t
  refine ⟨by omega, by omega, ?_, t.1, t.2.1, t.2.2⟩
  rw [show (nx + 1 - 1).toNat = nx.toNat by omega]
  exact ey
theorem RT_0 {T : Int → Int} {z c : Int} {K P M : Int → Int} (hz : 0 ≤ z) (hK : TKS T z K P M c) : RT T z 0 c (0 + 1) (K 0) (M 0) (P 0) := by
  have t := hK.2.2.1 0 (by have := hK.1; omega)
  exact ⟨⟨Int.le_refl 0, hz⟩, ⟨by omega, hK.1⟩, rfl, t.1, t.2.1, t.2.2⟩
/-- a token of a kind -/
def Ptk (T : Int → Int) (z w y : Int) : Int × Int := if KND T z y ≠ w then (1, y) else (0, tkB T z y)
/-- a number between lo and hi -/
def Ptn (T : Int → Int) (z lo hi y : Int) : Int × Int := if KND T z y ≠ 3 then (1, y) else if tkN T z y < lo ∨ hi < tkN T z y then (2, y) else (0, tkB T z y)
theorem Ptn_0 {T : Int → Int} {z p lo hi y f y1 : Int} {N : Int → Int} (h : Ptn T z lo hi y = (f, y1)) (hf : f = 0) : Pnum T z p lo hi y N = (f, y1, uI N p (tkN T z y)) ∧ (lo ≤ tkN T z y ∧ tkN T z y ≤ hi) ∧ KND T z y = 3 := by
  have k := (KND_S (T := T) (z := z) (y := y)).2.2.2.1
  unfold Ptn at h
  split at h
  · exact absurd (show (1 : Int) = f from congrArg Prod.fst h) (by omega)
  · next q1 =>
    split at h
    · exact absurd (show (2 : Int) = f from congrArg Prod.fst h) (by omega)
    · next q2 =>
      injection h with e1 e2
      unfold Pnum
      rw [if_neg (fun q => q1 (fun w => q (k.mp w))), if_neg q2, e1, e2]
      exact ⟨rfl, by omega, by omega⟩
theorem Ptn_1 {T : Int → Int} {z p lo hi y f y1 : Int} {N : Int → Int} (h : Ptn T z lo hi y = (f, y1)) (hf : ¬ f = 0) : Pnum T z p lo hi y N = (f, y1, N) := by
  have k := (KND_S (T := T) (z := z) (y := y)).2.2.2.1
  unfold Ptn at h
  unfold Pnum
  split at h
  · next q1 =>
    injection h with e1 e2
    rw [if_pos (fun w => q1 (k.mpr w)), e1, e2]
  · next q1 =>
    rw [if_neg (fun q => q1 (fun w => q (k.mp w)))]
    split at h
    · next q2 =>
      injection h with e1 e2
      rw [if_pos q2, e1, e2]
    · injection h with e1 e2
      exact absurd e1.symm hf
theorem Ptk_e {T : Int → Int} {z y f y1 : Int} {N : Int → Int} (h : Ptk T z 2 y = (f, y1)) : Pend T z y N = (f, y1, N) := by
  have k := (KND_S (T := T) (z := z) (y := y)).2.2.1
  unfold Ptk at h
  unfold Pend
  split at h
  · next q1 =>
    injection h with e1 e2
    rw [if_pos (fun w => q1 (k.mpr w)), e1, e2]
  · next q1 =>
    injection h with e1 e2
    rw [if_neg (fun q => q1 (fun w => q (k.mp w))), e1, e2]
theorem hiX4_advance_X4 : ∀ w ∈ wsX40, w ∈ wsX4_advance := fun _ h => List.mem_cons_of_mem _ (List.mem_append_left _ (List.mem_append_right _ h))
theorem hiX4_advance_X7 : ∀ w ∈ wsX70, w ∈ wsX4_advance := fun _ h => List.mem_cons_of_mem _ (List.mem_append_right _ h)
theorem ziX4_advance : yX4_advance.cls = RX4 ∧ yX4_advance.cls ≠ "java/lang/invoke/MethodHandle" ∧ yX4_advance.cls ≠ "java/lang/invoke/VarHandle" ∧ (parseMethodDescriptor yX4_advance.desc).map (fun d => d.parameters.length) = some 0 := by decide +kernel
set_option maxHeartbeats 4000000 in
set_option maxRecDepth 100000 in
theorem c_X4_advance {l : Launch} {G : va_G} {cI cJ cO : ClassId}  (hd : Nat) (qd : Nat → Nat) (vd : Nat → Int) (ad : Nat → Int → Int) (qo : Nat → Nat) (vo : Nat → Int) (ao : Nat → Int → Int)  (T : Int → Int) (z : Int) (y : Int) (hK : TKS T z (ao 0) (ao 1) (ao 2) (vo 3)) (hR : RT T z y (vo 3) (vd 3) (vd 4) (vd 5) (vd 2)) (h2 : 2 ≤ KND T z y) : zC l yX4_advance wsX4_advance { frames := 0, cells := 0, slots := 0, locals := 0 } G (tyZ cI cJ cO) (S := Int × Int × Int × Int) [.ref hd] ((rW cI cJ hd qd vd ad) ++ (sW cI cJ (qd 0) qo vo ao)) (zN) (fun u => RT T z (tkB T z y) (vo 3) u.2.1 u.2.2.1 u.2.2.2 u.1) (fun u => (rW cI cJ hd qd (uV (uV (uV (uV vd 2 u.1) 3 u.2.1) 4 u.2.2.1) 5 u.2.2.2) ad) ++ (sW cI cJ (qd 0) qo vo ao)) 0 0 := by
  refine z_start (cc := cX4_advance) (maxL := 1) (ret := none) (by decide) rfl (Nat.le_of_ble_eq_true rfl) ?_
  intro p e s m below meth c A ls F hr hlk hnm hAe hA hW hl
  have hx := F.1
  have hb := F.2.1
  have hown : s.vm.findClass RX4 = some m.cls := F.2.2.2.1
  have hts := F.2.2.2.2
  have hl : lv_has ls 1 [(0, .ref hd)] := hl
  have hn := RT_nx hK hR h2
  have h3 := hR.2.1
  have hc := hK.2.1
  refine lv_aload_n hx hb dX4_advance_0 rfl (lv_at hl 0 rfl) ?_
  refine z_get (v := .int (iI (vd 3))) hx hb hts hiX4_advance_X4 hown hW 0 3 1 rfl rfl rfl (by decide) rfl dX4_advance_1 ?_
  refine z_if_lt (tgt := 124) hx hb dX4_advance_4 (by decide) ⟨by omega, by omega⟩ (fun c4 => ?_) (fun c4 => ?_)
  · exfalso; omega
  · refine lv_aload_n hx hb dX4_advance_7 rfl (lv_at hl 0 rfl) ?_
    refine z_get (v := .int (iI (vd 3))) hx hb hts hiX4_advance_X4 hown hW 0 3 1 rfl rfl rfl (by decide) rfl dX4_advance_8 ?_
    refine lv_aload_n hx hb dX4_advance_11 rfl (lv_at hl 0 rfl) ?_
    refine z_get (v := .ref (qd 0)) hx hb hts hiX4_advance_X4 hown hW 0 0 2 rfl rfl rfl (by decide) rfl dX4_advance_12 ?_
    refine z_get (v := .int (iI (vo 3))) hx hb hts hiX4_advance_X7 hown hW 1 3 3 rfl rfl rfl (by decide) rfl dX4_advance_15 ?_
    refine z_icmp_ge (tgt := 124) hx hb dX4_advance_18 (by decide) ⟨by omega, by omega⟩ ⟨by omega, by omega⟩ (fun c18 => ?_) (fun c18 => ?_)
    · exfalso; omega
    · refine lv_aload_n hx hb dX4_advance_21 rfl (lv_at hl 0 rfl) ?_
      refine z_get (v := .int (iI (vd 3))) hx hb hts hiX4_advance_X4 hown hW 0 3 1 rfl rfl rfl (by decide) rfl dX4_advance_22 ?_
      refine lv_aload_n hx hb dX4_advance_25 rfl (lv_at hl 0 rfl) ?_
      refine z_get (v := .ref (qd 0)) hx hb hts hiX4_advance_X4 hown hW 0 0 2 rfl rfl rfl (by decide) rfl dX4_advance_26 ?_
      refine z_get (v := .ref (qo 0)) hx hb hts hiX4_advance_X7 hown hW 1 0 4 rfl rfl rfl (by decide) rfl dX4_advance_29 ?_
      refine z_alen hx hb hW 2 0 rfl rfl dX4_advance_32 ?_
      refine W.eq (g2 := F0 m 33 ls [.int (iI 601), .int (iI (vd 3))]) rfl ?_
      refine z_icmp_ge (tgt := 124) hx hb dX4_advance_33 (by decide) ⟨by omega, by omega⟩ (by decide) (fun c33 => ?_) (fun c33 => ?_)
      · exfalso; omega
      · refine lv_aload_n hx hb dX4_advance_36 rfl (lv_at hl 0 rfl) ?_
        refine z_get (v := .int (iI (vd 3))) hx hb hts hiX4_advance_X4 hown hW 0 3 1 rfl rfl rfl (by decide) rfl dX4_advance_37 ?_
        refine lv_aload_n hx hb dX4_advance_40 rfl (lv_at hl 0 rfl) ?_
        refine z_get (v := .ref (qd 0)) hx hb hts hiX4_advance_X4 hown hW 0 0 2 rfl rfl rfl (by decide) rfl dX4_advance_41 ?_
        refine z_get (v := .ref (qo 1)) hx hb hts hiX4_advance_X7 hown hW 1 1 5 rfl rfl rfl (by decide) rfl dX4_advance_44 ?_
        refine z_alen hx hb hW 3 0 rfl rfl dX4_advance_47 ?_
        refine W.eq (g2 := F0 m 48 ls [.int (iI 601), .int (iI (vd 3))]) rfl ?_
        refine z_icmp_ge (tgt := 124) hx hb dX4_advance_48 (by decide) ⟨by omega, by omega⟩ (by decide) (fun c48 => ?_) (fun c48 => ?_)
        · exfalso; omega
        · refine lv_aload_n hx hb dX4_advance_51 rfl (lv_at hl 0 rfl) ?_
          refine z_get (v := .int (iI (vd 3))) hx hb hts hiX4_advance_X4 hown hW 0 3 1 rfl rfl rfl (by decide) rfl dX4_advance_52 ?_
          refine lv_aload_n hx hb dX4_advance_55 rfl (lv_at hl 0 rfl) ?_
          refine z_get (v := .ref (qd 0)) hx hb hts hiX4_advance_X4 hown hW 0 0 2 rfl rfl rfl (by decide) rfl dX4_advance_56 ?_
          refine z_get (v := .ref (qo 2)) hx hb hts hiX4_advance_X7 hown hW 1 2 6 rfl rfl rfl (by decide) rfl dX4_advance_59 ?_
          refine z_alen hx hb hW 4 0 rfl rfl dX4_advance_62 ?_
          refine W.eq (g2 := F0 m 63 ls [.int (iI 601), .int (iI (vd 3))]) rfl ?_
          refine z_icmp_ge (tgt := 124) hx hb dX4_advance_63 (by decide) ⟨by omega, by omega⟩ (by decide) (fun c63 => ?_) (fun c63 => ?_)
          · exfalso; omega
          · refine lv_aload_n hx hb dX4_advance_66 rfl (lv_at hl 0 rfl) ?_
            refine lv_aload_n hx hb dX4_advance_67 rfl (lv_at hl 0 rfl) ?_
            refine z_get (v := .ref (qd 0)) hx hb hts hiX4_advance_X4 hown hW 0 0 2 rfl rfl rfl (by decide) rfl dX4_advance_68 ?_
            refine z_get (v := .ref (qo 0)) hx hb hts hiX4_advance_X7 hown hW 1 0 4 rfl rfl rfl (by decide) rfl dX4_advance_71 ?_
            refine lv_aload_n hx hb dX4_advance_74 rfl (lv_at hl 0 rfl) ?_
            refine z_get (v := .int (iI (vd 3))) hx hb hts hiX4_advance_X4 hown hW 0 3 1 rfl rfl rfl (by decide) rfl dX4_advance_75 ?_
            refine z_iald (f := ao 0) (i := vd 3) hx hb hW 2 0 rfl rfl (by decide) ⟨by omega, by omega⟩ dX4_advance_78 ?_
            refine z_put hx hb hts hiX4_advance_X4 tyX4 tyX4_ok nmX4 hown hW 0 4 7 rfl rfl (by decide) (Nat.le_of_ble_eq_true rfl) rfl rfl rfl rfl dX4_advance_79 (fun H locs hW => ?_)
            have hW : zW G (tyZ cI cJ cO) A s ((rW cI cJ hd qd (uV vd 4 ((ao 0) (vd 3))) ad) ++ (sW cI cJ (qd 0) qo vo ao)) H locs := hW
            refine lv_aload_n hx hb dX4_advance_82 rfl (lv_at hl 0 rfl) ?_
            refine lv_aload_n hx hb dX4_advance_83 rfl (lv_at hl 0 rfl) ?_
            refine z_get (v := .ref (qd 0)) hx hb hts hiX4_advance_X4 hown hW 0 0 2 rfl rfl rfl (by decide) rfl dX4_advance_84 ?_
            refine z_get (v := .ref (qo 1)) hx hb hts hiX4_advance_X7 hown hW 1 1 5 rfl rfl rfl (by decide) rfl dX4_advance_87 ?_
            refine lv_aload_n hx hb dX4_advance_90 rfl (lv_at hl 0 rfl) ?_
            refine z_get (v := .int (iI (vd 3))) hx hb hts hiX4_advance_X4 hown hW 0 3 1 rfl rfl rfl (by decide) rfl dX4_advance_91 ?_
            refine z_iald (f := ao 1) (i := vd 3) hx hb hW 3 0 rfl rfl (by decide) ⟨by omega, by omega⟩ dX4_advance_94 ?_
            refine z_put hx hb hts hiX4_advance_X4 tyX4 tyX4_ok nmX4 hown hW 0 2 8 rfl rfl (by decide) (Nat.le_of_ble_eq_true rfl) rfl rfl rfl rfl dX4_advance_95 (fun H locs hW => ?_)
            have hW : zW G (tyZ cI cJ cO) A s ((rW cI cJ hd qd (uV (uV vd 4 ((ao 0) (vd 3))) 2 ((ao 1) (vd 3))) ad) ++ (sW cI cJ (qd 0) qo vo ao)) H locs := hW
            refine lv_aload_n hx hb dX4_advance_98 rfl (lv_at hl 0 rfl) ?_
            refine lv_aload_n hx hb dX4_advance_99 rfl (lv_at hl 0 rfl) ?_
            refine z_get (v := .ref (qd 0)) hx hb hts hiX4_advance_X4 hown hW 0 0 2 rfl rfl rfl (by decide) rfl dX4_advance_100 ?_
            refine z_get (v := .ref (qo 2)) hx hb hts hiX4_advance_X7 hown hW 1 2 6 rfl rfl rfl (by decide) rfl dX4_advance_103 ?_
            refine lv_aload_n hx hb dX4_advance_106 rfl (lv_at hl 0 rfl) ?_
            refine z_get (v := .int (iI (vd 3))) hx hb hts hiX4_advance_X4 hown hW 0 3 1 rfl rfl rfl (by decide) rfl dX4_advance_107 ?_
            refine z_iald (f := ao 2) (i := vd 3) hx hb hW 4 0 rfl rfl (by decide) ⟨by omega, by omega⟩ dX4_advance_110 ?_
            refine z_put hx hb hts hiX4_advance_X4 tyX4 tyX4_ok nmX4 hown hW 0 5 9 rfl rfl (by decide) (Nat.le_of_ble_eq_true rfl) rfl rfl rfl rfl dX4_advance_111 (fun H locs hW => ?_)
            have hW : zW G (tyZ cI cJ cO) A s ((rW cI cJ hd qd (uV (uV (uV vd 4 ((ao 0) (vd 3))) 2 ((ao 1) (vd 3))) 5 ((ao 2) (vd 3))) ad) ++ (sW cI cJ (qd 0) qo vo ao)) H locs := hW
            refine lv_aload_n hx hb dX4_advance_114 rfl (lv_at hl 0 rfl) ?_
            refine lv_dup hx hb dX4_advance_115 rfl ?_
            refine z_get (v := .int (iI (vd 3))) hx hb hts hiX4_advance_X4 hown hW 0 3 1 rfl rfl rfl (by decide) rfl dX4_advance_116 ?_
            refine z_iconst (n := 1) hx hb dX4_advance_119 ?_
            refine z_iadd hx hb dX4_advance_120 ?_
            refine z_put hx hb hts hiX4_advance_X4 tyX4 tyX4_ok nmX4 hown hW 0 3 1 rfl rfl (by decide) (Nat.le_of_ble_eq_true rfl) rfl rfl rfl rfl dX4_advance_121 (fun H locs hW => ?_)
            have hW : zW G (tyZ cI cJ cO) A s ((rW cI cJ hd qd (uV (uV (uV (uV vd 4 ((ao 0) (vd 3))) 2 ((ao 1) (vd 3))) 5 ((ao 2) (vd 3))) 3 ((vd 3) + 1)) ad) ++ (sW cI cJ (qd 0) qo vo ao)) H locs := hW
            exact z_vret hx hb hr hlk hW (⟨(ao 1) (vd 3), (vd 3) + 1, (ao 0) (vd 3), (ao 2) (vd 3)⟩) (show RT _ _ _ _ _ _ _ _ from RT_go hK hR h2) rfl dX4_advance_124
set_option maxHeartbeats 4000000 in
set_option maxRecDepth 100000 in
theorem c_X4_advance0 {l : Launch} {G : va_G} {cI cJ cO : ClassId}  (hd : Nat) (qd : Nat → Nat) (vd : Nat → Int) (ad : Nat → Int → Int) (qo : Nat → Nat) (vo : Nat → Int) (ao : Nat → Int → Int)  (T : Int → Int) (z : Int) (hK : TKS T z (ao 0) (ao 1) (ao 2) (vo 3)) (h0 : vd 3 = 0) (hz9 : 0 ≤ z) : zC l yX4_advance wsX4_advance { frames := 0, cells := 0, slots := 0, locals := 0 } G (tyZ cI cJ cO) (S := Int × Int × Int × Int) [.ref hd] ((rW cI cJ hd qd vd ad) ++ (sW cI cJ (qd 0) qo vo ao)) (zN) (fun u => RT T z 0 (vo 3) u.2.1 u.2.2.1 u.2.2.2 u.1) (fun u => (rW cI cJ hd qd (uV (uV (uV (uV vd 2 u.1) 3 u.2.1) 4 u.2.2.1) 5 u.2.2.2) ad) ++ (sW cI cJ (qd 0) qo vo ao)) 0 0 := by
  refine z_start (cc := cX4_advance) (maxL := 1) (ret := none) (by decide) rfl (Nat.le_of_ble_eq_true rfl) ?_
  intro p e s m below meth c A ls F hr hlk hnm hAe hA hW hl
  have hx := F.1
  have hb := F.2.1
  have hown : s.vm.findClass RX4 = some m.cls := F.2.2.2.1
  have hts := F.2.2.2.2
  have hl : lv_has ls 1 [(0, .ref hd)] := hl
  have hc := hK.1
  have hc2 := hK.2.1
  refine lv_aload_n hx hb dX4_advance_0 rfl (lv_at hl 0 rfl) ?_
  refine z_get (v := .int (iI (vd 3))) hx hb hts hiX4_advance_X4 hown hW 0 3 1 rfl rfl rfl (by decide) rfl dX4_advance_1 ?_
  refine z_if_lt (tgt := 124) hx hb dX4_advance_4 (by decide) ⟨by omega, by omega⟩ (fun c4 => ?_) (fun c4 => ?_)
  · exfalso; omega
  · refine lv_aload_n hx hb dX4_advance_7 rfl (lv_at hl 0 rfl) ?_
    refine z_get (v := .int (iI (vd 3))) hx hb hts hiX4_advance_X4 hown hW 0 3 1 rfl rfl rfl (by decide) rfl dX4_advance_8 ?_
    refine lv_aload_n hx hb dX4_advance_11 rfl (lv_at hl 0 rfl) ?_
    refine z_get (v := .ref (qd 0)) hx hb hts hiX4_advance_X4 hown hW 0 0 2 rfl rfl rfl (by decide) rfl dX4_advance_12 ?_
    refine z_get (v := .int (iI (vo 3))) hx hb hts hiX4_advance_X7 hown hW 1 3 3 rfl rfl rfl (by decide) rfl dX4_advance_15 ?_
    refine z_icmp_ge (tgt := 124) hx hb dX4_advance_18 (by decide) ⟨by omega, by omega⟩ ⟨by omega, by omega⟩ (fun c18 => ?_) (fun c18 => ?_)
    · exfalso; omega
    · refine lv_aload_n hx hb dX4_advance_21 rfl (lv_at hl 0 rfl) ?_
      refine z_get (v := .int (iI (vd 3))) hx hb hts hiX4_advance_X4 hown hW 0 3 1 rfl rfl rfl (by decide) rfl dX4_advance_22 ?_
      refine lv_aload_n hx hb dX4_advance_25 rfl (lv_at hl 0 rfl) ?_
      refine z_get (v := .ref (qd 0)) hx hb hts hiX4_advance_X4 hown hW 0 0 2 rfl rfl rfl (by decide) rfl dX4_advance_26 ?_
      refine z_get (v := .ref (qo 0)) hx hb hts hiX4_advance_X7 hown hW 1 0 4 rfl rfl rfl (by decide) rfl dX4_advance_29 ?_
      refine z_alen hx hb hW 2 0 rfl rfl dX4_advance_32 ?_
      refine W.eq (g2 := F0 m 33 ls [.int (iI 601), .int (iI (vd 3))]) rfl ?_
      refine z_icmp_ge (tgt := 124) hx hb dX4_advance_33 (by decide) ⟨by omega, by omega⟩ (by decide) (fun c33 => ?_) (fun c33 => ?_)
      · exfalso; omega
      · refine lv_aload_n hx hb dX4_advance_36 rfl (lv_at hl 0 rfl) ?_
        refine z_get (v := .int (iI (vd 3))) hx hb hts hiX4_advance_X4 hown hW 0 3 1 rfl rfl rfl (by decide) rfl dX4_advance_37 ?_
        refine lv_aload_n hx hb dX4_advance_40 rfl (lv_at hl 0 rfl) ?_
        refine z_get (v := .ref (qd 0)) hx hb hts hiX4_advance_X4 hown hW 0 0 2 rfl rfl rfl (by decide) rfl dX4_advance_41 ?_
        refine z_get (v := .ref (qo 1)) hx hb hts hiX4_advance_X7 hown hW 1 1 5 rfl rfl rfl (by decide) rfl dX4_advance_44 ?_
        refine z_alen hx hb hW 3 0 rfl rfl dX4_advance_47 ?_
        refine W.eq (g2 := F0 m 48 ls [.int (iI 601), .int (iI (vd 3))]) rfl ?_
        refine z_icmp_ge (tgt := 124) hx hb dX4_advance_48 (by decide) ⟨by omega, by omega⟩ (by decide) (fun c48 => ?_) (fun c48 => ?_)
        · exfalso; omega
        · refine lv_aload_n hx hb dX4_advance_51 rfl (lv_at hl 0 rfl) ?_
          refine z_get (v := .int (iI (vd 3))) hx hb hts hiX4_advance_X4 hown hW 0 3 1 rfl rfl rfl (by decide) rfl dX4_advance_52 ?_
          refine lv_aload_n hx hb dX4_advance_55 rfl (lv_at hl 0 rfl) ?_
          refine z_get (v := .ref (qd 0)) hx hb hts hiX4_advance_X4 hown hW 0 0 2 rfl rfl rfl (by decide) rfl dX4_advance_56 ?_
          refine z_get (v := .ref (qo 2)) hx hb hts hiX4_advance_X7 hown hW 1 2 6 rfl rfl rfl (by decide) rfl dX4_advance_59 ?_
          refine z_alen hx hb hW 4 0 rfl rfl dX4_advance_62 ?_
          refine W.eq (g2 := F0 m 63 ls [.int (iI 601), .int (iI (vd 3))]) rfl ?_
          refine z_icmp_ge (tgt := 124) hx hb dX4_advance_63 (by decide) ⟨by omega, by omega⟩ (by decide) (fun c63 => ?_) (fun c63 => ?_)
          · exfalso; omega
          · refine lv_aload_n hx hb dX4_advance_66 rfl (lv_at hl 0 rfl) ?_
            refine lv_aload_n hx hb dX4_advance_67 rfl (lv_at hl 0 rfl) ?_
            refine z_get (v := .ref (qd 0)) hx hb hts hiX4_advance_X4 hown hW 0 0 2 rfl rfl rfl (by decide) rfl dX4_advance_68 ?_
            refine z_get (v := .ref (qo 0)) hx hb hts hiX4_advance_X7 hown hW 1 0 4 rfl rfl rfl (by decide) rfl dX4_advance_71 ?_
            refine lv_aload_n hx hb dX4_advance_74 rfl (lv_at hl 0 rfl) ?_
            refine z_get (v := .int (iI (vd 3))) hx hb hts hiX4_advance_X4 hown hW 0 3 1 rfl rfl rfl (by decide) rfl dX4_advance_75 ?_
            refine z_iald (f := ao 0) (i := vd 3) hx hb hW 2 0 rfl rfl (by decide) ⟨by omega, by omega⟩ dX4_advance_78 ?_
            refine z_put hx hb hts hiX4_advance_X4 tyX4 tyX4_ok nmX4 hown hW 0 4 7 rfl rfl (by decide) (Nat.le_of_ble_eq_true rfl) rfl rfl rfl rfl dX4_advance_79 (fun H locs hW => ?_)
            have hW : zW G (tyZ cI cJ cO) A s ((rW cI cJ hd qd (uV vd 4 ((ao 0) (vd 3))) ad) ++ (sW cI cJ (qd 0) qo vo ao)) H locs := hW
            refine lv_aload_n hx hb dX4_advance_82 rfl (lv_at hl 0 rfl) ?_
            refine lv_aload_n hx hb dX4_advance_83 rfl (lv_at hl 0 rfl) ?_
            refine z_get (v := .ref (qd 0)) hx hb hts hiX4_advance_X4 hown hW 0 0 2 rfl rfl rfl (by decide) rfl dX4_advance_84 ?_
            refine z_get (v := .ref (qo 1)) hx hb hts hiX4_advance_X7 hown hW 1 1 5 rfl rfl rfl (by decide) rfl dX4_advance_87 ?_
            refine lv_aload_n hx hb dX4_advance_90 rfl (lv_at hl 0 rfl) ?_
            refine z_get (v := .int (iI (vd 3))) hx hb hts hiX4_advance_X4 hown hW 0 3 1 rfl rfl rfl (by decide) rfl dX4_advance_91 ?_
            refine z_iald (f := ao 1) (i := vd 3) hx hb hW 3 0 rfl rfl (by decide) ⟨by omega, by omega⟩ dX4_advance_94 ?_
            refine z_put hx hb hts hiX4_advance_X4 tyX4 tyX4_ok nmX4 hown hW 0 2 8 rfl rfl (by decide) (Nat.le_of_ble_eq_true rfl) rfl rfl rfl rfl dX4_advance_95 (fun H locs hW => ?_)
            have hW : zW G (tyZ cI cJ cO) A s ((rW cI cJ hd qd (uV (uV vd 4 ((ao 0) (vd 3))) 2 ((ao 1) (vd 3))) ad) ++ (sW cI cJ (qd 0) qo vo ao)) H locs := hW
            refine lv_aload_n hx hb dX4_advance_98 rfl (lv_at hl 0 rfl) ?_
            refine lv_aload_n hx hb dX4_advance_99 rfl (lv_at hl 0 rfl) ?_
            refine z_get (v := .ref (qd 0)) hx hb hts hiX4_advance_X4 hown hW 0 0 2 rfl rfl rfl (by decide) rfl dX4_advance_100 ?_
            refine z_get (v := .ref (qo 2)) hx hb hts hiX4_advance_X7 hown hW 1 2 6 rfl rfl rfl (by decide) rfl dX4_advance_103 ?_
            refine lv_aload_n hx hb dX4_advance_106 rfl (lv_at hl 0 rfl) ?_
            refine z_get (v := .int (iI (vd 3))) hx hb hts hiX4_advance_X4 hown hW 0 3 1 rfl rfl rfl (by decide) rfl dX4_advance_107 ?_
            refine z_iald (f := ao 2) (i := vd 3) hx hb hW 4 0 rfl rfl (by decide) ⟨by omega, by omega⟩ dX4_advance_110 ?_
            refine z_put hx hb hts hiX4_advance_X4 tyX4 tyX4_ok nmX4 hown hW 0 5 9 rfl rfl (by decide) (Nat.le_of_ble_eq_true rfl) rfl rfl rfl rfl dX4_advance_111 (fun H locs hW => ?_)
            have hW : zW G (tyZ cI cJ cO) A s ((rW cI cJ hd qd (uV (uV (uV vd 4 ((ao 0) (vd 3))) 2 ((ao 1) (vd 3))) 5 ((ao 2) (vd 3))) ad) ++ (sW cI cJ (qd 0) qo vo ao)) H locs := hW
            refine lv_aload_n hx hb dX4_advance_114 rfl (lv_at hl 0 rfl) ?_
            refine lv_dup hx hb dX4_advance_115 rfl ?_
            refine z_get (v := .int (iI (vd 3))) hx hb hts hiX4_advance_X4 hown hW 0 3 1 rfl rfl rfl (by decide) rfl dX4_advance_116 ?_
            refine z_iconst (n := 1) hx hb dX4_advance_119 ?_
            refine z_iadd hx hb dX4_advance_120 ?_
            refine z_put hx hb hts hiX4_advance_X4 tyX4 tyX4_ok nmX4 hown hW 0 3 1 rfl rfl (by decide) (Nat.le_of_ble_eq_true rfl) rfl rfl rfl rfl dX4_advance_121 (fun H locs hW => ?_)
            have hW : zW G (tyZ cI cJ cO) A s ((rW cI cJ hd qd (uV (uV (uV (uV vd 4 ((ao 0) (vd 3))) 2 ((ao 1) (vd 3))) 5 ((ao 2) (vd 3))) 3 ((vd 3) + 1)) ad) ++ (sW cI cJ (qd 0) qo vo ao)) H locs := hW
            exact z_vret hx hb hr hlk hW (⟨(ao 1) (vd 3), (vd 3) + 1, (ao 0) (vd 3), (ao 2) (vd 3)⟩) (show RT _ _ _ _ _ _ _ _ by rw [h0]; exact RT_0 hz9 hK) rfl dX4_advance_124
theorem hiX4_refuse_X4 : ∀ w ∈ wsX40, w ∈ wsX4_refuse := fun _ h => List.mem_cons_of_mem _ (List.mem_append_right _ h)
theorem ziX4_refuse : yX4_refuse.cls = RX4 ∧ yX4_refuse.cls ≠ "java/lang/invoke/MethodHandle" ∧ yX4_refuse.cls ≠ "java/lang/invoke/VarHandle" ∧ (parseMethodDescriptor yX4_refuse.desc).map (fun d => d.parameters.length) = some 1 := by decide +kernel
set_option maxHeartbeats 4000000 in
set_option maxRecDepth 100000 in
theorem c_X4_refuse {l : Launch} {G : va_G} {cI cJ cO : ClassId}  (hd : Nat) (qd : Nat → Nat) (vd : Nat → Int) (ad : Nat → Int → Int) (w : Int)  (h1 : 1 ≤ w ∧ w ≤ 4) : zC l yX4_refuse wsX4_refuse { frames := 0, cells := 0, slots := 0, locals := 0 } G (tyZ cI cJ cO) (S := Unit) [.ref hd, .int (iI w)] (rW cI cJ hd qd vd ad) (zI (fun _ => 0)) (fun _ => True) (fun _ => rW cI cJ hd qd (uV vd 1 w) ad) 0 0 := by
  refine z_start (cc := cX4_refuse) (maxL := 2) (ret := (some .boolean)) (by decide) rfl (Nat.le_of_ble_eq_true rfl) ?_
  intro p e s m below meth c A ls F hr hlk hnm hAe hA hW hl
  have hx := F.1
  have hb := F.2.1
  have hown : s.vm.findClass RX4 = some m.cls := F.2.2.2.1
  have hts := F.2.2.2.2
  have hl : lv_has ls 2 [(0, .ref hd), (1, .int (iI w))] := hl
  refine lv_aload_n hx hb dX4_refuse_0 rfl (lv_at hl 0 rfl) ?_
  refine lv_iload_n hx hb dX4_refuse_1 rfl (lv_at hl 1 rfl) ?_
  refine z_put hx hb hts hiX4_refuse_X4 tyX4 tyX4_ok nmX4 hown hW 0 1 1 rfl rfl (by decide) (Nat.le_of_ble_eq_true rfl) rfl rfl rfl rfl dX4_refuse_2 (fun H locs hW => ?_)
  have hW : zW G (tyZ cI cJ cO) A s (rW cI cJ hd qd (uV vd 1 w) ad) H locs := hW
  refine z_iconst (n := 0) hx hb dX4_refuse_5 ?_
  exact z_zret hx hb hr hlk (by first | exact Or.inl rfl | exact Or.inr rfl | omega) hW () rfl trivial rfl dX4_refuse_6
theorem hiX4_take_X4 : ∀ w ∈ wsX40, w ∈ wsX4_take := fun _ h => List.mem_cons_of_mem _ (List.mem_append_left _ (List.mem_append_right _ h))
theorem hiX4_take_X7 : ∀ w ∈ wsX70, w ∈ wsX4_take := fun _ h => List.mem_cons_of_mem _ (List.mem_append_right _ h)
theorem ziX4_take : yX4_take.cls = RX4 ∧ yX4_take.cls ≠ "java/lang/invoke/MethodHandle" ∧ yX4_take.cls ≠ "java/lang/invoke/VarHandle" ∧ (parseMethodDescriptor yX4_take.desc).map (fun d => d.parameters.length) = some 1 := by decide +kernel
set_option maxHeartbeats 4000000 in
set_option maxRecDepth 100000 in
theorem c_X4_take {l : Launch} {G : va_G} {cI cJ cO : ClassId}  (hd : Nat) (qd : Nat → Nat) (vd : Nat → Int) (ad : Nat → Int → Int) (qo : Nat → Nat) (vo : Nat → Int) (ao : Nat → Int → Int) (w : Int) (T : Int → Int) (z : Int) (y : Int) (hK : TKS T z (ao 0) (ao 1) (ao 2) (vo 3)) (hR : RT T z y (vo 3) (vd 3) (vd 4) (vd 5) (vd 2)) (hw : 2 ≤ w ∧ w ≤ 15) : zC l yX4_take wsX4_take { frames := 1, cells := 0, slots := 0, locals := 21 } G (tyZ cI cJ cO) (S := (Int) × (Int) × Int × Int × Int × Int × Int × Int) [.ref hd, .int (iI w)] ((rW cI cJ hd qd vd ad) ++ (sW cI cJ (qd 0) qo vo ao)) (zI (fun u => bI (u.1 = 0))) (fun u => Ptk T z w y = (u.1, u.2.1) ∧ RT T z u.2.1 (vo 3) u.2.2.2.2.1 u.2.2.2.2.2.1 u.2.2.2.2.2.2.1 u.2.2.2.1 ∧ NF1 u.1 u.2.2.1 ∧ N8 u.1 u.2.2.1 (vd 1)) (fun u => (rW cI cJ hd qd (uV (uV (uV (uV (uV (uV vd 1 u.2.2.1) 2 u.2.2.2.1) 3 u.2.2.2.2.1) 4 u.2.2.2.2.2.1) 5 u.2.2.2.2.2.2.1) 6 u.2.2.2.2.2.2.2) ad) ++ (sW cI cJ (qd 0) qo vo ao)) 0 0 := by
  refine z_start (cc := cX4_take) (maxL := 2) (ret := (some .boolean)) (by decide) rfl (Nat.le_of_ble_eq_true rfl) ?_
  intro p e s m below meth c A ls F hr hlk hnm hAe hA hW hl
  have hx := F.1
  have hb := F.2.1
  have hown : s.vm.findClass RX4 = some m.cls := F.2.2.2.1
  have hts := F.2.2.2.2
  have hl : lv_has ls 2 [(0, .ref hd), (1, .int (iI w))] := hl
  have hk9 := KND_R (T := T) (z := z) (y := y)
  have ek9 := hR.2.2.2.1
  refine lv_aload_n hx hb dX4_take_0 rfl (lv_at hl 0 rfl) ?_
  refine z_get (v := .int (iI (vd 4))) hx hb hts hiX4_take_X4 hown hW 0 4 1 rfl rfl rfl (by decide) rfl dX4_take_1 ?_
  refine lv_iload_n hx hb dX4_take_4 rfl (lv_at hl 1 rfl) ?_
  refine z_icmp_eq (tgt := 14) hx hb dX4_take_5 (by decide) ⟨by omega, by omega⟩ ⟨by omega, by omega⟩ (fun c5 => ?_) (fun c5 => ?_)
  · refine lv_aload_n hx hb dX4_take_14 rfl (lv_at hl 0 rfl) ?_
    refine z_callV (As := []) (rest := []) F (c_X4_advance  hd qd vd ad qo vo ao  T z y hK hR (show 2 ≤ KND T z y by omega)) gX4_take_X4_advance rfl ziX4_advance ⟨rfl, rfl, by decide, by decide⟩ rfl hl.1 rfl (Nat.le_of_ble_eq_true rfl) dX4_take_15 ⟨Nat.zero_le _, Nat.zero_le _⟩ hW hA [0, 1, 2, 3, 4] rfl (by decide) (fun _ => rfl) (fun u => (rW cI cJ hd qd (uV (uV (uV (uV vd 2 u.1) 3 u.2.1) 4 u.2.2.1) 5 u.2.2.2) ad) ++ (sW cI cJ (qd 0) qo vo ao)) (fun _ => rfl) (fun u => []) (fun _ => rfl) 0 rfl rfl rfl (fun u H locs hp15 hW => ?_)
    obtain ⟨b2_1, b3_2, b4_3, b5_4⟩ := u
    have hp15 : RT T z (tkB T z y) ((vo 3)) b3_2 b4_3 b5_4 b2_1 := hp15
    have hW : zW G (tyZ cI cJ cO) A s ((rW cI cJ hd qd (uV (uV (uV (uV vd 2 b2_1) 3 b3_2) 4 b4_3) 5 b5_4) ad) ++ (sW cI cJ (qd 0) qo vo ao)) H locs := hW
    have hR : RT T z (tkB T z y) (vo 3) b3_2 b4_3 b5_4 b2_1 := hp15
    clear hp15
    have hy9 := hR.1
    have hk9 := KND_R (T := T) (z := z) (y := tkB T z y)
    have ek9 := hR.2.2.2.1
    refine z_iconst (n := 1) hx hb dX4_take_18 ?_
    exact z_zret hx hb hr hlk (by first | exact Or.inl rfl | exact Or.inr rfl | omega) hW (⟨0, tkB T z y, vd 1, b2_1, b3_2, b4_3, b5_4, vd 6⟩) (bI_t (show (0 : Int) = 0 from rfl)) (show _ = _ ∧ RT _ _ _ _ _ _ _ _ ∧ NF1 _ _ ∧ N8 _ _ _ from ⟨by unfold Ptk; rw [if_neg (by omega)], hR, (fun q => absurd rfl q), (fun _ => rfl)⟩) rfl dX4_take_19
  · refine lv_aload_n hx hb dX4_take_8 rfl (lv_at hl 0 rfl) ?_
    refine z_iconst (n := 1) hx hb dX4_take_9 ?_
    refine z_callV (As := [.int (iI 1)]) (rest := []) F (c_X4_refuse  hd qd vd ad 1  (show 1 ≤ 1 ∧ 1 ≤ 4 by omega)) gX4_take_X4_refuse rfl ziX4_refuse ⟨rfl, rfl, by decide, by decide⟩ rfl hl.1 rfl (Nat.le_of_ble_eq_true rfl) dX4_take_10 ⟨Nat.zero_le _, Nat.zero_le _⟩ hW hA [0] rfl (by decide) (fun _ => rfl) (fun _ => (rW cI cJ hd qd (uV vd 1 1) ad) ++ (sW cI cJ (qd 0) qo vo ao)) (fun _ => rfl) (fun _ => [.int (iI 0)]) (fun _ => rfl) 0 rfl rfl rfl (fun _ H locs hp10 hW => ?_)
    have hW : zW G (tyZ cI cJ cO) A s ((rW cI cJ hd qd (uV vd 1 1) ad) ++ (sW cI cJ (qd 0) qo vo ao)) H locs := hW
    exact z_zret hx hb hr hlk (by first | exact Or.inl rfl | exact Or.inr rfl | omega) hW (⟨1, y, 1, vd 2, vd 3, vd 4, vd 5, vd 6⟩) (bI_f (show ¬ (1 : Int) = 0 by decide)) (show _ = _ ∧ RT _ _ _ _ _ _ _ _ ∧ NF1 _ _ ∧ N8 _ _ _ from ⟨by unfold Ptk; rw [if_pos (by omega)], hR, (fun _ => rfl), (fun q => absurd (show (1 : Int) = 0 from q) (by decide))⟩) rfl dX4_take_13
theorem hiX4_takeNumber_X4 : ∀ w ∈ wsX40, w ∈ wsX4_takeNumber := fun _ h => List.mem_cons_of_mem _ (List.mem_append_left _ (List.mem_append_right _ h))
theorem hiX4_takeNumber_X7 : ∀ w ∈ wsX70, w ∈ wsX4_takeNumber := fun _ h => List.mem_cons_of_mem _ (List.mem_append_right _ h)
theorem ziX4_takeNumber : yX4_takeNumber.cls = RX4 ∧ yX4_takeNumber.cls ≠ "java/lang/invoke/MethodHandle" ∧ yX4_takeNumber.cls ≠ "java/lang/invoke/VarHandle" ∧ (parseMethodDescriptor yX4_takeNumber.desc).map (fun d => d.parameters.length) = some 2 := by decide +kernel
set_option maxHeartbeats 4000000 in
set_option maxRecDepth 100000 in
theorem c_X4_takeNumber {l : Launch} {G : va_G} {cI cJ cO : ClassId}  (hd : Nat) (qd : Nat → Nat) (vd : Nat → Int) (ad : Nat → Int → Int) (qo : Nat → Nat) (vo : Nat → Int) (ao : Nat → Int → Int) (lo hi : Int) (T : Int → Int) (z : Int) (y : Int) (hK : TKS T z (ao 0) (ao 1) (ao 2) (vo 3)) (hR : RT T z y (vo 3) (vd 3) (vd 4) (vd 5) (vd 2)) (hlo : -2147483648 ≤ lo ∧ lo < 2147483648) (hhi : -2147483648 ≤ hi ∧ hi < 2147483648) : zC l yX4_takeNumber wsX4_takeNumber { frames := 1, cells := 0, slots := 0, locals := 21 } G (tyZ cI cJ cO) (S := (Int) × (Int) × Int × Int × Int × Int × Int × Int) [.ref hd, .int (iI lo), .int (iI hi)] ((rW cI cJ hd qd vd ad) ++ (sW cI cJ (qd 0) qo vo ao)) (zI (fun u => bI (u.1 = 0))) (fun u => Ptn T z lo hi y = (u.1, u.2.1) ∧ RT T z u.2.1 (vo 3) u.2.2.2.2.1 u.2.2.2.2.2.1 u.2.2.2.2.2.2.1 u.2.2.2.1 ∧ NF1 u.1 u.2.2.1 ∧ N8 u.1 u.2.2.1 (vd 1) ∧ N8 u.1 u.2.2.2.2.2.2.2 (tkN T z y)) (fun u => (rW cI cJ hd qd (uV (uV (uV (uV (uV (uV vd 1 u.2.2.1) 2 u.2.2.2.1) 3 u.2.2.2.2.1) 4 u.2.2.2.2.2.1) 5 u.2.2.2.2.2.2.1) 6 u.2.2.2.2.2.2.2) ad) ++ (sW cI cJ (qd 0) qo vo ao)) 0 0 := by
  refine z_start (cc := cX4_takeNumber) (maxL := 3) (ret := (some .boolean)) (by decide) rfl (Nat.le_of_ble_eq_true rfl) ?_
  intro p e s m below meth c A ls F hr hlk hnm hAe hA hW hl
  have hx := F.1
  have hb := F.2.1
  have hown : s.vm.findClass RX4 = some m.cls := F.2.2.2.1
  have hts := F.2.2.2.2
  have hl : lv_has ls 3 [(0, .ref hd), (1, .int (iI lo)), (2, .int (iI hi))] := hl
  have hk9 := KND_R (T := T) (z := z) (y := y)
  have ek9 := hR.2.2.2.1
  refine lv_aload_n hx hb dX4_takeNumber_0 rfl (lv_at hl 0 rfl) ?_
  refine z_get (v := .int (iI (vd 4))) hx hb hts hiX4_takeNumber_X4 hown hW 0 4 1 rfl rfl rfl (by decide) rfl dX4_takeNumber_1 ?_
  refine z_iconst (n := 3) hx hb dX4_takeNumber_4 ?_
  refine z_icmp_eq (tgt := 14) hx hb dX4_takeNumber_5 (by decide) ⟨by omega, by omega⟩ (by decide) (fun c5 => ?_) (fun c5 => ?_)
  · have en9 := hR.2.2.2.2.2 c5
    have hn9 := tkN_R (T := T) (z := z) (y := y) (KND_S.2.2.2.1.mp (by omega))
    refine lv_aload_n hx hb dX4_takeNumber_14 rfl (lv_at hl 0 rfl) ?_
    refine z_get (v := .int (iI (vd 5))) hx hb hts hiX4_takeNumber_X4 hown hW 0 5 2 rfl rfl rfl (by decide) rfl dX4_takeNumber_15 ?_
    refine lv_iload_n hx hb dX4_takeNumber_18 rfl (lv_at hl 1 rfl) ?_
    refine z_icmp_lt (tgt := 30) hx hb dX4_takeNumber_19 (by decide) ⟨by omega, by omega⟩ ⟨by omega, by omega⟩ (fun c19 => ?_) (fun c19 => ?_)
    · refine lv_aload_n hx hb dX4_takeNumber_30 rfl (lv_at hl 0 rfl) ?_
      refine z_iconst (n := 2) hx hb dX4_takeNumber_31 ?_
      refine z_callV (As := [.int (iI 2)]) (rest := []) F (c_X4_refuse  hd qd vd ad 2  (show 1 ≤ 2 ∧ 2 ≤ 4 by omega)) gX4_takeNumber_X4_refuse rfl ziX4_refuse ⟨rfl, rfl, by decide, by decide⟩ rfl hl.1 rfl (Nat.le_of_ble_eq_true rfl) dX4_takeNumber_32 ⟨Nat.zero_le _, Nat.zero_le _⟩ hW hA [0] rfl (by decide) (fun _ => rfl) (fun _ => (rW cI cJ hd qd (uV vd 1 2) ad) ++ (sW cI cJ (qd 0) qo vo ao)) (fun _ => rfl) (fun _ => [.int (iI 0)]) (fun _ => rfl) 0 rfl rfl rfl (fun _ H locs hp32 hW => ?_)
      have hW : zW G (tyZ cI cJ cO) A s ((rW cI cJ hd qd (uV vd 1 2) ad) ++ (sW cI cJ (qd 0) qo vo ao)) H locs := hW
      exact z_zret hx hb hr hlk (by first | exact Or.inl rfl | exact Or.inr rfl | omega) hW (⟨2, y, 2, vd 2, vd 3, vd 4, vd 5, vd 6⟩) (bI_f (show ¬ (2 : Int) = 0 by decide)) (show _ = _ ∧ RT _ _ _ _ _ _ _ _ ∧ NF1 _ _ ∧ N8 _ _ _ ∧ N8 _ _ _ from ⟨by unfold Ptn; rw [if_neg (by omega), if_pos (by omega)], hR, (fun _ => rfl), (fun q => absurd (show (2 : Int) = 0 from q) (by decide)), (fun q => absurd (show (2 : Int) = 0 from q) (by decide))⟩) rfl dX4_takeNumber_35
    · refine lv_aload_n hx hb dX4_takeNumber_22 rfl (lv_at hl 0 rfl) ?_
      refine z_get (v := .int (iI (vd 5))) hx hb hts hiX4_takeNumber_X4 hown hW 0 5 2 rfl rfl rfl (by decide) rfl dX4_takeNumber_23 ?_
      refine lv_iload_n hx hb dX4_takeNumber_26 rfl (lv_at hl 2 rfl) ?_
      refine z_icmp_le (tgt := 36) hx hb dX4_takeNumber_27 (by decide) ⟨by omega, by omega⟩ ⟨by omega, by omega⟩ (fun c27 => ?_) (fun c27 => ?_)
      · refine lv_aload_n hx hb dX4_takeNumber_36 rfl (lv_at hl 0 rfl) ?_
        refine lv_aload_n hx hb dX4_takeNumber_37 rfl (lv_at hl 0 rfl) ?_
        refine z_get (v := .int (iI (vd 5))) hx hb hts hiX4_takeNumber_X4 hown hW 0 5 2 rfl rfl rfl (by decide) rfl dX4_takeNumber_38 ?_
        refine z_put hx hb hts hiX4_takeNumber_X4 tyX4 tyX4_ok nmX4 hown hW 0 6 3 rfl rfl (by decide) (Nat.le_of_ble_eq_true rfl) rfl rfl rfl rfl dX4_takeNumber_41 (fun H locs hW => ?_)
        have hW : zW G (tyZ cI cJ cO) A s ((rW cI cJ hd qd (uV vd 6 (vd 5)) ad) ++ (sW cI cJ (qd 0) qo vo ao)) H locs := hW
        refine lv_aload_n hx hb dX4_takeNumber_44 rfl (lv_at hl 0 rfl) ?_
        refine z_callV (As := []) (rest := []) F (c_X4_advance  hd qd (uV vd 6 (vd 5)) ad qo vo ao  T z y hK hR (show 2 ≤ KND T z y by omega)) gX4_takeNumber_X4_advance rfl ziX4_advance ⟨rfl, rfl, by decide, by decide⟩ rfl hl.1 rfl (Nat.le_of_ble_eq_true rfl) dX4_takeNumber_45 ⟨Nat.zero_le _, Nat.zero_le _⟩ hW hA [0, 1, 2, 3, 4] rfl (by decide) (fun _ => rfl) (fun u => (rW cI cJ hd qd (uV (uV (uV (uV (uV vd 6 (vd 5)) 2 u.1) 3 u.2.1) 4 u.2.2.1) 5 u.2.2.2) ad) ++ (sW cI cJ (qd 0) qo vo ao)) (fun _ => rfl) (fun u => []) (fun _ => rfl) 0 rfl rfl rfl (fun u H locs hp45 hW => ?_)
        obtain ⟨b2_1, b3_2, b4_3, b5_4⟩ := u
        have hp45 : RT T z (tkB T z y) ((vo 3)) b3_2 b4_3 b5_4 b2_1 := hp45
        have hW : zW G (tyZ cI cJ cO) A s ((rW cI cJ hd qd (uV (uV (uV (uV (uV vd 6 (vd 5)) 2 b2_1) 3 b3_2) 4 b4_3) 5 b5_4) ad) ++ (sW cI cJ (qd 0) qo vo ao)) H locs := hW
        have hR : RT T z (tkB T z y) (vo 3) b3_2 b4_3 b5_4 b2_1 := hp45
        clear hp45
        have hy9 := hR.1
        have hk9 := KND_R (T := T) (z := z) (y := tkB T z y)
        have ek9 := hR.2.2.2.1
        refine z_iconst (n := 1) hx hb dX4_takeNumber_48 ?_
        exact z_zret hx hb hr hlk (by first | exact Or.inl rfl | exact Or.inr rfl | omega) hW (⟨0, tkB T z y, vd 1, b2_1, b3_2, b4_3, b5_4, vd 5⟩) (bI_t (show (0 : Int) = 0 from rfl)) (show _ = _ ∧ RT _ _ _ _ _ _ _ _ ∧ NF1 _ _ ∧ N8 _ _ _ ∧ N8 _ _ _ from ⟨by unfold Ptn; rw [if_neg (by omega), if_neg (by omega)], hR, (fun q => absurd rfl q), (fun _ => rfl), (fun _ => en9)⟩) rfl dX4_takeNumber_49
      · refine lv_aload_n hx hb dX4_takeNumber_30 rfl (lv_at hl 0 rfl) ?_
        refine z_iconst (n := 2) hx hb dX4_takeNumber_31 ?_
        refine z_callV (As := [.int (iI 2)]) (rest := []) F (c_X4_refuse  hd qd vd ad 2  (show 1 ≤ 2 ∧ 2 ≤ 4 by omega)) gX4_takeNumber_X4_refuse rfl ziX4_refuse ⟨rfl, rfl, by decide, by decide⟩ rfl hl.1 rfl (Nat.le_of_ble_eq_true rfl) dX4_takeNumber_32 ⟨Nat.zero_le _, Nat.zero_le _⟩ hW hA [0] rfl (by decide) (fun _ => rfl) (fun _ => (rW cI cJ hd qd (uV vd 1 2) ad) ++ (sW cI cJ (qd 0) qo vo ao)) (fun _ => rfl) (fun _ => [.int (iI 0)]) (fun _ => rfl) 0 rfl rfl rfl (fun _ H locs hp32 hW => ?_)
        have hW : zW G (tyZ cI cJ cO) A s ((rW cI cJ hd qd (uV vd 1 2) ad) ++ (sW cI cJ (qd 0) qo vo ao)) H locs := hW
        exact z_zret hx hb hr hlk (by first | exact Or.inl rfl | exact Or.inr rfl | omega) hW (⟨2, y, 2, vd 2, vd 3, vd 4, vd 5, vd 6⟩) (bI_f (show ¬ (2 : Int) = 0 by decide)) (show _ = _ ∧ RT _ _ _ _ _ _ _ _ ∧ NF1 _ _ ∧ N8 _ _ _ ∧ N8 _ _ _ from ⟨by unfold Ptn; rw [if_neg (by omega), if_pos (by omega)], hR, (fun _ => rfl), (fun q => absurd (show (2 : Int) = 0 from q) (by decide)), (fun q => absurd (show (2 : Int) = 0 from q) (by decide))⟩) rfl dX4_takeNumber_35
  · refine lv_aload_n hx hb dX4_takeNumber_8 rfl (lv_at hl 0 rfl) ?_
    refine z_iconst (n := 1) hx hb dX4_takeNumber_9 ?_
    refine z_callV (As := [.int (iI 1)]) (rest := []) F (c_X4_refuse  hd qd vd ad 1  (show 1 ≤ 1 ∧ 1 ≤ 4 by omega)) gX4_takeNumber_X4_refuse rfl ziX4_refuse ⟨rfl, rfl, by decide, by decide⟩ rfl hl.1 rfl (Nat.le_of_ble_eq_true rfl) dX4_takeNumber_10 ⟨Nat.zero_le _, Nat.zero_le _⟩ hW hA [0] rfl (by decide) (fun _ => rfl) (fun _ => (rW cI cJ hd qd (uV vd 1 1) ad) ++ (sW cI cJ (qd 0) qo vo ao)) (fun _ => rfl) (fun _ => [.int (iI 0)]) (fun _ => rfl) 0 rfl rfl rfl (fun _ H locs hp10 hW => ?_)
    have hW : zW G (tyZ cI cJ cO) A s ((rW cI cJ hd qd (uV vd 1 1) ad) ++ (sW cI cJ (qd 0) qo vo ao)) H locs := hW
    exact z_zret hx hb hr hlk (by first | exact Or.inl rfl | exact Or.inr rfl | omega) hW (⟨1, y, 1, vd 2, vd 3, vd 4, vd 5, vd 6⟩) (bI_f (show ¬ (1 : Int) = 0 by decide)) (show _ = _ ∧ RT _ _ _ _ _ _ _ _ ∧ NF1 _ _ ∧ N8 _ _ _ ∧ N8 _ _ _ from ⟨by unfold Ptn; rw [if_pos (by omega)], hR, (fun _ => rfl), (fun q => absurd (show (1 : Int) = 0 from q) (by decide)), (fun q => absurd (show (1 : Int) = 0 from q) (by decide))⟩) rfl dX4_takeNumber_13
