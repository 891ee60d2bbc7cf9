/-! the model: a whole text -/
def Pally (T : Int → Int) (z y : Int) (N : Int → Int) : PR := if KND T z y ≠ 5 then (1, y, N) else bnd (Pnum T z 1 0 500 (tkB T z y) N) fun y1 N1 => bnd (Pend T z y1 N1) fun y2 N2 => bnd (Pixs T z 21 y2 N2) fun y3 N3 => bnd (Plss T z 7 y3 N3) fun y4 N4 => Pfin T z y4 N4
def R0 (ff : Int) (N : Int → Int) : Prop := ff = 0 → ∃ i : Int, RD N i
theorem RD_rate {N M : Int → Int} {i r : Int} (h : RD N i) (hr : 0 ≤ r ∧ r ≤ 500) (hM : M = uI N 1 r) : RD M i ∧ M 2 = N 2 := by
  obtain ⟨r0, r1, r2, r3, r4, r5, r6⟩ := h
  have e : ∀ j : Int, j ≠ 1 → M j = N j := fun j hj => by rw [hM, uI_n hj]
  have e1 : M 1 = r := by rw [hM, uI_s]
  refine ⟨⟨by rw [e 0 (by omega)]; exact r0, by omega, by rw [e 2 (by omega)]; exact r2, ?_, ⟨?_, r4.2⟩, ?_, ?_⟩, e 2 (by omega)⟩
  · intro q q0 q1
    rw [e (3 + q) (by omega), e (243 + q) (by omega)]
    exact r3 q q0 q1
  · rw [CNTV_ag (N := N) (fun j j0 j1 => e j (by omega)) 240 (by decide)]
    exact r4.1
  · intro x x0 x1
    rw [e 2 (by omega)] at x1
    exact LQ_ag (fun w w0 w1 => e _ (by omega)) (r5 x x0 x1)
  · rw [e 2 (by omega)]
    intro j j0 j1
    rw [e j (by omega)]
    exact r6 j j0 j1
theorem Pixs_l {T : Int → Int} {z i y : Int} {N : Int → Int} (h : KND T z y = 6) (hi : 0 ≤ i ∧ i ≤ 20) : Pixs T z (21 - i).toNat y N = bnd (Pixl T z i y N) (Pixs T z (21 - (i + 1)).toNat) := by
  rw [show (21 - i).toNat = (21 - (i + 1)).toNat + 1 by omega]
  show (if KND T z y ≠ 6 then (0, y, N) else if (21 - (i + 1)).toNat = 0 then (3, y, N) else bnd (Pix T z (tkB T z y) N) (Pixs T z (21 - (i + 1)).toNat)) = _
  rw [if_neg (fun q => q h)]
  unfold Pixl
  by_cases q : i = 20
  · rw [if_pos (by omega), if_pos q, bnd_1 (by decide)]
  · rw [if_neg (by omega), if_neg q]
theorem Pixs_e {T : Int → Int} {z i y : Int} {N : Int → Int} (h : ¬ KND T z y = 6) (hi : 0 ≤ i ∧ i ≤ 20) : Pixs T z (21 - i).toNat y N = (0, y, N) := by
  rw [show (21 - i).toNat = (21 - (i + 1)).toNat + 1 by omega]
  exact if_pos h
theorem RD_Pixl {T : Int → Int} {z i y f y1 : Int} {N N1 : Int → Int} (hR : RD N i) (h2 : N 2 = 0) (h : Pixl T z i y N = (f, y1, N1)) (hf : f = 0) : RD N1 (i + 1) ∧ N1 2 = 0 := by
  unfold Pixl at h
  split at h
  · have := congrArg Prod.fst h; exact absurd (show (3 : Int) = f from this) (by omega)
  · next q =>
    obtain ⟨m, v, k, hm, hv, hk, h0, e⟩ := Pix_0 h hf
    have hi := hR.2.2.2.2.1
    rw [e]
    exact ⟨RD_ix hR (by omega) hm hv hk h0, by rw [uI_n (by omega), uI_n (by omega)]; exact h2⟩
theorem Plss_l {T : Int → Int} {z y : Int} {N : Int → Int} (h : KND T z y = 7) (hi : 0 ≤ N 2 ∧ N 2 ≤ 6) : Plss T z (7 - N 2).toNat y N = bnd (Plel T z y N) fun y1 N1 => bnd (Pprts T z (N1 2 - 1) 6 y1 N1) (Plss T z (7 - (N 2 + 1)).toNat) := by
  rw [show (7 - N 2).toNat = (7 - (N 2 + 1)).toNat + 1 by omega]
  show (if KND T z y ≠ 7 then (0, y, N) else if (7 - (N 2 + 1)).toNat = 0 then (3, y, N) else bnd (Ple T z (N 2) (tkB T z y) N) fun y1 N1 => bnd (Pprts T z (N1 2 - 1) 6 y1 N1) (Plss T z (7 - (N 2 + 1)).toNat)) = _
  rw [if_neg (fun q => q h)]
  unfold Plel
  by_cases q : N 2 = 6
  · rw [if_pos (by omega), if_pos q, bnd_1 (by decide)]
  · rw [if_neg (by omega), if_neg q]
theorem Plss_e {T : Int → Int} {z y : Int} {N : Int → Int} (h : ¬ KND T z y = 7) (hi : 0 ≤ N 2 ∧ N 2 ≤ 6) : Plss T z (7 - N 2).toNat y N = (0, y, N) := by
  rw [show (7 - N 2).toNat = (7 - (N 2 + 1)).toNat + 1 by omega]
  exact if_pos h
theorem RD_Plel {T : Int → Int} {z i y f y1 : Int} {N N1 : Int → Int} (hR : RD N i) (h : Plel T z y N = (f, y1, N1)) (hf : f = 0) : RD N1 i ∧ N1 2 = N 2 + 1 ∧ N 2 ≤ 5 ∧ LF N1 (N 2) 7 = 0 := by
  unfold Plel at h
  have r2 := hR.2.2.1
  split at h
  · have := congrArg Prod.fst h; exact absurd (show (3 : Int) = f from this) (by omega)
  · next q =>
    obtain ⟨b, t, r, c, g, hb, ht, hr, hc, hg, e⟩ := Ple_0 r2.1 h hf
    have k := RD_le hR (by omega) hb ht hr hc hg
    rw [← e] at k
    refine ⟨k, by rw [e, uI_s], by omega, ?_⟩
    rw [e, LF2 (by omega) (by decide), LFu, LFu, LFu, LFu, LFu]
    exact hR.2.2.2.2.2.2 _ (by omega) (by omega)
theorem PC_R (w : Int) : 0 ≤ PC w ∧ PC w ≤ 5 := by
  unfold PC bI
  repeat' split
  all_goals omega
theorem Pprts_l {T : Int → Int} {z x y : Int} {n : Nat} {N : Int → Int} (h : PB (KND T z y) ≠ 0) : Pprts T z x (n + 1) y N = bnd (Ppart T z x y N) (Pprts T z x n) := if_neg h
theorem Pprts_e {T : Int → Int} {z x y : Int} {n : Nat} {N : Int → Int} (h : PB (KND T z y) = 0) : Pprts T z x (n + 1) y N = (0, y, N) := if_pos h
theorem Pprts_L {T : Int → Int} {z x y p : Int} {N : Int → Int} (hp : 0 ≤ p ∧ p ≤ 5) (h : PB (KND T z y) ≠ 0) : Pprts T z x (6 - p).toNat y N = bnd (Ppart T z x y N) (Pprts T z x (6 - (p + 1)).toNat) := by
  rw [show (6 - p).toNat = (6 - (p + 1)).toNat + 1 by omega]
  exact if_neg h
theorem Pprts_E {T : Int → Int} {z x y p : Int} {N : Int → Int} (hp : 0 ≤ p ∧ p ≤ 5) (h : PB (KND T z y) = 0) : Pprts T z x (6 - p).toNat y N = (0, y, N) := by
  rw [show (6 - p).toNat = (6 - (p + 1)).toNat + 1 by omega]
  exact if_pos h
theorem tnl {x y : Int} (h : y = x + 1) (hx : x ≤ 6) : (7 - y).toNat < (7 - x).toNat := by omega
theorem tnp {x y : Int} (h : y = x + 1) (hx : x ≤ 4) : (6 - y).toNat < (6 - x).toNat := by omega
theorem tni {x y : Int} (h : y = x + 1) (hx : x ≤ 20) : (21 - y).toNat < (21 - x).toNat := by omega
theorem PB_R (k : Int) : 0 ≤ PB k ∧ (PB k ≠ 0 → PB k = 1 ∨ PB k = 2 ∨ PB k = 4 ∨ PB k = 8 ∨ PB k = 16) := by
  have := PBc k
  omega
theorem PB_L (k : Int) : 0 ≤ PB k ∧ PB k ≤ 16 := by
  have := PBc k
  omega
theorem RD_Ppart {T : Int → Int} {z i y f y1 : Int} {N N1 : Int → Int} (hR : RD N i) (h2 : 1 ≤ N 2) (hp : PB (KND T z y) ≠ 0) (h : Ppart T z (N 2 - 1) y N = (f, y1, N1)) (hf : f = 0) : RD N1 i ∧ N1 2 = N 2 ∧ PC (LF N1 (N 2 - 1) 7) = PC (LF N (N 2 - 1) 7) + 1 ∧ PC (LF N (N 2 - 1) 7) ≤ 4 := by
  obtain ⟨hz, hP⟩ := Ppart_0 hp h hf
  obtain ⟨a1, a2, a3, -⟩ := RD_part hR ⟨rfl, by omega⟩ hz hP
  have f7 := (hR.2.2.2.2.2.1 (N 2 - 1) (by omega) (by omega)).1.2.2.2.2.2.2.2.1
  have B := zbI f7 ((PB_R (KND T z y)).2 hp) hz
  exact ⟨a1, a2, by rw [a3]; exact B.2.1, B.2.2⟩
theorem hiX11_readWhole_X11 : ∀ w ∈ wsX110, w ∈ wsX11_readWhole := fun _ h => List.mem_cons_of_mem _ (List.mem_append_right _ h)
theorem ziX11_readWhole : yX11_readWhole.cls = RX11 ∧ yX11_readWhole.cls ≠ "java/lang/invoke/MethodHandle" ∧ yX11_readWhole.cls ≠ "java/lang/invoke/VarHandle" ∧ (parseMethodDescriptor yX11_readWhole.desc).map (fun d => d.parameters.length) = some 0 := by decide +kernel
set_option maxHeartbeats 4000000 in
set_option maxRecDepth 100000 in
theorem c_readWhole {l : Launch} {G : va_G} {cI cJ cO : ClassId} (h : Nat) (q : Nat → Nat) (v : Nat → Int) (a : Nat → Int → Int)  (y : Int) (h3 : 0 ≤ v 3 ∧ v 3 ≤ 640) (hT : ∀ j : Int, 0 ≤ j → j < 640 → 0 ≤ a 1 j ∧ a 1 j ≤ 255) (hM : MT (a 1) (v 3) y (v 4) (v 5) (v 6) (v 7) (v 10)) (h15 : v 15 = 0) (hN : RD (a 12) (v 15)) (h20 : a 12 2 = 0) : zC l yX11_readWhole wsX11_readWhole { frames := 6, cells := 0, slots := 0, locals := 132 } G (tyZ cI cJ cO) (S := (Int) × (Int) × (Int → Int) × Int × Int × Int × Int × Int × Int × Int × Int) [.ref h] (mW cI cJ h q v a) (zI (fun u => bI (u.1 = 0))) (fun u => Pally (a 1) (v 3) y (a 12) = (u.1, u.2.1, u.2.2.1) ∧ MT (a 1) (v 3) u.2.1 u.2.2.2.1 u.2.2.2.2.1 u.2.2.2.2.2.1 u.2.2.2.2.2.2.1 u.2.2.2.2.2.2.2.1 ∧ NF u.1 u.2.2.2.2.2.2.2.2.1 u.2.2.2.2.2.2.2.2.2.1 (tkP (a 1) (v 3) u.2.1) ∧ N8 u.1 u.2.2.2.2.2.2.2.2.1 (v 8) ∧ R0 u.1 u.2.2.1) (fun u => mW cI cJ h q (uV (uV (uV (uV (uV (uV (uV (uV v 4 u.2.2.2.1) 5 u.2.2.2.2.1) 6 u.2.2.2.2.2.1) 7 u.2.2.2.2.2.2.1) 10 u.2.2.2.2.2.2.2.1) 8 u.2.2.2.2.2.2.2.2.1) 9 u.2.2.2.2.2.2.2.2.2.1) 15 u.2.2.2.2.2.2.2.2.2.2) (uA a 12 u.2.2.1)) 0 0 := by
  refine z_start (cc := cX11_readWhole) (maxL := 1) (ret := (some .boolean)) (by decide) rfl (Nat.le_of_ble_eq_true rfl) ?_
  intro p e s m below meth c A ls F hr hlk hnm hAe hA hW hl
  have hx := F.1
  have hb := F.2.1
  have hown : s.vm.findClass RX11 = some m.cls := F.2.2.2.1
  have hts := F.2.2.2.2
  have hl : lv_has ls 1 [(0, .ref h)] := hl
  have hR := MT_Rw hM (by omega) hT
  have hM0 := hM
  refine lv_aload_n hx hb dX11_readWhole_0 rfl (lv_at hl 0 rfl) ?_
  refine z_bipush hx hb dX11_readWhole_1 (by decide +kernel) ?_
  refine z_bipush hx hb dX11_readWhole_3 (by decide +kernel) ?_
  refine z_bipush hx hb dX11_readWhole_5 (by decide +kernel) ?_
  refine z_bipush hx hb dX11_readWhole_7 (by decide +kernel) ?_
  refine z_callS (As := [.int (iI 114), .int (iI 97), .int (iI 116), .int (iI 101)]) (rest := [.ref h]) F (c_four 114 97 116 101  (show 0 ≤ 114 ∧ 114 ≤ 255 by omega) (show 0 ≤ 97 ∧ 97 ≤ 255 by omega) (show 0 ≤ 116 ∧ 116 ≤ 255 by omega) (show 0 ≤ 101 ∧ 101 ≤ 255 by omega)) gX11_readWhole_X11_four rfl ziX11_four ⟨rfl, rfl, by decide, by decide⟩ rfl hl.1 rfl (Nat.le_of_ble_eq_true rfl) dX11_readWhole_9 ⟨Nat.zero_le _, Nat.zero_le _⟩ hW hA [] rfl (by decide) (fun _ => rfl) (fun _ => mW cI cJ h q v a) (fun _ => rfl) (fun _ => [.long (lI (729 * (27 * (114 - 96) + 97 - 96) + (27 * (116 - 96) + 101 - 96))), .ref h]) (fun _ => rfl) (fun _ H locs hp9 hW => ?_)
  refine z_callV (As := [.long (lI (729 * (27 * (114 - 96) + 97 - 96) + (27 * (116 - 96) + 101 - 96)))]) (rest := []) F (c_isWordw h q v a (729 * (27 * (114 - 96) + 97 - 96) + (27 * (116 - 96) + 101 - 96))  (show -9223372036854775808 ≤ (729 * (27 * (114 - 96) + 97 - 96) + (27 * (116 - 96) + 101 - 96)) ∧ (729 * (27 * (114 - 96) + 97 - 96) + (27 * (116 - 96) + 101 - 96)) < 9223372036854775808 by omega) (show 0 ≤ (v 6) ∧ (v 6) ≤ 4 by omega) hR.2.2) gX11_readWhole_X11_isWord rfl ziX11_isWord ⟨rfl, rfl, by decide, by decide⟩ rfl hl.1 rfl (Nat.le_of_ble_eq_true rfl) dX11_readWhole_12 ⟨Nat.zero_le _, Nat.zero_le _⟩ hW hA [0, 1, 2, 3, 4, 5, 6, 7, 8, 9, 10] rfl (by decide) (fun _ => rfl) (fun _ => mW cI cJ h q v a) (fun _ => rfl) (fun _ => [.int (iI (bI ((v 6) = 2 ∧ (v 10) = (729 * (27 * (114 - 96) + 97 - 96) + (27 * (116 - 96) + 101 - 96)))))]) (fun _ => rfl) 0 rfl rfl rfl (fun _ H locs hp12 hW => ?_)
  refine z_b_ne (tgt := 24) hx hb dX11_readWhole_15 (by decide) (fun c15 => ?_) (fun c15 => ?_)
  · have hk5 := ((KND_5 (T := a 1) (z := v 3) (y := y)).mpr ⟨by have := hM.2.2.2.1; omega, by have := hM.2.2.2.2.1 (by omega); omega⟩)
    refine lv_aload_n hx hb dX11_readWhole_24 rfl (lv_at hl 0 rfl) ?_
    refine z_callV (As := []) (rest := []) F (c_go h q v a   (show 0 ≤ (v 3) ∧ (v 3) ≤ 640 by omega) (show 0 ≤ (v 4) ∧ (v 4) ≤ (v 3) by omega) hT) gX11_readWhole_X11_go rfl ziX11_go ⟨rfl, rfl, by decide, by decide⟩ rfl hl.1 rfl (Nat.le_of_ble_eq_true rfl) dX11_readWhole_25 ⟨Nat.zero_le _, Nat.zero_le _⟩ hW hA [0, 1, 2, 3, 4, 5, 6, 7, 8, 9, 10] rfl (by decide) (fun _ => rfl) (fun u => mW cI cJ h q (uV (uV (uV (uV (uV v 4 u.1) 5 u.2.1) 6 u.2.2.1) 7 u.2.2.2.1) 10 u.2.2.2.2) a) (fun _ => rfl) (fun u => []) (fun _ => rfl) 0 rfl rfl rfl (fun u H locs hp25 hW => ?_)
    obtain ⟨b4_1, b5_2, b6_3, b7_4, b10_5⟩ := u
    have hp25 : b4_1 = tkB ((a 1)) ((v 3)) ((v 4)) ∧ b5_2 = tkP ((a 1)) ((v 3)) ((v 4)) ∧ b6_3 = tkS ((a 1)) ((v 3)) ((v 4)) ∧ (b6_3 = 2 → b10_5 = tkW ((a 1)) ((v 3)) ((v 4))) ∧ (b6_3 = 3 → b7_4 = tkN ((a 1)) ((v 3)) ((v 4))) := hp25
    have hW : zW G (tyZ cI cJ cO) A s (mW cI cJ h q (uV (uV (uV (uV (uV v 4 b4_1) 5 b5_2) 6 b6_3) 7 b7_4) 10 b10_5) a) H locs := hW
    have hM : MT (a 1) (v 3) (tkB (a 1) (v 3) y) b4_1 b5_2 b6_3 b7_4 b10_5 := MT_go hM hp25
    clear hR hp25
    have hR := MT_Rw hM (by omega) hT
    refine lv_aload_n hx hb dX11_readWhole_28 rfl (lv_at hl 0 rfl) ?_
    refine z_iconst (n := 1) hx hb dX11_readWhole_29 ?_
    refine z_iconst (n := 0) hx hb dX11_readWhole_30 ?_
    refine z_sipush hx hb dX11_readWhole_31 (by decide +kernel) ?_
    refine z_callV (As := [.int (iI 1), .int (iI 0), .int (iI 500)]) (rest := []) F (c_told h q (uV (uV (uV (uV (uV v 4 b4_1) 5 b5_2) 6 b6_3) 7 b7_4) 10 b10_5) a 1 0 500 (tkB (a 1) (v 3) y) (show 0 ≤ (v 3) ∧ (v 3) ≤ 640 by omega) hT hM (show 0 ≤ 1 ∧ 1 < 3483 by omega) (show -2147483648 ≤ 0 ∧ 0 < 2147483648 by omega) (show -2147483648 ≤ 500 ∧ 500 < 2147483648 by omega)) gX11_readWhole_X11_told rfl ziX11_told ⟨rfl, rfl, by decide, by decide⟩ rfl hl.1 rfl (Nat.le_of_ble_eq_true rfl) dX11_readWhole_34 ⟨Nat.zero_le _, Nat.zero_le _⟩ hW hA [0, 1, 2, 3, 4, 5, 6, 7, 8, 9, 10] rfl (by decide) (fun _ => rfl) (fun u => mW cI cJ h q (uV (uV (uV (uV (uV (uV (uV v 4 u.2.2.2.1) 5 u.2.2.2.2.1) 6 u.2.2.2.2.2.1) 7 u.2.2.2.2.2.2.1) 10 u.2.2.2.2.2.2.2.1) 8 u.2.2.2.2.2.2.2.2.1) 9 u.2.2.2.2.2.2.2.2.2) (uA a 12 u.2.2.1)) (fun _ => rfl) (fun u => [.int (iI (bI (u.1 = 0)))]) (fun _ => rfl) 0 rfl rfl rfl (fun u H locs hp34 hW => ?_)
    obtain ⟨ff_6, yy_7, b12_8, b4_9, b5_10, b6_11, b7_12, b10_13, b8_14, b9_15⟩ := u
    have hp34 : Pnum ((a 1)) ((v 3)) 1 0 500 (tkB (a 1) (v 3) y) ((a 12)) = (ff_6, yy_7, b12_8) ∧ MT ((a 1)) ((v 3)) yy_7 b4_9 b5_10 b6_11 b7_12 b10_13 ∧ NF ff_6 b8_14 b9_15 (tkP ((a 1)) ((v 3)) yy_7) ∧ N8 ff_6 b8_14 ((v 8)) := hp34
    have hW : zW G (tyZ cI cJ cO) A s (mW cI cJ h q (uV (uV (uV (uV (uV (uV (uV v 4 b4_9) 5 b5_10) 6 b6_11) 7 b7_12) 10 b10_13) 8 b8_14) 9 b9_15) (uA a 12 b12_8)) H locs := hW
    have hM : MT (a 1) (v 3) yy_7 b4_9 b5_10 b6_11 b7_12 b10_13 := hp34.2.1
    clear hR
    have hR := MT_Rw hM (by omega) hT
    refine z_b_eq (tgt := 47) hx hb dX11_readWhole_37 (by decide) (fun c37 => ?_) (fun c37 => ?_)
    · refine z_iconst (n := 0) hx hb dX11_readWhole_47 ?_
      exact z_zret hx hb hr hlk (by first | exact Or.inl rfl | exact Or.inr rfl | omega) hW (⟨ff_6, yy_7, b12_8, b4_9, b5_10, b6_11, b7_12, b10_13, b8_14, b9_15, v 15⟩) (bI_f c37) (show _ = _ ∧ MT _ _ _ _ _ _ _ _ ∧ NF _ _ _ _ ∧ N8 _ _ _ ∧ R0 _ _ from ⟨by unfold Pally; rw [if_neg (fun q9 => q9 hk5), hp34.1, bnd_1 c37], hM, hp34.2.2.1, (fun q => absurd q c37), (fun q => absurd q c37)⟩) rfl dX11_readWhole_48
    · refine lv_aload_n hx hb dX11_readWhole_40 rfl (lv_at hl 0 rfl) ?_
      refine z_callV (As := []) (rest := []) F (c_readEnd h q (uV (uV (uV (uV (uV (uV (uV v 4 b4_9) 5 b5_10) 6 b6_11) 7 b7_12) 10 b10_13) 8 b8_14) 9 b9_15) (uA a 12 b12_8)  yy_7 (show 0 ≤ (v 3) ∧ (v 3) ≤ 640 by omega) hT hM) gX11_readWhole_X11_readEnd rfl ziX11_readEnd ⟨rfl, rfl, by decide, by decide⟩ rfl hl.1 rfl (Nat.le_of_ble_eq_true rfl) dX11_readWhole_41 ⟨Nat.zero_le _, Nat.zero_le _⟩ hW hA [0, 1, 2, 3, 4, 5, 6, 7, 8, 9, 10] rfl (by decide) (fun _ => rfl) (fun u => mW cI cJ h q (uV (uV (uV (uV (uV (uV (uV v 4 u.2.2.2.1) 5 u.2.2.2.2.1) 6 u.2.2.2.2.2.1) 7 u.2.2.2.2.2.2.1) 10 u.2.2.2.2.2.2.2.1) 8 u.2.2.2.2.2.2.2.2.1) 9 u.2.2.2.2.2.2.2.2.2) (uA a 12 u.2.2.1)) (fun _ => rfl) (fun u => [.int (iI (bI (u.1 = 0)))]) (fun _ => rfl) 0 rfl rfl rfl (fun u H locs hp41 hW => ?_)
      obtain ⟨ff_16, yy_17, b12_18, b4_19, b5_20, b6_21, b7_22, b10_23, b8_24, b9_25⟩ := u
      have hp41 : Pend ((a 1)) ((v 3)) yy_7 (b12_8) = (ff_16, yy_17, b12_18) ∧ MT ((a 1)) ((v 3)) yy_17 b4_19 b5_20 b6_21 b7_22 b10_23 ∧ NF ff_16 b8_24 b9_25 (tkP ((a 1)) ((v 3)) yy_17) ∧ N8 ff_16 b8_24 (b8_14) := hp41
      have hW : zW G (tyZ cI cJ cO) A s (mW cI cJ h q (uV (uV (uV (uV (uV (uV (uV v 4 b4_19) 5 b5_20) 6 b6_21) 7 b7_22) 10 b10_23) 8 b8_24) 9 b9_25) (uA a 12 b12_18)) H locs := hW
      have hM : MT (a 1) (v 3) yy_17 b4_19 b5_20 b6_21 b7_22 b10_23 := hp41.2.1
      clear hR
      have hR := MT_Rw hM (by omega) hT
      refine z_b_ne (tgt := 49) hx hb dX11_readWhole_44 (by decide) (fun c44 => ?_) (fun c44 => ?_)
      · have e34 := Pnum_0 hp34.1 c37
        have e41 := Pend_0 hp41.1 c44
        have hRD := RD_rate (M := b12_18) hN e34.2.1 (by rw [e41.2.2, e34.2.2.2])
        refine z_loop10 (fun (yi : Int) (Ni : Int → Int) (b4i : Int) (b5i : Int) (b6i : Int) (b7i : Int) (b10i : Int) (b8i : Int) (b9i : Int) (b15i : Int) (ls : Array Slot) (H : Heap) (locs : List Loc) => (RD Ni b15i ∧ Ni 2 = 0) ∧ (b8i = v 8) ∧ (MT (a 1) (v 3) yi b4i b5i b6i b7i b10i) ∧ (Pixs (a 1) (v 3) (21 - b15i).toNat yi Ni = Pixs (a 1) (v 3) 21 yy_17 b12_18) ∧ zW G (tyZ cI cJ cO) A s (mW cI cJ h q (uV (uV (uV (uV (uV (uV (uV (uV v 4 b4i) 5 b5i) 6 b6i) 7 b7i) 10 b10i) 8 b8i) 9 b9i) 15 b15i) (uA a 12 Ni)) H locs ∧ lv_has ls 1 [(0, .ref h)]) (fun yi Ni b4i b5i b6i b7i b10i b8i b9i b15i => (21 - b15i).toNat) ?_ yy_17 b12_18 b4_19 b5_20 b6_21 b7_22 b10_23 b8_24 b9_25 (v 15) _ _ _ ⟨⟨hRD.1, by rw [hRD.2]; exact h20⟩, ((hp41.2.2.2 c44).trans (hp34.2.2.2 c37)), hM, (by rw [h15]; rfl), hW, (lv_sub hl [0] rfl)⟩
        intro yi Ni b4i b5i b6i b7i b10i b8i b9i b15i ls H locs hI ih
        obtain ⟨i1, i2, hM, i3, hW, hl⟩ := hI
        clear hR
        have hR := MT_Rw hM (by omega) hT
        have hi15 := i1.1.2.2.2.2.1
        have hV := i1.1.2.2.2.1
        refine lv_aload_n hx hb dX11_readWhole_49 rfl (lv_at hl 0 rfl) ?_
        refine z_callV (As := []) (rest := []) F (c_isIndexWordw h q (uV (uV (uV (uV (uV (uV (uV (uV v 4 b4i) 5 b5i) 6 b6i) 7 b7i) 10 b10i) 8 b8i) 9 b9i) 15 b15i) (uA a 12 Ni)   (show 0 ≤ b6i ∧ b6i ≤ 4 by omega) hR.2.2) gX11_readWhole_X11_isIndexWord rfl ziX11_isIndexWord ⟨rfl, rfl, by decide, by decide⟩ rfl hl.1 rfl (Nat.le_of_ble_eq_true rfl) dX11_readWhole_50 ⟨Nat.zero_le _, Nat.zero_le _⟩ hW hA [0, 1, 2, 3, 4, 5, 6, 7, 8, 9, 10] rfl (by decide) (fun _ => rfl) (fun _ => mW cI cJ h q (uV (uV (uV (uV (uV (uV (uV (uV v 4 b4i) 5 b5i) 6 b6i) 7 b7i) 10 b10i) 8 b8i) 9 b9i) 15 b15i) (uA a 12 Ni)) (fun _ => rfl) (fun _ => [.int (iI (bI (b6i = 2 ∧ b10i = 5061606)))]) (fun _ => rfl) 0 rfl rfl rfl (fun _ H locs hp50 hW => ?_)
        refine z_b_eq (tgt := 65) hx hb dX11_readWhole_53 (by decide) (fun c53 => ?_) (fun c53 => ?_)
        · have hx6 := (fun (k9 : KND (a 1) (v 3) yi = 6) => c53 (by have t9 := KND_6.mp k9; have := hM.2.2.2.1; have := hM.2.2.2.2.1; omega))
          rw [Pixs_e hx6 hi15.2] at i3
          refine z_loop9 (fun (yl : Int) (Nl : Int → Int) (b4l : Int) (b5l : Int) (b6l : Int) (b7l : Int) (b10l : Int) (b8l : Int) (b9l : Int) (ls : Array Slot) (H : Heap) (locs : List Loc) => (RD Nl b15i) ∧ (b8l = v 8) ∧ (MT (a 1) (v 3) yl b4l b5l b6l b7l b10l) ∧ (Plss (a 1) (v 3) (7 - Nl 2).toNat yl Nl = Plss (a 1) (v 3) 7 yi Ni) ∧ zW G (tyZ cI cJ cO) A s (mW cI cJ h q (uV (uV (uV (uV (uV (uV (uV (uV v 15 b15i) 4 b4l) 5 b5l) 6 b6l) 7 b7l) 10 b10l) 8 b8l) 9 b9l) (uA a 12 Nl)) H locs ∧ lv_has ls 1 [(0, .ref h)]) (fun yl Nl b4l b5l b6l b7l b10l b8l b9l => (7 - Nl 2).toNat) ?_ yi Ni b4i b5i b6i b7i b10i b8i b9i _ _ _ ⟨i1.1, i2, hM, (by rw [i1.2]; rfl), hW, (lv_sub hl [0] rfl)⟩
          intro yl Nl b4l b5l b6l b7l b10l b8l b9l ls H locs hI ih65
          obtain ⟨j1, j2, hM, j3, hW, hl⟩ := hI
          clear hR
          have hR := MT_Rw hM (by omega) hT
          have hj2 := j1.2.2.1
          refine lv_aload_n hx hb dX11_readWhole_65 rfl (lv_at hl 0 rfl) ?_
          refine z_bipush hx hb dX11_readWhole_66 (by decide +kernel) ?_
          refine z_bipush hx hb dX11_readWhole_68 (by decide +kernel) ?_
          refine z_bipush hx hb dX11_readWhole_70 (by decide +kernel) ?_
          refine z_bipush hx hb dX11_readWhole_72 (by decide +kernel) ?_
          refine z_bipush hx hb dX11_readWhole_74 (by decide +kernel) ?_
          refine z_callS (As := [.int (iI 108), .int (iI 101), .int (iI 97), .int (iI 115), .int (iI 101)]) (rest := [.ref h]) F (c_five 108 101 97 115 101  (show 0 ≤ 108 ∧ 108 ≤ 255 by omega) (show 0 ≤ 101 ∧ 101 ≤ 255 by omega) (show 0 ≤ 97 ∧ 97 ≤ 255 by omega) (show 0 ≤ 115 ∧ 115 ≤ 255 by omega) (show 0 ≤ 101 ∧ 101 ≤ 255 by omega)) gX11_readWhole_X11_five rfl ziX11_five ⟨rfl, rfl, by decide, by decide⟩ rfl hl.1 rfl (Nat.le_of_ble_eq_true rfl) dX11_readWhole_76 ⟨Nat.zero_le _, Nat.zero_le _⟩ hW hA [] rfl (by decide) (fun _ => rfl) (fun _ => mW cI cJ h q (uV (uV (uV (uV (uV (uV (uV (uV v 15 b15i) 4 b4l) 5 b5l) 6 b6l) 7 b7l) 10 b10l) 8 b8l) 9 b9l) (uA a 12 Nl)) (fun _ => rfl) (fun _ => [.long (lI (27 * (729 * (27 * (108 - 96) + 101 - 96) + (27 * (97 - 96) + 115 - 96)) + 101 - 96)), .ref h]) (fun _ => rfl) (fun _ H locs hp76 hW => ?_)
          refine z_callV (As := [.long (lI (27 * (729 * (27 * (108 - 96) + 101 - 96) + (27 * (97 - 96) + 115 - 96)) + 101 - 96))]) (rest := []) F (c_isWordw h q (uV (uV (uV (uV (uV (uV (uV (uV v 15 b15i) 4 b4l) 5 b5l) 6 b6l) 7 b7l) 10 b10l) 8 b8l) 9 b9l) (uA a 12 Nl) (27 * (729 * (27 * (108 - 96) + 101 - 96) + (27 * (97 - 96) + 115 - 96)) + 101 - 96)  (show -9223372036854775808 ≤ (27 * (729 * (27 * (108 - 96) + 101 - 96) + (27 * (97 - 96) + 115 - 96)) + 101 - 96) ∧ (27 * (729 * (27 * (108 - 96) + 101 - 96) + (27 * (97 - 96) + 115 - 96)) + 101 - 96) < 9223372036854775808 by omega) (show 0 ≤ b6l ∧ b6l ≤ 4 by omega) hR.2.2) gX11_readWhole_X11_isWord rfl ziX11_isWord ⟨rfl, rfl, by decide, by decide⟩ rfl hl.1 rfl (Nat.le_of_ble_eq_true rfl) dX11_readWhole_79 ⟨Nat.zero_le _, Nat.zero_le _⟩ hW hA [0, 1, 2, 3, 4, 5, 6, 7, 8, 9, 10] rfl (by decide) (fun _ => rfl) (fun _ => mW cI cJ h q (uV (uV (uV (uV (uV (uV (uV (uV v 15 b15i) 4 b4l) 5 b5l) 6 b6l) 7 b7l) 10 b10l) 8 b8l) 9 b9l) (uA a 12 Nl)) (fun _ => rfl) (fun _ => [.int (iI (bI (b6l = 2 ∧ b10l = (27 * (729 * (27 * (108 - 96) + 101 - 96) + (27 * (97 - 96) + 115 - 96)) + 101 - 96))))]) (fun _ => rfl) 0 rfl rfl rfl (fun _ H locs hp79 hW => ?_)
          refine z_b_eq (tgt := 110) hx hb dX11_readWhole_82 (by decide) (fun c82 => ?_) (fun c82 => ?_)
          · refine lv_aload_n hx hb dX11_readWhole_110 rfl (lv_at hl 0 rfl) ?_
            refine z_get (v := .int (iI b6l)) hx hb hts hiX11_readWhole_X11 hown hW 0 6 1 rfl rfl rfl (by decide) rfl dX11_readWhole_111 ?_
            refine z_if_eq (tgt := 125) hx hb dX11_readWhole_114 (by decide) ⟨by omega, by omega⟩ (fun c114 => ?_) (fun c114 => ?_)
            · refine z_iconst (n := 1) hx hb dX11_readWhole_125 ?_
              refine lv_goto (tgt := 130) hx hb dX11_readWhole_126 (by decide) ?_
              exact z_zret hx hb hr hlk (by first | exact Or.inl rfl | exact Or.inr rfl | omega) hW (⟨0, yl, Nl, b4l, b5l, b6l, b7l, b10l, b8l, b9l, b15i⟩) (bI_t (show (0 : Int) = 0 from rfl)) (show _ = _ ∧ MT _ _ _ _ _ _ _ _ ∧ NF _ _ _ _ ∧ N8 _ _ _ ∧ R0 _ _ from ⟨by unfold Pally; rw [if_neg (fun q9 => q9 hk5), hp34.1, bnd_0 c37, hp41.1, bnd_0 c44, ← i3, bnd_0 rfl, ← j3, Plss_e (fun (k9 : KND (a 1) (v 3) yl = 7) => c82 (by have t9 := KND_7.mp k9; have := hM.2.2.2.1; have := hM.2.2.2.2.1; omega)) j1.2.2.1, bnd_0 rfl]; unfold Pfin; rw [if_pos (KND_S.1.mpr (by have := hM.2.2.2.1; omega))], hM, (fun q => absurd rfl q), (fun _ => j2), (fun _ => ⟨_, j1⟩)⟩) rfl dX11_readWhole_130
            · refine lv_aload_n hx hb dX11_readWhole_117 rfl (lv_at hl 0 rfl) ?_
              refine z_iconst (n := 1) hx hb dX11_readWhole_118 ?_
              refine z_callV (As := [.int (iI 1)]) (rest := []) F (c_bad h q (uV (uV (uV (uV (uV (uV (uV (uV v 15 b15i) 4 b4l) 5 b5l) 6 b6l) 7 b7l) 10 b10l) 8 b8l) 9 b9l) (uA a 12 Nl) 1  (show 1 ≤ 1 ∧ 1 ≤ 4 by omega) (show 0 ≤ b6l ∧ b6l ≤ 4 by omega)) gX11_readWhole_X11_bad rfl ziX11_bad ⟨rfl, rfl, by decide, by decide⟩ rfl hl.1 rfl (Nat.le_of_ble_eq_true rfl) dX11_readWhole_119 ⟨Nat.zero_le _, Nat.zero_le _⟩ hW hA [0, 1, 2, 3, 4, 5, 6, 7, 8, 9, 10] rfl (by decide) (fun _ => rfl) (fun _ => mW cI cJ h q (uV (uV (uV (uV (uV (uV (uV (uV v 15 b15i) 4 b4l) 5 b5l) 6 b6l) 7 b7l) 10 b10l) 8 (if b6l = 1 then 1 else 1)) 9 b5l) (uA a 12 Nl)) (fun _ => rfl) (fun _ => [.int (iI 0)]) (fun _ => rfl) 0 rfl rfl rfl (fun _ H locs hp119 hW => ?_)
              refine z_if_eq (tgt := 129) hx hb dX11_readWhole_122 (by decide) (by decide) (fun c122 => ?_) (fun c122 => ?_)
              · refine z_iconst (n := 0) hx hb dX11_readWhole_129 ?_
                exact z_zret hx hb hr hlk (by first | exact Or.inl rfl | exact Or.inr rfl | omega) hW (⟨1, yl, Nl, b4l, b5l, b6l, b7l, b10l, if b6l = 1 then 1 else 1, b5l, b15i⟩) (bI_f (show ¬ (1 : Int) = 0 by decide)) (show _ = _ ∧ MT _ _ _ _ _ _ _ _ ∧ NF _ _ _ _ ∧ N8 _ _ _ ∧ R0 _ _ from ⟨by unfold Pally; rw [if_neg (fun q9 => q9 hk5), hp34.1, bnd_0 c37, hp41.1, bnd_0 c44, ← i3, bnd_0 rfl, ← j3, Plss_e (fun (k9 : KND (a 1) (v 3) yl = 7) => c82 (by have t9 := KND_7.mp k9; have := hM.2.2.2.1; have := hM.2.2.2.2.1; omega)) j1.2.2.1, bnd_0 rfl]; unfold Pfin; rw [if_neg (fun q9 => by have := KND_S.1.mp q9; have := hM.2.2.2.1; omega)], hM, (fun _ => ⟨(by show (if _ = (1 : Int) then (1 : Int) else _) = _; split <;> omega), hM.2.2.1⟩), (fun q => absurd (show (1 : Int) = 0 from q) (by decide)), (fun q => absurd (show (1 : Int) = 0 from q) (by decide))⟩) rfl dX11_readWhole_130
              · exfalso; omega
          · have hk7 := ((KND_7 (T := a 1) (z := v 3) (y := yl)).mpr ⟨by have := hM.2.2.2.1; omega, by have := hM.2.2.2.2.1 (by omega); omega⟩)
            refine lv_aload_n hx hb dX11_readWhole_85 rfl (lv_at hl 0 rfl) ?_
            refine z_callV (As := []) (rest := []) F (c_readLease h q (uV (uV (uV (uV (uV (uV (uV (uV v 15 b15i) 4 b4l) 5 b5l) 6 b6l) 7 b7l) 10 b10l) 8 b8l) 9 b9l) (uA a 12 Nl)  yl (show 0 ≤ (v 3) ∧ (v 3) ≤ 640 by omega) hT hM (show 0 ≤ Nl 2 ∧ Nl 2 ≤ 6 by omega) hk7) gX11_readWhole_X11_readLease rfl ziX11_readLease ⟨rfl, rfl, by decide, by decide⟩ rfl hl.1 rfl (Nat.le_of_ble_eq_true rfl) dX11_readWhole_86 ⟨Nat.zero_le _, Nat.zero_le _⟩ hW hA [0, 1, 2, 3, 4, 5, 6, 7, 8, 9, 10] rfl (by decide) (fun _ => rfl) (fun u => mW cI cJ h q (uV (uV (uV (uV (uV (uV (uV (uV v 15 b15i) 4 u.2.2.2.1) 5 u.2.2.2.2.1) 6 u.2.2.2.2.2.1) 7 u.2.2.2.2.2.2.1) 10 u.2.2.2.2.2.2.2.1) 8 u.2.2.2.2.2.2.2.2.1) 9 u.2.2.2.2.2.2.2.2.2) (uA a 12 u.2.2.1)) (fun _ => rfl) (fun u => [.int (iI (bI (u.1 = 0)))]) (fun _ => rfl) 0 rfl rfl rfl (fun u H locs hp86 hW => ?_)
            obtain ⟨ff_26, yy_27, b12_28, b4_29, b5_30, b6_31, b7_32, b10_33, b8_34, b9_35⟩ := u
            have hp86 : Plel ((a 1)) ((v 3)) yl (Nl) = (ff_26, yy_27, b12_28) ∧ MT ((a 1)) ((v 3)) yy_27 b4_29 b5_30 b6_31 b7_32 b10_33 ∧ NF ff_26 b8_34 b9_35 (tkP ((a 1)) ((v 3)) yy_27) ∧ N8 ff_26 b8_34 (b8l) := hp86
            have hW : zW G (tyZ cI cJ cO) A s (mW cI cJ h q (uV (uV (uV (uV (uV (uV (uV (uV v 15 b15i) 4 b4_29) 5 b5_30) 6 b6_31) 7 b7_32) 10 b10_33) 8 b8_34) 9 b9_35) (uA a 12 b12_28)) H locs := hW
            have hM : MT (a 1) (v 3) yy_27 b4_29 b5_30 b6_31 b7_32 b10_33 := hp86.2.1
            clear hR
            have hR := MT_Rw hM (by omega) hT
            refine z_b_ne (tgt := 94) hx hb dX11_readWhole_89 (by decide) (fun c89 => ?_) (fun c89 => ?_)
            · have hL := RD_Plel j1 hp86.1 c89
              refine z_loop9 (fun (yp : Int) (Np : Int → Int) (b4p : Int) (b5p : Int) (b6p : Int) (b7p : Int) (b10p : Int) (b8p : Int) (b9p : Int) (ls : Array Slot) (H : Heap) (locs : List Loc) => (RD Np b15i) ∧ (Np 2 = Nl 2 + 1) ∧ (b8p = v 8) ∧ (MT (a 1) (v 3) yp b4p b5p b6p b7p b10p) ∧ (Pprts (a 1) (v 3) (Np 2 - 1) (6 - PC (LF Np (Np 2 - 1) 7)).toNat yp Np = Pprts (a 1) (v 3) (b12_28 2 - 1) 6 yy_27 b12_28) ∧ zW G (tyZ cI cJ cO) A s (mW cI cJ h q (uV (uV (uV (uV (uV (uV (uV (uV v 15 b15i) 4 b4p) 5 b5p) 6 b6p) 7 b7p) 10 b10p) 8 b8p) 9 b9p) (uA a 12 Np)) H locs ∧ lv_has ls 1 [(0, .ref h)]) (fun yp Np b4p b5p b6p b7p b10p b8p b9p => (6 - PC (LF Np (Np 2 - 1) 7)).toNat) ?_ yy_27 b12_28 b4_29 b5_30 b6_31 b7_32 b10_33 b8_34 b9_35 _ _ _ ⟨hL.1, hL.2.1, ((hp86.2.2.2 c89).trans j2), hM, (by rw [hL.2.1, show Nl 2 + 1 - 1 = Nl 2 by omega, hL.2.2.2]; rfl), hW, (lv_sub hl [0] rfl)⟩
              intro yp Np b4p b5p b6p b7p b10p b8p b9p ls H locs hI ih94
              obtain ⟨k1, k4, k2, hM, k3, hW, hl⟩ := hI
              clear hR
              have hR := MT_Rw hM (by omega) hT
              have hkp := PC_R (LF Np (Np 2 - 1) 7)
              have hj4 := j1.2.2.1
              have hlq := (k1.2.2.2.2.2.1 (Np 2 - 1) (by omega) (by omega)).1
              have hs := (show 0 ≤ Np (483 + 500 * (Np 2 - 1) + 0) ∧ Np (483 + 500 * (Np 2 - 1) + 0) ≤ 119 ∧ 1 ≤ Np (483 + 500 * (Np 2 - 1) + 1) ∧ Np (483 + 500 * (Np 2 - 1) + 1) ≤ 120 from ⟨hlq.1.1, hlq.1.2, hlq.2.1.1, hlq.2.1.2⟩)
              have hpb := PB_L (KND (a 1) (v 3) yp)
              refine lv_aload_n hx hb dX11_readWhole_94 rfl (lv_at hl 0 rfl) ?_
              refine z_callV (As := []) (rest := []) F (c_partHere h q (uV (uV (uV (uV (uV (uV (uV (uV v 15 b15i) 4 b4p) 5 b5p) 6 b6p) 7 b7p) 10 b10p) 8 b8p) 9 b9p) (uA a 12 Np)  yp (show 0 ≤ (v 3) ∧ (v 3) ≤ 640 by omega) hT hM) gX11_readWhole_X11_partHere rfl ziX11_partHere ⟨rfl, rfl, by decide, by decide⟩ rfl hl.1 rfl (Nat.le_of_ble_eq_true rfl) dX11_readWhole_95 ⟨Nat.zero_le _, Nat.zero_le _⟩ hW hA [0, 1, 2, 3, 4, 5, 6, 7, 8, 9, 10] rfl (by decide) (fun _ => rfl) (fun _ => mW cI cJ h q (uV (uV (uV (uV (uV (uV (uV (uV v 15 b15i) 4 b4p) 5 b5p) 6 b6p) 7 b7p) 10 b10p) 8 b8p) 9 b9p) (uA a 12 Np)) (fun _ => rfl) (fun _ => [.int (iI (PB (KND ((a 1)) ((v 3)) yp)))]) (fun _ => rfl) 0 rfl rfl rfl (fun _ H locs hp95 hW => ?_)
              refine z_if_le (tgt := 65) hx hb dX11_readWhole_98 (by decide) ⟨by omega, by omega⟩ (fun c98 => ?_) (fun c98 => ?_)
              · have hpb0 : PB (KND (a 1) (v 3) yp) = 0 := by omega
                exact ih65 yp Np b4p b5p b6p b7p b10p b8p b9p _ _ _ ⟨k1, k2, hM, (by rw [← j3, Plss_l hk7 j1.2.2.1, hp86.1, bnd_0 c89]; show _ = bnd (Pprts (a 1) (v 3) (b12_28 2 - 1) 6 yy_27 b12_28) _; rw [← k3, Pprts_E hkp hpb0, bnd_0 rfl, k4]), hW, (lv_sub hl [0] rfl)⟩ (tnl k4 hj4.2)
              · have hpbn : PB (KND (a 1) (v 3) yp) ≠ 0 := by omega
                refine lv_aload_n hx hb dX11_readWhole_101 rfl (lv_at hl 0 rfl) ?_
                refine z_callV (As := []) (rest := []) F (c_readPart h q (uV (uV (uV (uV (uV (uV (uV (uV v 15 b15i) 4 b4p) 5 b5p) 6 b6p) 7 b7p) 10 b10p) 8 b8p) 9 b9p) (uA a 12 Np)  yp (show 0 ≤ (v 3) ∧ (v 3) ≤ 640 by omega) hT hM (show 1 ≤ Np 2 ∧ Np 2 ≤ 6 by omega) hpbn hs) gX11_readWhole_X11_readPart rfl ziX11_readPart ⟨rfl, rfl, by decide, by decide⟩ rfl hl.1 rfl (Nat.le_of_ble_eq_true rfl) dX11_readWhole_102 ⟨Nat.zero_le _, Nat.zero_le _⟩ hW hA [0, 1, 2, 3, 4, 5, 6, 7, 8, 9, 10] rfl (by decide) (fun _ => rfl) (fun u => mW cI cJ h q (uV (uV (uV (uV (uV (uV (uV (uV v 15 b15i) 4 u.2.2.2.1) 5 u.2.2.2.2.1) 6 u.2.2.2.2.2.1) 7 u.2.2.2.2.2.2.1) 10 u.2.2.2.2.2.2.2.1) 8 u.2.2.2.2.2.2.2.2.1) 9 u.2.2.2.2.2.2.2.2.2) (uA a 12 u.2.2.1)) (fun _ => rfl) (fun u => [.int (iI (bI (u.1 = 0)))]) (fun _ => rfl) 0 rfl rfl rfl (fun u H locs hp102 hW => ?_)
                obtain ⟨ff_36, yy_37, b12_38, b4_39, b5_40, b6_41, b7_42, b10_43, b8_44, b9_45⟩ := u
                have hp102 : Ppart ((a 1)) ((v 3)) (Np 2 - 1) yp (Np) = (ff_36, yy_37, b12_38) ∧ MT ((a 1)) ((v 3)) yy_37 b4_39 b5_40 b6_41 b7_42 b10_43 ∧ NF ff_36 b8_44 b9_45 (tkP ((a 1)) ((v 3)) yy_37) ∧ N8 ff_36 b8_44 (b8p) := hp102
                have hW : zW G (tyZ cI cJ cO) A s (mW cI cJ h q (uV (uV (uV (uV (uV (uV (uV (uV v 15 b15i) 4 b4_39) 5 b5_40) 6 b6_41) 7 b7_42) 10 b10_43) 8 b8_44) 9 b9_45) (uA a 12 b12_38)) H locs := hW
                have hM : MT (a 1) (v 3) yy_37 b4_39 b5_40 b6_41 b7_42 b10_43 := hp102.2.1
                clear hR
                have hR := MT_Rw hM (by omega) hT
                refine z_b_ne (tgt := 94) hx hb dX11_readWhole_105 (by decide) (fun c105 => ?_) (fun c105 => ?_)
                · have hQ := RD_Ppart k1 (by omega) hpbn hp102.1 c105
                  exact ih94 yy_37 b12_38 b4_39 b5_40 b6_41 b7_42 b10_43 b8_44 b9_45 _ _ _ ⟨hQ.1, (by rw [hQ.2.1]; exact k4), ((hp102.2.2.2 c105).trans k2), hM, (by rw [hQ.2.1, hQ.2.2.1, ← k3, Pprts_L hkp hpbn, hp102.1, bnd_0 c105]), hW, (lv_sub hl [0] rfl)⟩ (by rw [hQ.2.1]; exact tnp hQ.2.2.1 hQ.2.2.2)
                · refine z_iconst (n := 0) hx hb dX11_readWhole_108 ?_
                  exact z_zret hx hb hr hlk (by first | exact Or.inl rfl | exact Or.inr rfl | omega) hW (⟨ff_36, yy_37, b12_38, b4_39, b5_40, b6_41, b7_42, b10_43, b8_44, b9_45, b15i⟩) (bI_f c105) (show _ = _ ∧ MT _ _ _ _ _ _ _ _ ∧ NF _ _ _ _ ∧ N8 _ _ _ ∧ R0 _ _ from ⟨by unfold Pally; rw [if_neg (fun q9 => q9 hk5), hp34.1, bnd_0 c37, hp41.1, bnd_0 c44, ← i3, bnd_0 rfl, ← j3, Plss_l hk7 j1.2.2.1, hp86.1, bnd_0 c89, ← k3, Pprts_L hkp hpbn, hp102.1, bnd_1 c105, bnd_1 c105, bnd_1 c105], hM, hp102.2.2.1, (fun q => absurd q c105), (fun q => absurd q c105)⟩) rfl dX11_readWhole_109
            · refine z_iconst (n := 0) hx hb dX11_readWhole_92 ?_
              exact z_zret hx hb hr hlk (by first | exact Or.inl rfl | exact Or.inr rfl | omega) hW (⟨ff_26, yy_27, b12_28, b4_29, b5_30, b6_31, b7_32, b10_33, b8_34, b9_35, b15i⟩) (bI_f c89) (show _ = _ ∧ MT _ _ _ _ _ _ _ _ ∧ NF _ _ _ _ ∧ N8 _ _ _ ∧ R0 _ _ from ⟨by unfold Pally; rw [if_neg (fun q9 => q9 hk5), hp34.1, bnd_0 c37, hp41.1, bnd_0 c44, ← i3, bnd_0 rfl, ← j3, Plss_l hk7 j1.2.2.1, hp86.1, bnd_1 c89, bnd_1 c89], hM, hp86.2.2.1, (fun q => absurd q c89), (fun q => absurd q c89)⟩) rfl dX11_readWhole_93
        · have hk6 := ((KND_6 (T := a 1) (z := v 3) (y := yi)).mpr ⟨by have := hM.2.2.2.1; omega, by have := hM.2.2.2.2.1 (by omega); omega⟩)
          refine lv_aload_n hx hb dX11_readWhole_56 rfl (lv_at hl 0 rfl) ?_
          refine z_callV (As := []) (rest := []) F (c_readIndex h q (uV (uV (uV (uV (uV (uV (uV (uV v 4 b4i) 5 b5i) 6 b6i) 7 b7i) 10 b10i) 8 b8i) 9 b9i) 15 b15i) (uA a 12 Ni)  yi (show 0 ≤ (v 3) ∧ (v 3) ≤ 640 by omega) hT hM (show 0 ≤ b15i ∧ b15i ≤ 20 by omega) hk6 hV) gX11_readWhole_X11_readIndex rfl ziX11_readIndex ⟨rfl, rfl, by decide, by decide⟩ rfl hl.1 rfl (Nat.le_of_ble_eq_true rfl) dX11_readWhole_57 ⟨Nat.zero_le _, Nat.zero_le _⟩ hW hA [0, 1, 2, 3, 4, 5, 6, 7, 8, 9, 10] rfl (by decide) (fun _ => rfl) (fun u => mW cI cJ h q (uV (uV (uV (uV (uV (uV (uV (uV v 4 u.2.2.2.1) 5 u.2.2.2.2.1) 6 u.2.2.2.2.2.1) 7 u.2.2.2.2.2.2.1) 10 u.2.2.2.2.2.2.2.1) 8 u.2.2.2.2.2.2.2.2.1) 9 u.2.2.2.2.2.2.2.2.2.1) 15 u.2.2.2.2.2.2.2.2.2.2) (uA a 12 u.2.2.1)) (fun _ => rfl) (fun u => [.int (iI (bI (u.1 = 0)))]) (fun _ => rfl) 0 rfl rfl rfl (fun u H locs hp57 hW => ?_)
          obtain ⟨ff_46, yy_47, b12_48, b4_49, b5_50, b6_51, b7_52, b10_53, b8_54, b9_55, b15_56⟩ := u
          have hp57 : Pixl ((a 1)) ((v 3)) (b15i) yi (Ni) = (ff_46, yy_47, b12_48) ∧ MT ((a 1)) ((v 3)) yy_47 b4_49 b5_50 b6_51 b7_52 b10_53 ∧ NF ff_46 b8_54 b9_55 (tkP ((a 1)) ((v 3)) yy_47) ∧ N8 ff_46 b8_54 (b8i) ∧ N8 ff_46 b15_56 (b15i + 1) := hp57
          have hW : zW G (tyZ cI cJ cO) A s (mW cI cJ h q (uV (uV (uV (uV (uV (uV (uV (uV v 4 b4_49) 5 b5_50) 6 b6_51) 7 b7_52) 10 b10_53) 8 b8_54) 9 b9_55) 15 b15_56) (uA a 12 b12_48)) H locs := hW
          have hM : MT (a 1) (v 3) yy_47 b4_49 b5_50 b6_51 b7_52 b10_53 := hp57.2.1
          clear hR
          have hR := MT_Rw hM (by omega) hT
          refine z_b_ne (tgt := 49) hx hb dX11_readWhole_60 (by decide) (fun c60 => ?_) (fun c60 => ?_)
          · have e15 := hp57.2.2.2.2 c60
            exact ih yy_47 b12_48 b4_49 b5_50 b6_51 b7_52 b10_53 b8_54 b9_55 b15_56 _ _ _ ⟨(by rw [e15]; exact RD_Pixl i1.1 i1.2 hp57.1 c60), ((hp57.2.2.2.1 c60).trans i2), hM, (by rw [e15, ← i3, Pixs_l hk6 hi15.2, hp57.1, bnd_0 c60]), hW, (lv_sub hl [0] rfl)⟩ (tni e15 hi15.2.2)
          · refine z_iconst (n := 0) hx hb dX11_readWhole_63 ?_
            exact z_zret hx hb hr hlk (by first | exact Or.inl rfl | exact Or.inr rfl | omega) hW (⟨ff_46, yy_47, b12_48, b4_49, b5_50, b6_51, b7_52, b10_53, b8_54, b9_55, b15_56⟩) (bI_f c60) (show _ = _ ∧ MT _ _ _ _ _ _ _ _ ∧ NF _ _ _ _ ∧ N8 _ _ _ ∧ R0 _ _ from ⟨by unfold Pally; rw [if_neg (fun q9 => q9 hk5), hp34.1, bnd_0 c37, hp41.1, bnd_0 c44, ← i3, Pixs_l hk6 hi15.2, hp57.1, bnd_1 c60, bnd_1 c60], hM, hp57.2.2.1, (fun q => absurd q c60), (fun q => absurd q c60)⟩) rfl dX11_readWhole_64
      · refine z_iconst (n := 0) hx hb dX11_readWhole_47 ?_
        exact z_zret hx hb hr hlk (by first | exact Or.inl rfl | exact Or.inr rfl | omega) hW (⟨ff_16, yy_17, b12_18, b4_19, b5_20, b6_21, b7_22, b10_23, b8_24, b9_25, v 15⟩) (bI_f c44) (show _ = _ ∧ MT _ _ _ _ _ _ _ _ ∧ NF _ _ _ _ ∧ N8 _ _ _ ∧ R0 _ _ from ⟨by unfold Pally; rw [if_neg (fun q9 => q9 hk5), hp34.1, bnd_0 c37, hp41.1, bnd_1 c44], hM, hp41.2.2.1, (fun q => absurd q c44), (fun q => absurd q c44)⟩) rfl dX11_readWhole_48
  · refine lv_aload_n hx hb dX11_readWhole_18 rfl (lv_at hl 0 rfl) ?_
    refine z_iconst (n := 1) hx hb dX11_readWhole_19 ?_
    refine z_callV (As := [.int (iI 1)]) (rest := []) F (c_bad h q v a 1  (show 1 ≤ 1 ∧ 1 ≤ 4 by omega) (show 0 ≤ (v 6) ∧ (v 6) ≤ 4 by omega)) gX11_readWhole_X11_bad rfl ziX11_bad ⟨rfl, rfl, by decide, by decide⟩ rfl hl.1 rfl (Nat.le_of_ble_eq_true rfl) dX11_readWhole_20 ⟨Nat.zero_le _, Nat.zero_le _⟩ hW hA [0, 1, 2, 3, 4, 5, 6, 7, 8, 9, 10] rfl (by decide) (fun _ => rfl) (fun _ => mW cI cJ h q (uV (uV v 8 (if (v 6) = 1 then 1 else 1)) 9 (v 5)) a) (fun _ => rfl) (fun _ => [.int (iI 0)]) (fun _ => rfl) 0 rfl rfl rfl (fun _ H locs hp20 hW => ?_)
    exact z_zret hx hb hr hlk (by first | exact Or.inl rfl | exact Or.inr rfl | omega) hW (⟨1, y, a 12, v 4, v 5, v 6, v 7, v 10, if (v 6) = 1 then 1 else 1, (v 5), v 15⟩) (bI_f (show ¬ (1 : Int) = 0 by decide)) (show _ = _ ∧ MT _ _ _ _ _ _ _ _ ∧ NF _ _ _ _ ∧ N8 _ _ _ ∧ R0 _ _ from ⟨by unfold Pally; rw [if_pos (fun (k9 : KND (a 1) (v 3) y = 5) => c15 (by have t9 := KND_5.mp k9; have := hM.2.2.2.1; have := hM.2.2.2.2.1; omega))], hM, (fun _ => ⟨(by show (if _ = (1 : Int) then (1 : Int) else _) = _; split <;> omega), hM.2.2.1⟩), (fun q => absurd (show (1 : Int) = 0 from q) (by decide)), (fun q => absurd (show (1 : Int) = 0 from q) (by decide))⟩) rfl dX11_readWhole_23
