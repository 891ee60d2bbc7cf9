/-! the law's cases: fault, end, feed, now, index -/
theorem zand_255 (a : Int) : 0 ≤ zand a 255 ∧ zand a 255 ≤ 255 := by
  unfold zand
  have h1 : (iI a &&& iI 255).toInt = ((iI a).toBitVec &&& (255 : BitVec 32)).toInt := rfl
  have h2 : ((iI a).toBitVec &&& (255 : BitVec 32)).toNat ≤ 255 := by rw [BitVec.toNat_and]; exact Nat.and_le_right
  rw [h1, BitVec.toInt_eq_toNat_of_lt (by omega)]
  omega
theorem LAY_R {T : Int → Int} {t x : Int} (h : BYS T) : BYS (LAY T t x) := by
  intro j j0 j1
  have hT := h j j0 j1
  unfold LAY uI
  repeat' split
  all_goals first | exact hT | exact zand_255 _
set_option maxHeartbeats 4000000 in
set_option maxRecDepth 100000 in
theorem law_fault {p : Program} {l : Launch} {e : Env} {s : State} {m : MethodId} {args : Array Value} {below : List Frame} {meth : Method} {c : Code} {H : Heap} {locs : List Loc} {cells slots : Nat} {Q : State → Prop} {ls : Array Slot} {G : va_G} {cI cJ cO : ClassId} {A : Nat → Prop} {b L : Nat} {xs : Nat → Int32} {aK aV : Nat → Nat} {hm ho hc : Nat} {i : Int} (hC : LAWc p l s m args c A b L xs aK aV) (hJ : JJ G cI cJ cO A s hm ho hc H locs) (hl : lv_has ls 7 (lvL b hc hm ho i)) (hi : 0 ≤ i ∧ i + 6 ≤ L) (hf : cells ≤ room_1.cells ∧ slots ≤ room_1.slots) (kk : ∀ (H : Heap) (locs : List Loc), JJ G cI cJ cO A s hm ho hc H locs → W p l e room_1 s m args below meth c H locs cells slots Q (F0 m 936 ls [])) : W p l e room_1 s m args below meth c H locs cells slots Q (F0 m 251 ls []) := by
  have F := hC.1
  have hx := F.1
  have hb := F.2.1
  have hA := hC.2.2.1
  obtain ⟨q, v, a, fo, qc, vc, ac, qf, vf, af, qd, vd, ad, qo, vo, ao, qy, vy, ay, qw, vw, aw, qu, vu, au, qz, vz, az, qB, vB, aB, gB, qv, vv, av, qE, VE, aE, qb, vb, ab, gb, qx, vx, ax, qe, Ve, ae, hF, hW⟩ := hJ
  obtain ⟨hG, hCl, ⟨hb3, hb4, hc8, hc9⟩, ⟨hf1, ht0, ht1, hf0, hBy⟩, hy3, hch, hVE⟩ := id hF
  have hWF := hG.1
  obtain ⟨w0, w1, w2, hV, hls⟩ := id hWF
  refine lv_aload_n hx hb dL_law_251 rfl (lv_at hl 1 rfl) ?_
  have hW : zW G (tyZ cI cJ cO) A s ((dO cI cJ hc qc vc ac) ++ [mW cI cJ hm q v a, oW cJ ho fo, tW cI cJ (qc 0) qf vf af, rW cI cJ (qc 1) qd vd ad, sW cI cJ (qd 0) qo vo ao, aW cI cJ (qc 2) qy vy ay, kO cI cJ (qc 3) qw vw aw, iW cI cJ (qc 3) qw vw aw, kO cI cJ (qc 4) qu vu au, iW cI cJ (qc 4) qu vu au, pW cI cJ (qc 5) qz vz az, bO cI cJ (qc 6) qB vB aB, gW cO (qB 1) gB, vW cI cJ (qB 0) qv vv av, SIX (LEs cI cJ gB qE VE aE), bO cI cJ (qc 7) qb vb ab, gW cO (qb 1) gb, vW cI cJ (qb 0) qx vx ax, SIX (LEs cI cJ gb qe Ve ae)].flatten) H locs := by
    have h9 := hW.pickN 20 [2, 0, 1, 3, 4, 5, 6, 7, 8, 9, 10, 11, 12, 13, 14, 15, 16, 17, 18, 19] (by decide) rfl [dO cI cJ hc qc vc ac, mW cI cJ hm q v a, oW cJ ho fo, tW cI cJ (qc 0) qf vf af, rW cI cJ (qc 1) qd vd ad, sW cI cJ (qd 0) qo vo ao, aW cI cJ (qc 2) qy vy ay, kO cI cJ (qc 3) qw vw aw, iW cI cJ (qc 3) qw vw aw, kO cI cJ (qc 4) qu vu au, iW cI cJ (qc 4) qu vu au, pW cI cJ (qc 5) qz vz az, bO cI cJ (qc 6) qB vB aB, gW cO (qB 1) gB, vW cI cJ (qB 0) qv vv av, SIX (LEs cI cJ gB qE VE aE), bO cI cJ (qc 7) qb vb ab, gW cO (qb 1) gb, vW cI cJ (qb 0) qx vx ax, SIX (LEs cI cJ gb qe Ve ae)] rfl
    simpa only [List.flatten_cons, List.append_assoc] using h9
  refine zf_callV (n := 0) (As := []) (rest := []) F (c_X10_fault hc qc vc ac) gL_law_X10_fault rfl (by decide +kernel) ⟨rfl, rfl, by decide, by decide⟩ rfl hl.1 rfl (Nat.le_of_ble_eq_true rfl) dL_law_252 hf hW hA (fun _ => rfl) (fun u => .int (iI (vc 9)) :: []) (fun _ => rfl) rfl rfl rfl (fun u H locs hpu hW => ?_)
  have hW : zW G (tyZ cI cJ cO) A s [mW cI cJ hm q v a, oW cJ ho fo, dO cI cJ hc qc vc ac, tW cI cJ (qc 0) qf vf af, rW cI cJ (qc 1) qd vd ad, sW cI cJ (qd 0) qo vo ao, aW cI cJ (qc 2) qy vy ay, kO cI cJ (qc 3) qw vw aw, iW cI cJ (qc 3) qw vw aw, kO cI cJ (qc 4) qu vu au, iW cI cJ (qc 4) qu vu au, pW cI cJ (qc 5) qz vz az, bO cI cJ (qc 6) qB vB aB, gW cO (qB 1) gB, vW cI cJ (qB 0) qv vv av, SIX (LEs cI cJ gB qE VE aE), bO cI cJ (qc 7) qb vb ab, gW cO (qb 1) gb, vW cI cJ (qb 0) qx vx ax, SIX (LEs cI cJ gb qe Ve ae)].flatten H locs := by
    have h9 : zW G (tyZ cI cJ cO) A s [dO cI cJ hc qc vc ac, mW cI cJ hm q v a, oW cJ ho fo, tW cI cJ (qc 0) qf vf af, rW cI cJ (qc 1) qd vd ad, sW cI cJ (qd 0) qo vo ao, aW cI cJ (qc 2) qy vy ay, kO cI cJ (qc 3) qw vw aw, iW cI cJ (qc 3) qw vw aw, kO cI cJ (qc 4) qu vu au, iW cI cJ (qc 4) qu vu au, pW cI cJ (qc 5) qz vz az, bO cI cJ (qc 6) qB vB aB, gW cO (qB 1) gB, vW cI cJ (qB 0) qv vv av, SIX (LEs cI cJ gB qE VE aE), bO cI cJ (qc 7) qb vb ab, gW cO (qb 1) gb, vW cI cJ (qb 0) qx vx ax, SIX (LEs cI cJ gb qe Ve ae)].flatten H locs := by simpa only [List.flatten_cons, List.append_assoc] using hW
    exact h9.pickN 20 [1, 2, 0, 3, 4, 5, 6, 7, 8, 9, 10, 11, 12, 13, 14, 15, 16, 17, 18, 19] (by decide) rfl _ rfl
  refine lv_aload_n hx hb dL_law_255 rfl (lv_at hl 2 rfl) ?_
  have hW : zW G (tyZ cI cJ cO) A s ((mW cI cJ hm q v a) ++ [oW cJ ho fo, dO cI cJ hc qc vc ac, tW cI cJ (qc 0) qf vf af, rW cI cJ (qc 1) qd vd ad, sW cI cJ (qd 0) qo vo ao, aW cI cJ (qc 2) qy vy ay, kO cI cJ (qc 3) qw vw aw, iW cI cJ (qc 3) qw vw aw, kO cI cJ (qc 4) qu vu au, iW cI cJ (qc 4) qu vu au, pW cI cJ (qc 5) qz vz az, bO cI cJ (qc 6) qB vB aB, gW cO (qB 1) gB, vW cI cJ (qB 0) qv vv av, SIX (LEs cI cJ gB qE VE aE), bO cI cJ (qc 7) qb vb ab, gW cO (qb 1) gb, vW cI cJ (qb 0) qx vx ax, SIX (LEs cI cJ gb qe Ve ae)].flatten) H locs := hW
  refine zf_callV (n := 0) (As := []) (rest := [.int (iI (vc 9))]) F (c_fault hm q v a) gL_law_X11_fault rfl (by decide +kernel) ⟨rfl, rfl, by decide, by decide⟩ rfl hl.1 rfl (Nat.le_of_ble_eq_true rfl) dL_law_256 hf hW hA (fun _ => rfl) (fun w => .int (iI (v 8)) :: [.int (iI (vc 9))]) (fun _ => rfl) rfl rfl rfl (fun w H locs hpw hW => ?_)
  refine zs_eq hC (by rw [hc9]) dL_law_259 (by decide) ?_
  exact kk H locs ⟨q, (uV v 0 0), a, fo, qc, vc, ac, qf, vf, af, qd, vd, ad, qo, vo, ao, qy, vy, ay, qw, vw, aw, qu, vu, au, qz, vz, az, qB, vB, aB, gB, qv, vv, av, qE, VE, aE, qb, vb, ab, gb, qx, vx, ax, qe, Ve, ae, hF, hW⟩
set_option maxHeartbeats 4000000 in
set_option maxRecDepth 100000 in
theorem law_end {p : Program} {l : Launch} {e : Env} {s : State} {m : MethodId} {args : Array Value} {below : List Frame} {meth : Method} {c : Code} {H : Heap} {locs : List Loc} {cells slots : Nat} {Q : State → Prop} {ls : Array Slot} {G : va_G} {cI cJ cO : ClassId} {A : Nat → Prop} {b L : Nat} {xs : Nat → Int32} {aK aV : Nat → Nat} {hm ho hc : Nat} {i : Int} (hC : LAWc p l s m args c A b L xs aK aV) (hJ : JJ G cI cJ cO A s hm ho hc H locs) (hl : lv_has ls 7 (lvL b hc hm ho i)) (hi : 0 ≤ i ∧ i + 6 ≤ L) (hf : cells ≤ room_1.cells ∧ slots ≤ room_1.slots) (kk : ∀ (H : Heap) (locs : List Loc), JJ G cI cJ cO A s hm ho hc H locs → W p l e room_1 s m args below meth c H locs cells slots Q (F0 m 936 ls [])) : W p l e room_1 s m args below meth c H locs cells slots Q (F0 m 213 ls []) := by
  have F := hC.1
  have hx := F.1
  have hb := F.2.1
  have hA := hC.2.2.1
  obtain ⟨q, v, a, fo, qc, vc, ac, qf, vf, af, qd, vd, ad, qo, vo, ao, qy, vy, ay, qw, vw, aw, qu, vu, au, qz, vz, az, qB, vB, aB, gB, qv, vv, av, qE, VE, aE, qb, vb, ab, gb, qx, vx, ax, qe, Ve, ae, hF, hW⟩ := hJ
  obtain ⟨hG, hCl, ⟨hb3, hb4, hc8, hc9⟩, ⟨hf1, ht0, ht1, hf0, hBy⟩, hy3, hch, hVE⟩ := id hF
  have hWF := hG.1
  obtain ⟨w0, w1, w2, hV, hls⟩ := id hWF
  obtain ⟨z1, r1, e1⟩ := iI_ex (xs (i + 1).toNat)
  refine lv_aload_n hx hb dL_law_213 rfl (lv_at hl 1 rfl) ?_
  refine zs_arg (lv := []) hC hW hl (n := 1) ⟨by omega, by omega⟩ e1 dL_law_214 dL_law_215 dL_law_217 dL_law_218 dL_law_219 ?_
  have hW : zW G (tyZ cI cJ cO) A s ((dO cI cJ hc qc vc ac) ++ (tW cI cJ (qc 0) qf vf af) ++ [mW cI cJ hm q v a, oW cJ ho fo, rW cI cJ (qc 1) qd vd ad, sW cI cJ (qd 0) qo vo ao, aW cI cJ (qc 2) qy vy ay, kO cI cJ (qc 3) qw vw aw, iW cI cJ (qc 3) qw vw aw, kO cI cJ (qc 4) qu vu au, iW cI cJ (qc 4) qu vu au, pW cI cJ (qc 5) qz vz az, bO cI cJ (qc 6) qB vB aB, gW cO (qB 1) gB, vW cI cJ (qB 0) qv vv av, SIX (LEs cI cJ gB qE VE aE), bO cI cJ (qc 7) qb vb ab, gW cO (qb 1) gb, vW cI cJ (qb 0) qx vx ax, SIX (LEs cI cJ gb qe Ve ae)].flatten) H locs := by
    have h9 := hW.pickN 20 [2, 3, 0, 1, 4, 5, 6, 7, 8, 9, 10, 11, 12, 13, 14, 15, 16, 17, 18, 19] (by decide) rfl [dO cI cJ hc qc vc ac, tW cI cJ (qc 0) qf vf af, mW cI cJ hm q v a, oW cJ ho fo, rW cI cJ (qc 1) qd vd ad, sW cI cJ (qd 0) qo vo ao, aW cI cJ (qc 2) qy vy ay, kO cI cJ (qc 3) qw vw aw, iW cI cJ (qc 3) qw vw aw, kO cI cJ (qc 4) qu vu au, iW cI cJ (qc 4) qu vu au, pW cI cJ (qc 5) qz vz az, bO cI cJ (qc 6) qB vB aB, gW cO (qB 1) gB, vW cI cJ (qB 0) qv vv av, SIX (LEs cI cJ gB qE VE aE), bO cI cJ (qc 7) qb vb ab, gW cO (qb 1) gb, vW cI cJ (qb 0) qx vx ax, SIX (LEs cI cJ gb qe Ve ae)] rfl
    simpa only [List.flatten_cons, List.append_assoc] using h9
  refine zf_callV (n := 1) (As := [.int (iI z1)]) (rest := []) F (c_X10_end hc qc vc ac qf vf af z1 r1 (by omega)) gL_law_X10_end rfl (by decide +kernel) ⟨rfl, rfl, by decide, by decide⟩ rfl hl.1 rfl (Nat.le_of_ble_eq_true rfl) dL_law_220 hf hW hA (fun _ => rfl) (fun u => .int (iI (bI (0 ≤ z1 ∧ z1 ≤ vf 1))) :: []) (fun _ => rfl) rfl rfl rfl (fun u H locs hpu hW => ?_)
  have hW : zW G (tyZ cI cJ cO) A s [mW cI cJ hm q v a, oW cJ ho fo, dO cI cJ hc qc vc ac, tW cI cJ (qc 0) qf ((uV vf 1 u)) af, rW cI cJ (qc 1) qd vd ad, sW cI cJ (qd 0) qo vo ao, aW cI cJ (qc 2) qy vy ay, kO cI cJ (qc 3) qw vw aw, iW cI cJ (qc 3) qw vw aw, kO cI cJ (qc 4) qu vu au, iW cI cJ (qc 4) qu vu au, pW cI cJ (qc 5) qz vz az, bO cI cJ (qc 6) qB vB aB, gW cO (qB 1) gB, vW cI cJ (qB 0) qv vv av, SIX (LEs cI cJ gB qE VE aE), bO cI cJ (qc 7) qb vb ab, gW cO (qb 1) gb, vW cI cJ (qb 0) qx vx ax, SIX (LEs cI cJ gb qe Ve ae)].flatten H locs := by
    have h9 : zW G (tyZ cI cJ cO) A s [dO cI cJ hc qc vc ac, tW cI cJ (qc 0) qf ((uV vf 1 u)) af, mW cI cJ hm q v a, oW cJ ho fo, rW cI cJ (qc 1) qd vd ad, sW cI cJ (qd 0) qo vo ao, aW cI cJ (qc 2) qy vy ay, kO cI cJ (qc 3) qw vw aw, iW cI cJ (qc 3) qw vw aw, kO cI cJ (qc 4) qu vu au, iW cI cJ (qc 4) qu vu au, pW cI cJ (qc 5) qz vz az, bO cI cJ (qc 6) qB vB aB, gW cO (qB 1) gB, vW cI cJ (qB 0) qv vv av, SIX (LEs cI cJ gB qE VE aE), bO cI cJ (qc 7) qb vb ab, gW cO (qb 1) gb, vW cI cJ (qb 0) qx vx ax, SIX (LEs cI cJ gb qe Ve ae)].flatten H locs := by simpa only [List.flatten_cons, List.append_assoc] using hW
    exact h9.pickN 20 [2, 3, 0, 1, 4, 5, 6, 7, 8, 9, 10, 11, 12, 13, 14, 15, 16, 17, 18, 19] (by decide) rfl _ rfl
  refine lv_aload_n hx hb dL_law_223 rfl (lv_at hl 2 rfl) ?_
  refine zs_arg (lv := []) hC hW hl (n := 1) ⟨by omega, by omega⟩ e1 dL_law_224 dL_law_225 dL_law_227 dL_law_228 dL_law_229 ?_
  have hW : zW G (tyZ cI cJ cO) A s ((mW cI cJ hm q v a) ++ [oW cJ ho fo, dO cI cJ hc qc vc ac, tW cI cJ (qc 0) qf ((uV vf 1 u)) af, rW cI cJ (qc 1) qd vd ad, sW cI cJ (qd 0) qo vo ao, aW cI cJ (qc 2) qy vy ay, kO cI cJ (qc 3) qw vw aw, iW cI cJ (qc 3) qw vw aw, kO cI cJ (qc 4) qu vu au, iW cI cJ (qc 4) qu vu au, pW cI cJ (qc 5) qz vz az, bO cI cJ (qc 6) qB vB aB, gW cO (qB 1) gB, vW cI cJ (qB 0) qv vv av, SIX (LEs cI cJ gB qE VE aE), bO cI cJ (qc 7) qb vb ab, gW cO (qb 1) gb, vW cI cJ (qb 0) qx vx ax, SIX (LEs cI cJ gb qe Ve ae)].flatten) H locs := hW
  refine zf_callV (n := 1) (As := [.int (iI z1)]) (rest := [.int (iI (bI (0 ≤ z1 ∧ z1 ≤ vf 1)))]) F (c_end hm q v a z1 r1 (by omega)) gL_law_X11_end rfl (by decide +kernel) ⟨rfl, rfl, by decide, by decide⟩ rfl hl.1 rfl (Nat.le_of_ble_eq_true rfl) dL_law_230 hf hW hA (fun _ => rfl) (fun w => .int (iI (bI (0 ≤ z1 ∧ z1 ≤ v 2))) :: [.int (iI (bI (0 ≤ z1 ∧ z1 ≤ vf 1)))]) (fun _ => rfl) rfl rfl rfl (fun w H locs hpw hW => ?_)
  have hu : u = w := by rw [hpu, hpw, hf1]
  have hw : 0 ≤ w ∧ w ≤ 640 := by rw [hpw]; split <;> omega
  refine zs_eq hC (by rw [hf1]) dL_law_233 (by decide) ?_
  exact kk H locs ⟨q, (uV (uV v 0 0) 2 w), a, fo, qc, vc, ac, qf, (uV vf 1 u), af, qd, vd, ad, qo, vo, ao, qy, vy, ay, qw, vw, aw, qu, vu, au, qz, vz, az, qB, vB, aB, gB, qv, vv, av, qE, VE, aE, qb, vb, ab, gb, qx, vx, ax, qe, Ve, ae, ⟨hG, hCl, ⟨hb3, hb4, hc8, hc9⟩, ⟨hu, hw.1, hw.2, hf0, hBy⟩, hy3, hch, hVE⟩, hW⟩
set_option maxHeartbeats 4000000 in
set_option maxRecDepth 100000 in
theorem law_feed {p : Program} {l : Launch} {e : Env} {s : State} {m : MethodId} {args : Array Value} {below : List Frame} {meth : Method} {c : Code} {H : Heap} {locs : List Loc} {cells slots : Nat} {Q : State → Prop} {ls : Array Slot} {G : va_G} {cI cJ cO : ClassId} {A : Nat → Prop} {b L : Nat} {xs : Nat → Int32} {aK aV : Nat → Nat} {hm ho hc : Nat} {i : Int} (hC : LAWc p l s m args c A b L xs aK aV) (hJ : JJ G cI cJ cO A s hm ho hc H locs) (hl : lv_has ls 7 (lvL b hc hm ho i)) (hi : 0 ≤ i ∧ i + 6 ≤ L) (hf : cells ≤ room_1.cells ∧ slots ≤ room_1.slots) (kk : ∀ (H : Heap) (locs : List Loc), JJ G cI cJ cO A s hm ho hc H locs → W p l e room_1 s m args below meth c H locs cells slots Q (F0 m 936 ls [])) : W p l e room_1 s m args below meth c H locs cells slots Q (F0 m 140 ls []) := by
  have F := hC.1
  have hx := F.1
  have hb := F.2.1
  have hA := hC.2.2.1
  obtain ⟨q, v, a, fo, qc, vc, ac, qf, vf, af, qd, vd, ad, qo, vo, ao, qy, vy, ay, qw, vw, aw, qu, vu, au, qz, vz, az, qB, vB, aB, gB, qv, vv, av, qE, VE, aE, qb, vb, ab, gb, qx, vx, ax, qe, Ve, ae, hF, hW⟩ := hJ
  obtain ⟨hG, hCl, ⟨hb3, hb4, hc8, hc9⟩, ⟨hf1, ht0, ht1, hf0, hBy⟩, hy3, hch, hVE⟩ := id hF
  have hWF := hG.1
  obtain ⟨w0, w1, w2, hV, hls⟩ := id hWF
  obtain ⟨z1, r1, e1⟩ := iI_ex (xs (i + 1).toNat)
  obtain ⟨z2, r2, e2⟩ := iI_ex (xs (i + 2).toNat)
  obtain ⟨z3, r3, e3⟩ := iI_ex (xs (i + 3).toNat)
  obtain ⟨z4, r4, e4⟩ := iI_ex (xs (i + 4).toNat)
  obtain ⟨z5, r5, e5⟩ := iI_ex (xs (i + 5).toNat)
  refine lv_aload_n hx hb dL_law_140 rfl (lv_at hl 1 rfl) ?_
  refine zs_arg (lv := []) hC hW hl (n := 1) ⟨by omega, by omega⟩ e1 dL_law_141 dL_law_142 dL_law_144 dL_law_145 dL_law_146 ?_
  refine zs_arg (lv := []) hC hW hl (n := 2) ⟨by omega, by omega⟩ e2 dL_law_147 dL_law_148 dL_law_150 dL_law_151 dL_law_152 ?_
  refine zs_arg (lv := []) hC hW hl (n := 3) ⟨by omega, by omega⟩ e3 dL_law_153 dL_law_154 dL_law_156 dL_law_157 dL_law_158 ?_
  refine zs_arg (lv := []) hC hW hl (n := 4) ⟨by omega, by omega⟩ e4 dL_law_159 dL_law_160 dL_law_162 dL_law_163 dL_law_164 ?_
  refine zs_arg (lv := []) hC hW hl (n := 5) ⟨by omega, by omega⟩ e5 dL_law_165 dL_law_166 dL_law_168 dL_law_169 dL_law_170 ?_
  have hW : zW G (tyZ cI cJ cO) A s ((dO cI cJ hc qc vc ac) ++ (tW cI cJ (qc 0) qf vf af) ++ [mW cI cJ hm q v a, oW cJ ho fo, rW cI cJ (qc 1) qd vd ad, sW cI cJ (qd 0) qo vo ao, aW cI cJ (qc 2) qy vy ay, kO cI cJ (qc 3) qw vw aw, iW cI cJ (qc 3) qw vw aw, kO cI cJ (qc 4) qu vu au, iW cI cJ (qc 4) qu vu au, pW cI cJ (qc 5) qz vz az, bO cI cJ (qc 6) qB vB aB, gW cO (qB 1) gB, vW cI cJ (qB 0) qv vv av, SIX (LEs cI cJ gB qE VE aE), bO cI cJ (qc 7) qb vb ab, gW cO (qb 1) gb, vW cI cJ (qb 0) qx vx ax, SIX (LEs cI cJ gb qe Ve ae)].flatten) H locs := by
    have h9 := hW.pickN 20 [2, 3, 0, 1, 4, 5, 6, 7, 8, 9, 10, 11, 12, 13, 14, 15, 16, 17, 18, 19] (by decide) rfl [dO cI cJ hc qc vc ac, tW cI cJ (qc 0) qf vf af, mW cI cJ hm q v a, oW cJ ho fo, rW cI cJ (qc 1) qd vd ad, sW cI cJ (qd 0) qo vo ao, aW cI cJ (qc 2) qy vy ay, kO cI cJ (qc 3) qw vw aw, iW cI cJ (qc 3) qw vw aw, kO cI cJ (qc 4) qu vu au, iW cI cJ (qc 4) qu vu au, pW cI cJ (qc 5) qz vz az, bO cI cJ (qc 6) qB vB aB, gW cO (qB 1) gB, vW cI cJ (qB 0) qv vv av, SIX (LEs cI cJ gB qE VE aE), bO cI cJ (qc 7) qb vb ab, gW cO (qb 1) gb, vW cI cJ (qb 0) qx vx ax, SIX (LEs cI cJ gb qe Ve ae)] rfl
    simpa only [List.flatten_cons, List.append_assoc] using h9
  refine zf_callV (n := 5) (As := [.int (iI z1), .int (iI z2), .int (iI z3), .int (iI z4), .int (iI z5)]) (rest := []) F (c_X10_feed hc qc vc ac qf vf af z1 z2 z3 z4 z5 (by omega)) gL_law_X10_feed rfl (by decide +kernel) ⟨rfl, rfl, by decide, by decide⟩ rfl hl.1 rfl (Nat.le_of_ble_eq_true rfl) dL_law_171 hf hW hA (fun _ => rfl) (fun u => .int (iI (if vf 1 + 20 ≤ 640 then vf 1 + 20 else -1)) :: []) (fun _ => rfl) rfl rfl rfl (fun u H locs hpu hW => ?_)
  have hW : zW G (tyZ cI cJ cO) A s [mW cI cJ hm q v a, oW cJ ho fo, dO cI cJ hc qc vc ac, tW cI cJ (qc 0) qf ((uV vf 1 u.1)) ((uA af 0 u.2)), rW cI cJ (qc 1) qd vd ad, sW cI cJ (qd 0) qo vo ao, aW cI cJ (qc 2) qy vy ay, kO cI cJ (qc 3) qw vw aw, iW cI cJ (qc 3) qw vw aw, kO cI cJ (qc 4) qu vu au, iW cI cJ (qc 4) qu vu au, pW cI cJ (qc 5) qz vz az, bO cI cJ (qc 6) qB vB aB, gW cO (qB 1) gB, vW cI cJ (qB 0) qv vv av, SIX (LEs cI cJ gB qE VE aE), bO cI cJ (qc 7) qb vb ab, gW cO (qb 1) gb, vW cI cJ (qb 0) qx vx ax, SIX (LEs cI cJ gb qe Ve ae)].flatten H locs := by
    have h9 : zW G (tyZ cI cJ cO) A s [dO cI cJ hc qc vc ac, tW cI cJ (qc 0) qf ((uV vf 1 u.1)) ((uA af 0 u.2)), mW cI cJ hm q v a, oW cJ ho fo, rW cI cJ (qc 1) qd vd ad, sW cI cJ (qd 0) qo vo ao, aW cI cJ (qc 2) qy vy ay, kO cI cJ (qc 3) qw vw aw, iW cI cJ (qc 3) qw vw aw, kO cI cJ (qc 4) qu vu au, iW cI cJ (qc 4) qu vu au, pW cI cJ (qc 5) qz vz az, bO cI cJ (qc 6) qB vB aB, gW cO (qB 1) gB, vW cI cJ (qB 0) qv vv av, SIX (LEs cI cJ gB qE VE aE), bO cI cJ (qc 7) qb vb ab, gW cO (qb 1) gb, vW cI cJ (qb 0) qx vx ax, SIX (LEs cI cJ gb qe Ve ae)].flatten H locs := by simpa only [List.flatten_cons, List.append_assoc] using hW
    exact h9.pickN 20 [2, 3, 0, 1, 4, 5, 6, 7, 8, 9, 10, 11, 12, 13, 14, 15, 16, 17, 18, 19] (by decide) rfl _ rfl
  refine lv_aload_n hx hb dL_law_174 rfl (lv_at hl 2 rfl) ?_
  refine zs_arg (lv := []) hC hW hl (n := 1) ⟨by omega, by omega⟩ e1 dL_law_175 dL_law_176 dL_law_178 dL_law_179 dL_law_180 ?_
  refine zs_arg (lv := []) hC hW hl (n := 2) ⟨by omega, by omega⟩ e2 dL_law_181 dL_law_182 dL_law_184 dL_law_185 dL_law_186 ?_
  refine zs_arg (lv := []) hC hW hl (n := 3) ⟨by omega, by omega⟩ e3 dL_law_187 dL_law_188 dL_law_190 dL_law_191 dL_law_192 ?_
  refine zs_arg (lv := []) hC hW hl (n := 4) ⟨by omega, by omega⟩ e4 dL_law_193 dL_law_194 dL_law_196 dL_law_197 dL_law_198 ?_
  refine zs_arg (lv := []) hC hW hl (n := 5) ⟨by omega, by omega⟩ e5 dL_law_199 dL_law_200 dL_law_202 dL_law_203 dL_law_204 ?_
  have hW : zW G (tyZ cI cJ cO) A s ((mW cI cJ hm q v a) ++ [oW cJ ho fo, dO cI cJ hc qc vc ac, tW cI cJ (qc 0) qf ((uV vf 1 u.1)) ((uA af 0 u.2)), rW cI cJ (qc 1) qd vd ad, sW cI cJ (qd 0) qo vo ao, aW cI cJ (qc 2) qy vy ay, kO cI cJ (qc 3) qw vw aw, iW cI cJ (qc 3) qw vw aw, kO cI cJ (qc 4) qu vu au, iW cI cJ (qc 4) qu vu au, pW cI cJ (qc 5) qz vz az, bO cI cJ (qc 6) qB vB aB, gW cO (qB 1) gB, vW cI cJ (qB 0) qv vv av, SIX (LEs cI cJ gB qE VE aE), bO cI cJ (qc 7) qb vb ab, gW cO (qb 1) gb, vW cI cJ (qb 0) qx vx ax, SIX (LEs cI cJ gb qe Ve ae)].flatten) H locs := hW
  refine zf_callV (n := 5) (As := [.int (iI z1), .int (iI z2), .int (iI z3), .int (iI z4), .int (iI z5)]) (rest := [.int (iI (if vf 1 + 20 ≤ 640 then vf 1 + 20 else -1))]) F (c_feed hm q v a z1 z2 z3 z4 z5 (by omega)) gL_law_X11_feed rfl (by decide +kernel) ⟨rfl, rfl, by decide, by decide⟩ rfl hl.1 rfl (Nat.le_of_ble_eq_true rfl) dL_law_205 hf hW hA (fun _ => rfl) (fun w => .int (iI (if v 2 + 20 ≤ 640 then v 2 + 20 else -1)) :: [.int (iI (if vf 1 + 20 ≤ 640 then vf 1 + 20 else -1))]) (fun _ => rfl) rfl rfl rfl (fun w H locs hpw hW => ?_)
  rw [hf1, hf0] at hpu
  have hu : u.1 = w.1 ∧ u.2 = w.2 ∧ (0 ≤ w.1 ∧ w.1 ≤ 640) ∧ BYS w.2 := by
    by_cases hq : v 2 + 20 ≤ 640
    · obtain ⟨a1, a2⟩ := hpu.1 hq
      obtain ⟨b1, b2⟩ := hpw.1 hq
      refine ⟨by rw [a1, b1], by rw [a2, b2], by omega, ?_⟩
      rw [b2]
      exact LAY_R (LAY_R (LAY_R (LAY_R (LAY_R hBy))))
    · obtain ⟨a1, a2⟩ := hpu.2 hq
      obtain ⟨b1, b2⟩ := hpw.2 hq
      exact ⟨by rw [a1, b1], by rw [a2, b2], by omega, by rw [b2]; exact hBy⟩
  refine zs_eq hC (by rw [hf1]) dL_law_208 (by decide) ?_
  exact kk H locs ⟨q, (uV (uV v 0 0) 2 w.1), (uA a 1 w.2), fo, qc, vc, ac, qf, (uV vf 1 u.1), (uA af 0 u.2), qd, vd, ad, qo, vo, ao, qy, vy, ay, qw, vw, aw, qu, vu, au, qz, vz, az, qB, vB, aB, gB, qv, vv, av, qE, VE, aE, qb, vb, ab, gb, qx, vx, ax, qe, Ve, ae, ⟨hG, hCl, ⟨hb3, hb4, hc8, hc9⟩, ⟨hu.1, hu.2.2.1.1, hu.2.2.1.2, hu.2.1, hu.2.2.2⟩, hy3, hch, hVE⟩, hW⟩
set_option maxHeartbeats 4000000 in
set_option maxRecDepth 100000 in
theorem law_now {p : Program} {l : Launch} {e : Env} {s : State} {m : MethodId} {args : Array Value} {below : List Frame} {meth : Method} {c : Code} {H : Heap} {locs : List Loc} {cells slots : Nat} {Q : State → Prop} {ls : Array Slot} {G : va_G} {cI cJ cO : ClassId} {A : Nat → Prop} {b L : Nat} {xs : Nat → Int32} {aK aV : Nat → Nat} {hm ho hc : Nat} {i : Int} (hC : LAWc p l s m args c A b L xs aK aV) (hJ : JJ G cI cJ cO A s hm ho hc H locs) (hl : lv_has ls 7 (lvL b hc hm ho i)) (hi : 0 ≤ i ∧ i + 6 ≤ L) (hf : cells ≤ room_1.cells ∧ slots ≤ room_1.slots) (kk : ∀ (H : Heap) (locs : List Loc), JJ G cI cJ cO A s hm ho hc H locs → W p l e room_1 s m args below meth c H locs cells slots Q (F0 m 936 ls [])) : W p l e room_1 s m args below meth c H locs cells slots Q (F0 m 264 ls []) := by
  have F := hC.1
  have hx := F.1
  have hb := F.2.1
  have hA := hC.2.2.1
  obtain ⟨q, v, a, fo, qc, vc, ac, qf, vf, af, qd, vd, ad, qo, vo, ao, qy, vy, ay, qw, vw, aw, qu, vu, au, qz, vz, az, qB, vB, aB, gB, qv, vv, av, qE, VE, aE, qb, vb, ab, gb, qx, vx, ax, qe, Ve, ae, hF, hW⟩ := hJ
  obtain ⟨hG, hCl, ⟨hb3, hb4, hc8, hc9⟩, ⟨hf1, ht0, ht1, hf0, hBy⟩, hy3, hch, hVE⟩ := id hF
  have hWF := hG.1
  obtain ⟨w0, w1, w2, hV, hls⟩ := id hWF
  obtain ⟨z1, r1, e1⟩ := iI_ex (xs (i + 1).toNat)
  refine lv_aload_n hx hb dL_law_264 rfl (lv_at hl 1 rfl) ?_
  refine zs_arg (lv := []) hC hW hl (n := 1) ⟨by omega, by omega⟩ e1 dL_law_265 dL_law_266 dL_law_268 dL_law_269 dL_law_270 ?_
  have hW : zW G (tyZ cI cJ cO) A s ((dO cI cJ hc qc vc ac) ++ ((tW cI cJ (qc 0) qf vf af) ++ ((aW cI cJ (qc 2) qy vy ay) ++ ((bO cI cJ (qc 6) qB vB aB) ++ (vW cI cJ (qB 0) qv vv av)))) ++ [mW cI cJ hm q v a, oW cJ ho fo, rW cI cJ (qc 1) qd vd ad, sW cI cJ (qd 0) qo vo ao, kO cI cJ (qc 3) qw vw aw, iW cI cJ (qc 3) qw vw aw, kO cI cJ (qc 4) qu vu au, iW cI cJ (qc 4) qu vu au, pW cI cJ (qc 5) qz vz az, gW cO (qB 1) gB, SIX (LEs cI cJ gB qE VE aE), bO cI cJ (qc 7) qb vb ab, gW cO (qb 1) gb, vW cI cJ (qb 0) qx vx ax, SIX (LEs cI cJ gb qe Ve ae)].flatten) H locs := by
    have h9 := hW.pickN 20 [2, 3, 6, 12, 14, 0, 1, 4, 5, 7, 8, 9, 10, 11, 13, 15, 16, 17, 18, 19] (by decide) rfl [dO cI cJ hc qc vc ac, tW cI cJ (qc 0) qf vf af, aW cI cJ (qc 2) qy vy ay, bO cI cJ (qc 6) qB vB aB, vW cI cJ (qB 0) qv vv av, mW cI cJ hm q v a, oW cJ ho fo, rW cI cJ (qc 1) qd vd ad, sW cI cJ (qd 0) qo vo ao, kO cI cJ (qc 3) qw vw aw, iW cI cJ (qc 3) qw vw aw, kO cI cJ (qc 4) qu vu au, iW cI cJ (qc 4) qu vu au, pW cI cJ (qc 5) qz vz az, gW cO (qB 1) gB, SIX (LEs cI cJ gB qE VE aE), bO cI cJ (qc 7) qb vb ab, gW cO (qb 1) gb, vW cI cJ (qb 0) qx vx ax, SIX (LEs cI cJ gb qe Ve ae)] rfl
    simpa only [List.flatten_cons, List.append_assoc] using h9
  refine zf_callV (n := 1) (As := [.int (iI z1)]) (rest := []) F (c_X10_now hc qc vc ac qf vf af qy vy ay qB vB aB qv vv av z1 r1) gL_law_X10_now rfl (by decide +kernel) ⟨rfl, rfl, by decide, by decide⟩ rfl hl.1 rfl (Nat.le_of_ble_eq_true rfl) dL_law_271 hf hW hA (fun _ => rfl) (fun u => .int (iI (if z1 = 0 then vc 8 else if z1 = 1 then vB 3 else if z1 = 2 then vB 4 else if z1 = 3 then vv 2 else if z1 = 4 then vy 3 else if z1 = 5 then vf 1 else -1)) :: []) (fun _ => rfl) rfl rfl rfl (fun u H locs hpu hW => ?_)
  have hW : zW G (tyZ cI cJ cO) A s [mW cI cJ hm q v a, oW cJ ho fo, dO cI cJ hc qc vc ac, tW cI cJ (qc 0) qf vf af, rW cI cJ (qc 1) qd vd ad, sW cI cJ (qd 0) qo vo ao, aW cI cJ (qc 2) qy vy ay, kO cI cJ (qc 3) qw vw aw, iW cI cJ (qc 3) qw vw aw, kO cI cJ (qc 4) qu vu au, iW cI cJ (qc 4) qu vu au, pW cI cJ (qc 5) qz vz az, bO cI cJ (qc 6) qB vB aB, gW cO (qB 1) gB, vW cI cJ (qB 0) qv vv av, SIX (LEs cI cJ gB qE VE aE), bO cI cJ (qc 7) qb vb ab, gW cO (qb 1) gb, vW cI cJ (qb 0) qx vx ax, SIX (LEs cI cJ gb qe Ve ae)].flatten H locs := by
    have h9 : zW G (tyZ cI cJ cO) A s [dO cI cJ hc qc vc ac, tW cI cJ (qc 0) qf vf af, aW cI cJ (qc 2) qy vy ay, bO cI cJ (qc 6) qB vB aB, vW cI cJ (qB 0) qv vv av, mW cI cJ hm q v a, oW cJ ho fo, rW cI cJ (qc 1) qd vd ad, sW cI cJ (qd 0) qo vo ao, kO cI cJ (qc 3) qw vw aw, iW cI cJ (qc 3) qw vw aw, kO cI cJ (qc 4) qu vu au, iW cI cJ (qc 4) qu vu au, pW cI cJ (qc 5) qz vz az, gW cO (qB 1) gB, SIX (LEs cI cJ gB qE VE aE), bO cI cJ (qc 7) qb vb ab, gW cO (qb 1) gb, vW cI cJ (qb 0) qx vx ax, SIX (LEs cI cJ gb qe Ve ae)].flatten H locs := by simpa only [List.flatten_cons, List.append_assoc] using hW
    exact h9.pickN 20 [5, 6, 0, 1, 7, 8, 2, 9, 10, 11, 12, 13, 3, 14, 4, 15, 16, 17, 18, 19] (by decide) rfl _ rfl
  refine lv_aload_n hx hb dL_law_274 rfl (lv_at hl 2 rfl) ?_
  refine zs_arg (lv := []) hC hW hl (n := 1) ⟨by omega, by omega⟩ e1 dL_law_275 dL_law_276 dL_law_278 dL_law_279 dL_law_280 ?_
  have hW : zW G (tyZ cI cJ cO) A s ((mW cI cJ hm q v a) ++ [oW cJ ho fo, dO cI cJ hc qc vc ac, tW cI cJ (qc 0) qf vf af, rW cI cJ (qc 1) qd vd ad, sW cI cJ (qd 0) qo vo ao, aW cI cJ (qc 2) qy vy ay, kO cI cJ (qc 3) qw vw aw, iW cI cJ (qc 3) qw vw aw, kO cI cJ (qc 4) qu vu au, iW cI cJ (qc 4) qu vu au, pW cI cJ (qc 5) qz vz az, bO cI cJ (qc 6) qB vB aB, gW cO (qB 1) gB, vW cI cJ (qB 0) qv vv av, SIX (LEs cI cJ gB qE VE aE), bO cI cJ (qc 7) qb vb ab, gW cO (qb 1) gb, vW cI cJ (qb 0) qx vx ax, SIX (LEs cI cJ gb qe Ve ae)].flatten) H locs := hW
  refine zf_callV (n := 1) (As := [.int (iI z1)]) (rest := [.int (iI (if z1 = 0 then vc 8 else if z1 = 1 then vB 3 else if z1 = 2 then vB 4 else if z1 = 3 then vv 2 else if z1 = 4 then vy 3 else if z1 = 5 then vf 1 else -1))]) F (c_now hm q v a z1 r1 hWF) gL_law_X11_now rfl (by decide +kernel) ⟨rfl, rfl, by decide, by decide⟩ rfl hl.1 rfl (Nat.le_of_ble_eq_true rfl) dL_law_281 hf hW hA (fun _ => rfl) (fun w => .int (iI (if z1 = 0 then a 11 0 else if z1 = 1 then a 11 1 else if z1 = 2 then a 11 2 else if z1 = 3 then CNTV (a 11) 240 else if z1 = 4 then v 14 else if z1 = 5 then v 2 else -1)) :: [.int (iI (if z1 = 0 then vc 8 else if z1 = 1 then vB 3 else if z1 = 2 then vB 4 else if z1 = 3 then vv 2 else if z1 = 4 then vy 3 else if z1 = 5 then vf 1 else -1))]) (fun _ => rfl) rfl rfl rfl (fun w H locs hpw hW => ?_)
  refine zs_eq hC (by rw [hc8, hb3, hb4, hCl.2.1, hy3, hf1]) dL_law_284 (by decide) ?_
  exact kk H locs ⟨q, (uV v 0 0), a, fo, qc, vc, ac, qf, vf, af, qd, vd, ad, qo, vo, ao, qy, vy, ay, qw, vw, aw, qu, vu, au, qz, vz, az, qB, vB, aB, gB, qv, vv, av, qE, VE, aE, qb, vb, ab, gb, qx, vx, ax, qe, Ve, ae, hF, hW⟩
set_option maxHeartbeats 4000000 in
set_option maxRecDepth 100000 in
theorem law_index {p : Program} {l : Launch} {e : Env} {s : State} {m : MethodId} {args : Array Value} {below : List Frame} {meth : Method} {c : Code} {H : Heap} {locs : List Loc} {cells slots : Nat} {Q : State → Prop} {ls : Array Slot} {G : va_G} {cI cJ cO : ClassId} {A : Nat → Prop} {b L : Nat} {xs : Nat → Int32} {aK aV : Nat → Nat} {hm ho hc : Nat} {i : Int} (hC : LAWc p l s m args c A b L xs aK aV) (hJ : JJ G cI cJ cO A s hm ho hc H locs) (hl : lv_has ls 7 (lvL b hc hm ho i)) (hi : 0 ≤ i ∧ i + 6 ≤ L) (hf : cells ≤ room_1.cells ∧ slots ≤ room_1.slots) (kk : ∀ (H : Heap) (locs : List Loc), JJ G cI cJ cO A s hm ho hc H locs → W p l e room_1 s m args below meth c H locs cells slots Q (F0 m 936 ls [])) : W p l e room_1 s m args below meth c H locs cells slots Q (F0 m 357 ls []) := by
  have F := hC.1
  have hx := F.1
  have hb := F.2.1
  have hA := hC.2.2.1
  obtain ⟨q, v, a, fo, qc, vc, ac, qf, vf, af, qd, vd, ad, qo, vo, ao, qy, vy, ay, qw, vw, aw, qu, vu, au, qz, vz, az, qB, vB, aB, gB, qv, vv, av, qE, VE, aE, qb, vb, ab, gb, qx, vx, ax, qe, Ve, ae, hF, hW⟩ := hJ
  obtain ⟨hG, hCl, ⟨hb3, hb4, hc8, hc9⟩, ⟨hf1, ht0, ht1, hf0, hBy⟩, hy3, hch, hVE⟩ := id hF
  have hWF := hG.1
  obtain ⟨w0, w1, w2, hV, hls⟩ := id hWF
  obtain ⟨z1, r1, e1⟩ := iI_ex (xs (i + 1).toNat)
  obtain ⟨z2, r2, e2⟩ := iI_ex (xs (i + 2).toNat)
  refine lv_aload_n hx hb dL_law_357 rfl (lv_at hl 1 rfl) ?_
  refine zs_arg (lv := []) hC hW hl (n := 1) ⟨by omega, by omega⟩ e1 dL_law_358 dL_law_359 dL_law_361 dL_law_362 dL_law_363 ?_
  refine zs_arg (lv := []) hC hW hl (n := 2) ⟨by omega, by omega⟩ e2 dL_law_364 dL_law_365 dL_law_367 dL_law_368 dL_law_369 ?_
  have hW : zW G (tyZ cI cJ cO) A s ((dO cI cJ hc qc vc ac) ++ ((kO cI cJ (qc 3) qw vw aw) ++ ((iW cI cJ (qc 3) qw vw aw) ++ ((bO cI cJ (qc 6) qB vB aB) ++ (vW cI cJ (qB 0) qv vv av)))) ++ [mW cI cJ hm q v a, oW cJ ho fo, tW cI cJ (qc 0) qf vf af, rW cI cJ (qc 1) qd vd ad, sW cI cJ (qd 0) qo vo ao, aW cI cJ (qc 2) qy vy ay, kO cI cJ (qc 4) qu vu au, iW cI cJ (qc 4) qu vu au, pW cI cJ (qc 5) qz vz az, gW cO (qB 1) gB, SIX (LEs cI cJ gB qE VE aE), bO cI cJ (qc 7) qb vb ab, gW cO (qb 1) gb, vW cI cJ (qb 0) qx vx ax, SIX (LEs cI cJ gb qe Ve ae)].flatten) H locs := by
    have h9 := hW.pickN 20 [2, 7, 8, 12, 14, 0, 1, 3, 4, 5, 6, 9, 10, 11, 13, 15, 16, 17, 18, 19] (by decide) rfl [dO cI cJ hc qc vc ac, kO cI cJ (qc 3) qw vw aw, iW cI cJ (qc 3) qw vw aw, bO cI cJ (qc 6) qB vB aB, vW cI cJ (qB 0) qv vv av, mW cI cJ hm q v a, oW cJ ho fo, tW cI cJ (qc 0) qf vf af, rW cI cJ (qc 1) qd vd ad, sW cI cJ (qd 0) qo vo ao, aW cI cJ (qc 2) qy vy ay, kO cI cJ (qc 4) qu vu au, iW cI cJ (qc 4) qu vu au, pW cI cJ (qc 5) qz vz az, gW cO (qB 1) gB, SIX (LEs cI cJ gB qE VE aE), bO cI cJ (qc 7) qb vb ab, gW cO (qb 1) gb, vW cI cJ (qb 0) qx vx ax, SIX (LEs cI cJ gb qe Ve ae)] rfl
    simpa only [List.flatten_cons, List.append_assoc] using h9
  refine zf_callV (n := 2) (As := [.int (iI z1), .int (iI z2)]) (rest := []) F (c_X10_index (a 11) hc qc vc ac qw vw aw qB vB aB qv vv av z1 z2 r1 r2 hWF hCl.1) gL_law_X10_index rfl (by decide +kernel) ⟨rfl, rfl, by decide, by decide⟩ rfl hl.1 rfl (Nat.le_of_ble_eq_true rfl) dL_law_370 hf hW hA (fun _ => rfl) (fun u => .int (iI (A_index (a 11) z1 z2)) :: []) (fun _ => rfl) rfl rfl rfl (fun u H locs hpu hW => ?_)
  have hW : zW G (tyZ cI cJ cO) A s [mW cI cJ hm q v a, oW cJ ho fo, dO cI cJ hc qc vc ac, tW cI cJ (qc 0) qf vf af, rW cI cJ (qc 1) qd vd ad, sW cI cJ (qd 0) qo vo ao, aW cI cJ (qc 2) qy vy ay, kO cI cJ (qc 3) qw ((mk6 u.1 u.2.1 u.2.2.1 u.2.2.2.1 u.2.2.2.2.1 u.2.2.2.2.2.1)) ((uA aw 0 u.2.2.2.2.2.2)), iW cI cJ (qc 3) qw ((mk6 u.1 u.2.1 u.2.2.1 u.2.2.2.1 u.2.2.2.2.1 u.2.2.2.2.2.1)) ((uA aw 0 u.2.2.2.2.2.2)), kO cI cJ (qc 4) qu vu au, iW cI cJ (qc 4) qu vu au, pW cI cJ (qc 5) qz vz az, bO cI cJ (qc 6) qB vB aB, gW cO (qB 1) gB, vW cI cJ (qB 0) qv vv av, SIX (LEs cI cJ gB qE VE aE), bO cI cJ (qc 7) qb vb ab, gW cO (qb 1) gb, vW cI cJ (qb 0) qx vx ax, SIX (LEs cI cJ gb qe Ve ae)].flatten H locs := by
    have h9 : zW G (tyZ cI cJ cO) A s [dO cI cJ hc qc vc ac, kO cI cJ (qc 3) qw ((mk6 u.1 u.2.1 u.2.2.1 u.2.2.2.1 u.2.2.2.2.1 u.2.2.2.2.2.1)) ((uA aw 0 u.2.2.2.2.2.2)), iW cI cJ (qc 3) qw ((mk6 u.1 u.2.1 u.2.2.1 u.2.2.2.1 u.2.2.2.2.1 u.2.2.2.2.2.1)) ((uA aw 0 u.2.2.2.2.2.2)), bO cI cJ (qc 6) qB vB aB, vW cI cJ (qB 0) qv vv av, mW cI cJ hm q v a, oW cJ ho fo, tW cI cJ (qc 0) qf vf af, rW cI cJ (qc 1) qd vd ad, sW cI cJ (qd 0) qo vo ao, aW cI cJ (qc 2) qy vy ay, kO cI cJ (qc 4) qu vu au, iW cI cJ (qc 4) qu vu au, pW cI cJ (qc 5) qz vz az, gW cO (qB 1) gB, SIX (LEs cI cJ gB qE VE aE), bO cI cJ (qc 7) qb vb ab, gW cO (qb 1) gb, vW cI cJ (qb 0) qx vx ax, SIX (LEs cI cJ gb qe Ve ae)].flatten H locs := by simpa only [List.flatten_cons, List.append_assoc] using hW
    exact h9.pickN 20 [5, 6, 0, 7, 8, 9, 10, 1, 2, 11, 12, 13, 3, 14, 4, 15, 16, 17, 18, 19] (by decide) rfl _ rfl
  refine lv_aload_n hx hb dL_law_373 rfl (lv_at hl 2 rfl) ?_
  refine zs_arg (lv := []) hC hW hl (n := 1) ⟨by omega, by omega⟩ e1 dL_law_374 dL_law_375 dL_law_377 dL_law_378 dL_law_379 ?_
  refine zs_arg (lv := []) hC hW hl (n := 2) ⟨by omega, by omega⟩ e2 dL_law_380 dL_law_381 dL_law_383 dL_law_384 dL_law_385 ?_
  have hW : zW G (tyZ cI cJ cO) A s ((mW cI cJ hm q v a) ++ [oW cJ ho fo, dO cI cJ hc qc vc ac, tW cI cJ (qc 0) qf vf af, rW cI cJ (qc 1) qd vd ad, sW cI cJ (qd 0) qo vo ao, aW cI cJ (qc 2) qy vy ay, kO cI cJ (qc 3) qw ((mk6 u.1 u.2.1 u.2.2.1 u.2.2.2.1 u.2.2.2.2.1 u.2.2.2.2.2.1)) ((uA aw 0 u.2.2.2.2.2.2)), iW cI cJ (qc 3) qw ((mk6 u.1 u.2.1 u.2.2.1 u.2.2.2.1 u.2.2.2.2.1 u.2.2.2.2.2.1)) ((uA aw 0 u.2.2.2.2.2.2)), kO cI cJ (qc 4) qu vu au, iW cI cJ (qc 4) qu vu au, pW cI cJ (qc 5) qz vz az, bO cI cJ (qc 6) qB vB aB, gW cO (qB 1) gB, vW cI cJ (qB 0) qv vv av, SIX (LEs cI cJ gB qE VE aE), bO cI cJ (qc 7) qb vb ab, gW cO (qb 1) gb, vW cI cJ (qb 0) qx vx ax, SIX (LEs cI cJ gb qe Ve ae)].flatten) H locs := hW
  refine zf_callV (n := 2) (As := [.int (iI z1), .int (iI z2)]) (rest := [.int (iI (A_index (a 11) z1 z2))]) F (c_index hm q v a z1 z2 r1 r2 hWF) gL_law_X11_index rfl (by decide +kernel) ⟨rfl, rfl, by decide, by decide⟩ rfl hl.1 rfl (Nat.le_of_ble_eq_true rfl) dL_law_386 hf hW hA (fun _ => rfl) (fun w => .int (iI (A_index (a 11) z1 z2)) :: [.int (iI (A_index (a 11) z1 z2))]) (fun _ => rfl) rfl rfl rfl (fun w H locs hpw hW => ?_)
  refine zs_eq hC (rfl) dL_law_389 (by decide) ?_
  exact kk H locs ⟨q, (uV v 0 0), a, fo, qc, vc, ac, qf, vf, af, qd, vd, ad, qo, vo, ao, qy, vy, ay, qw, (mk6 u.1 u.2.1 u.2.2.1 u.2.2.2.1 u.2.2.2.2.1 u.2.2.2.2.2.1), (uA aw 0 u.2.2.2.2.2.2), qu, vu, au, qz, vz, az, qB, vB, aB, gB, qv, vv, av, qE, VE, aE, qb, vb, ab, gb, qx, vx, ax, qe, Ve, ae, hF, hW⟩
