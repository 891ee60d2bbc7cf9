/-! the class: markets, turnovers, breaks -/
theorem hiX10_market_X10 : ∀ w ∈ wsX100, w ∈ wsX10_market := fun _ h => List.mem_cons_of_mem _ (List.mem_append_left _ (List.mem_append_left _ (List.mem_append_left _ (List.mem_append_right _ h))))
theorem hiX10_market_X2 : ∀ w ∈ wsX20, w ∈ wsX10_market := fun _ h => List.mem_cons_of_mem _ (List.mem_append_left _ (List.mem_append_left _ (List.mem_append_right _ h)))
theorem hiX10_market_X1 : ∀ w ∈ wsX10, w ∈ wsX10_market := fun _ h => List.mem_cons_of_mem _ (List.mem_append_left _ (List.mem_append_right _ h))
theorem hiX10_market_X0 : ∀ w ∈ wsX00, w ∈ wsX10_market := fun _ h => List.mem_cons_of_mem _ (List.mem_append_right _ h)
theorem ziX10_market : yX10_market.cls = RX10 ∧ yX10_market.cls ≠ "java/lang/invoke/MethodHandle" ∧ yX10_market.cls ≠ "java/lang/invoke/VarHandle" ∧ (parseMethodDescriptor yX10_market.desc).map (fun d => d.parameters.length) = some 3 := by decide +kernel
set_option maxHeartbeats 4000000 in
set_option maxRecDepth 100000 in
theorem c_X10_market {l : Launch} {G : va_G} {cI cJ cO : ClassId} (N : Int → Int) (hc : Nat) (qc : Nat → Nat) (vc : Nat → Int) (ac : Nat → Int → Int) (qy : Nat → Nat) (vy : Nat → Int) (ay : Nat → Int → Int) (qB : Nat → Nat) (vB : Nat → Int) (aB : Nat → Int → Int) (gB : Nat → Nat) (he : Nat) (qe : Nat → Nat) (ae : Nat → Int → Int) (n r z : Int)  (h1 : -2147483648 ≤ n ∧ n < 2147483648) (h2 : -2147483648 ≤ r ∧ r < 2147483648) (h3 : -2147483648 ≤ z ∧ z < 2147483648) (hok : okM N n r z) (hnow : 0 ≤ vc 8 ∧ vc 8 ≤ 239) (hac : 0 ≤ vy 3 ∧ vy 3 ≤ 10) (hn : 0 ≤ n ∧ n < vB 4) (hg : gB n.toNat = he) (hv4 : vB 4 = N 2) (hWF : WF N) (hTR : TR N n ae) (hWb : WFb N n) : zC l yX10_market wsX10_market { frames := 3, cells := 0, slots := 0, locals := 68 } G (tyZ cI cJ cO) (S := (Int → Int) × (Int → Int) × (Int → Int) × Int) [.ref hc, .int (iI n), .int (iI r), .int (iI z)] ((dO cI cJ hc qc vc ac) ++ ((aW cI cJ (qc 2) qy vy ay) ++ ((bO cI cJ (qc 6) qB vB aB) ++ ((gW cO (qB 1) gB) ++ (lW cI cJ he qe (LVf N n) ae))))) (zI (fun _ => LF N n 0 + r * LF N n 3)) (fun u => KEPT (ay 0) (vy 3) 2 u.1 ∧ KEPT (ay 1) (vy 3) n u.2.1 ∧ KEPT (ay 2) (vy 3) r u.2.2.1 ∧ u.2.2.2 = (if vy 3 = 10 then 10 else vy 3 + 1)) (fun u => (dO cI cJ hc qc vc ac) ++ ((aW cI cJ (qc 2) qy (uV vy 3 u.2.2.2) (uA (uA (uA ay 0 u.1) 1 u.2.1) 2 u.2.2.1)) ++ ((bO cI cJ (qc 6) qB vB (uA aB 2 (uI (aB 2) (vc 8) (aB 2 (vc 8) + 1)))) ++ ((gW cO (qB 1) gB) ++ (lW cI cJ he qe (LVf N n) (uA (uA ae 2 (uI (ae 2) r z)) 3 (uI (ae 3) r (vc 8)))))))) 0 0 := by
  refine z_start (cc := cX10_market) (maxL := 5) (ret := (some .int)) (by decide) rfl (Nat.le_of_ble_eq_true rfl) ?_
  intro p e s m below meth c A ls F hr hlk hnm hAe hA hW hl
  have hx := F.1
  have hb := F.2.1
  have hown : s.vm.findClass RX10 = some m.cls := F.2.2.2.1
  have hts := F.2.2.2.2
  have hl : lv_has ls 5 [(0, .ref hc), (1, .int (iI n)), (2, .int (iI r)), (3, .int (iI z))] := hl
  obtain ⟨w0, w1, w2, hV, hls⟩ := id hWF
  obtain ⟨hL, hT⟩ := hls n (by omega) (by omega)
  obtain ⟨l0, l1, l2, l3, l4, l5, l6, l7, l8, l9, l10, l11, l12, l13, l14, l15⟩ := id hL
  have hRv := REV_R hL
  obtain ⟨k1, k2, k3, k4, k5⟩ := id hok
  have tr := (hTR r (by omega) (by omega)).1 k2
  have e3 : ae 3 r = 240 := by rw [tr.1]; exact if_neg k5
  refine lv_aload_n hx hb dX10_market_0 rfl (lv_at hl 0 rfl) ?_
  refine z_get (v := .ref (qc 6)) hx hb hts hiX10_market_X10 hown hW 0 6 1 rfl rfl rfl (by decide) rfl dX10_market_1 ?_
  refine lv_iload_n hx hb dX10_market_4 rfl (lv_at hl 1 rfl) ?_
  refine z_callV (As := [.int (iI n)]) (rest := []) F (c_X1_leaseAt  (qc 6) qB vB aB gB n  (show -2147483648 ≤ n ∧ n < 2147483648 by omega) (show 0 ≤ (vB 4) ∧ (vB 4) ≤ 6 by omega)) gX10_market_X1_leaseAt rfl ziX1_leaseAt ⟨rfl, rfl, by decide, by decide⟩ rfl hl.1 rfl (Nat.le_of_ble_eq_true rfl) dX10_market_5 ⟨Nat.zero_le _, Nat.zero_le _⟩ hW hA [5, 6, 7] rfl (by decide) (fun _ => rfl) (fun _ => (dO cI cJ hc qc vc ac) ++ ((aW cI cJ (qc 2) qy vy ay) ++ ((bO cI cJ (qc 6) qB vB aB) ++ ((gW cO (qB 1) gB) ++ (lW cI cJ he qe (LVf N n) ae))))) (fun _ => rfl) (fun _ => [va_rf (if 0 ≤ n ∧ n < (vB 4) then some (gB n.toNat) else none)]) (fun _ => rfl) 5 rfl rfl rfl (fun _ H locs hp5 hW => ?_)
  rw [if_pos (show 0 ≤ n ∧ n < vB 4 by omega), hg]
  refine W.eq (g2 := F0 m 8 ls [.ref he]) rfl ?_
  refine lv_astore (lv' := [(4, .ref he), (0, .ref hc), (1, .int (iI n)), (2, .int (iI r)), (3, .int (iI z))]) hx hb dX10_market_8 hl (by decide) rfl (fun ls hl => ?_)
  refine lv_aload hx hb dX10_market_10 (lv_at hl 0 rfl) ?_
  refine lv_ifnull hx hb dX10_market_12 ?_
  refine lv_aload hx hb dX10_market_15 (lv_at hl 0 rfl) ?_
  refine z_get (v := .int (iI (LF N n 5))) hx hb hts hiX10_market_X2 hown hW 8 9 2 rfl rfl rfl (by decide) rfl dX10_market_17 ?_
  refine z_iconst (n := 2) hx hb dX10_market_20 ?_
  refine z_icmp_ne (tgt := 33) hx hb dX10_market_21 (by decide) ⟨by omega, by omega⟩ (by decide) (fun c21 => ?_) (fun c21 => ?_)
  · exfalso; omega
  · refine lv_aload hx hb dX10_market_24 (lv_at hl 0 rfl) ?_
    refine lv_iload_n hx hb dX10_market_26 rfl (lv_at hl 3 rfl) ?_
    refine z_callV (As := [.int (iI r)]) (rest := []) F (c_X2_hasReview  he qe (LVf N n) ae r (REV N n) (show -2147483648 ≤ r ∧ r < 2147483648 by omega) (show 0 ≤ (LF N n 5) ∧ (LF N n 5) ≤ 4 by omega) (show 0 ≤ (LF N n 3) ∧ (LF N n 3) ≤ 60 by omega) (show 0 ≤ (LF N n 1) ∧ (LF N n 1) ≤ 120 by omega) ⟨REVc hL, hRv.1, hRv.2.1⟩) gX10_market_X2_hasReview rfl ziX2_hasReview ⟨rfl, rfl, by decide, by decide⟩ rfl hl.1 rfl (Nat.le_of_ble_eq_true rfl) dX10_market_27 ⟨Nat.zero_le _, Nat.zero_le _⟩ hW hA [8, 9, 10, 11, 12] rfl (by decide) (fun _ => rfl) (fun _ => (dO cI cJ hc qc vc ac) ++ ((aW cI cJ (qc 2) qy vy ay) ++ ((bO cI cJ (qc 6) qB vB aB) ++ ((gW cO (qB 1) gB) ++ (lW cI cJ he qe (LVf N n) ae))))) (fun _ => rfl) (fun _ => [.int (iI (bI (1 ≤ r ∧ r ≤ (REV N n))))]) (fun _ => rfl) 8 rfl rfl rfl (fun _ H locs hp27 hW => ?_)
    refine z_b_ne (tgt := 35) hx hb dX10_market_30 (by decide) (fun c30 => ?_) (fun c30 => ?_)
    · refine lv_iload_n hx hb dX10_market_35 rfl (lv_at hl 4 rfl) ?_
      refine z_iconst (n := 1) hx hb dX10_market_36 ?_
      refine z_icmp_lt (tgt := 55) hx hb dX10_market_37 (by decide) ⟨by omega, by omega⟩ (by decide) (fun c37 => ?_) (fun c37 => ?_)
      · exfalso; omega
      · refine lv_iload_n hx hb dX10_market_40 rfl (lv_at hl 4 rfl) ?_
        refine z_ldc hx hb (99999) hown (hts _ (List.mem_of_getElem? (i := 3) rfl)) (by decide +kernel) dX10_market_41 ?_
        refine z_icmp_gt (tgt := 55) hx hb dX10_market_43 (by decide) ⟨by omega, by omega⟩ (by decide) (fun c43 => ?_) (fun c43 => ?_)
        · exfalso; omega
        · refine lv_aload hx hb dX10_market_46 (lv_at hl 0 rfl) ?_
          refine lv_iload_n hx hb dX10_market_48 rfl (lv_at hl 3 rfl) ?_
          refine z_callV (As := [.int (iI r)]) (rest := []) F (c_X2_wasTold  he qe (LVf N n) ae r  (show -2147483648 ≤ r ∧ r < 2147483648 by omega) (fun q1 q2 => (hTR _ q1 q2).2.2.1)) gX10_market_X2_wasTold rfl ziX2_wasTold ⟨rfl, rfl, by decide, by decide⟩ rfl hl.1 rfl (Nat.le_of_ble_eq_true rfl) dX10_market_49 ⟨Nat.zero_le _, Nat.zero_le _⟩ hW hA [8, 9, 10, 11, 12] rfl (by decide) (fun _ => rfl) (fun _ => (dO cI cJ hc qc vc ac) ++ ((aW cI cJ (qc 2) qy vy ay) ++ ((bO cI cJ (qc 6) qB vB aB) ++ ((gW cO (qB 1) gB) ++ (lW cI cJ he qe (LVf N n) ae))))) (fun _ => rfl) (fun _ => [.int (iI (bI ((0 ≤ r ∧ r < 120) ∧ (ae 3) r ≤ 239)))]) (fun _ => rfl) 8 rfl rfl rfl (fun _ H locs hp49 hW => ?_)
          refine z_b_eq (tgt := 57) hx hb dX10_market_52 (by decide) (fun c52 => ?_) (fun c52 => ?_)
          · refine lv_aload_n hx hb dX10_market_57 rfl (lv_at hl 1 rfl) ?_
            refine lv_aload hx hb dX10_market_58 (lv_at hl 0 rfl) ?_
            refine lv_iload_n hx hb dX10_market_60 rfl (lv_at hl 2 rfl) ?_
            refine lv_iload_n hx hb dX10_market_61 rfl (lv_at hl 3 rfl) ?_
            refine lv_iload_n hx hb dX10_market_62 rfl (lv_at hl 4 rfl) ?_
            refine z_callV (As := [.ref he, .int (iI n), .int (iI r), .int (iI z)]) (rest := []) F (c_X10_tellOfLease  hc qc vc ac qy vy ay qB vB aB he qe (LVf N n) ae n r z  (show 0 ≤ r ∧ r < 120 by omega) (show 0 ≤ (vc 8) ∧ (vc 8) ≤ 239 by omega) (show 0 ≤ (vy 3) ∧ (vy 3) ≤ 10 by omega)) gX10_market_X10_tellOfLease rfl ziX10_tellOfLease ⟨rfl, rfl, by decide, by decide⟩ rfl hl.1 rfl (Nat.le_of_ble_eq_true rfl) dX10_market_63 ⟨Nat.zero_le _, Nat.zero_le _⟩ hW hA [0, 1, 2, 3, 4, 5, 6, 8, 9, 10, 11, 12] rfl (by decide) (fun _ => rfl) (fun u => (dO cI cJ hc qc vc ac) ++ ((aW cI cJ (qc 2) qy (uV vy 3 u.2.2.2) (uA (uA (uA ay 0 u.1) 1 u.2.1) 2 u.2.2.1)) ++ ((bO cI cJ (qc 6) qB vB (uA aB 2 (uI ((aB 2)) ((vc 8)) ((aB 2) ((vc 8)) + 1)))) ++ ((gW cO (qB 1) gB) ++ (lW cI cJ he qe (LVf N n) (uA (uA ae 2 (uI ((ae 2)) r z)) 3 (uI ((ae 3)) r ((vc 8))))))))) (fun _ => rfl) (fun u => []) (fun _ => rfl) 0 rfl rfl rfl (fun u H locs hp63 hW => ?_)
            obtain ⟨g0_1, g1_2, g2_3, c2_4⟩ := u
            have hp63 : KEPT ((ay 0)) ((vy 3)) 2 g0_1 ∧ KEPT ((ay 1)) ((vy 3)) n g1_2 ∧ KEPT ((ay 2)) ((vy 3)) r g2_3 ∧ c2_4 = (if (vy 3) = 10 then 10 else (vy 3) + 1) := hp63
            have hW : zW G (tyZ cI cJ cO) A s ((dO cI cJ hc qc vc ac) ++ ((aW cI cJ (qc 2) qy (uV vy 3 c2_4) (uA (uA (uA ay 0 g0_1) 1 g1_2) 2 g2_3)) ++ ((bO cI cJ (qc 6) qB vB (uA aB 2 (uI ((aB 2)) ((vc 8)) ((aB 2) ((vc 8)) + 1)))) ++ ((gW cO (qB 1) gB) ++ (lW cI cJ he qe (LVf N n) (uA (uA ae 2 (uI ((ae 2)) r z)) 3 (uI ((ae 3)) r ((vc 8))))))))) H locs := hW
            refine lv_aload hx hb dX10_market_66 (lv_at hl 0 rfl) ?_
            refine lv_iload_n hx hb dX10_market_68 rfl (lv_at hl 3 rfl) ?_
            refine z_callV (As := [.int (iI r)]) (rest := []) F (c_X2_reviewMonth  he qe (LVf N n) (uA (uA ae 2 (uI ((ae 2)) r z)) 3 (uI ((ae 3)) r ((vc 8)))) r  ) gX10_market_X2_reviewMonth rfl ziX2_reviewMonth ⟨rfl, rfl, by decide, by decide⟩ rfl hl.1 rfl (Nat.le_of_ble_eq_true rfl) dX10_market_69 ⟨Nat.zero_le _, Nat.zero_le _⟩ hW hA [8, 9, 10, 11, 12] rfl (by decide) (fun _ => rfl) (fun _ => (dO cI cJ hc qc vc ac) ++ ((aW cI cJ (qc 2) qy (uV vy 3 c2_4) (uA (uA (uA ay 0 g0_1) 1 g1_2) 2 g2_3)) ++ ((bO cI cJ (qc 6) qB vB (uA aB 2 (uI ((aB 2)) ((vc 8)) ((aB 2) ((vc 8)) + 1)))) ++ ((gW cO (qB 1) gB) ++ (lW cI cJ he qe (LVf N n) (uA (uA ae 2 (uI ((ae 2)) r z)) 3 (uI ((ae 3)) r ((vc 8))))))))) (fun _ => rfl) (fun _ => [.int (iI ((LF N n 0) + r * (LF N n 3)))]) (fun _ => rfl) 8 rfl rfl rfl (fun _ H locs hp69 hW => ?_)
            exact z_iret hx hb hr hlk hW (⟨g0_1, g1_2, g2_3, c2_4⟩) rfl hp63 rfl dX10_market_72
          · exfalso; omega
    · exfalso; omega
set_option maxHeartbeats 4000000 in
set_option maxRecDepth 100000 in
theorem c_X10_market0 {l : Launch} {G : va_G} {cI cJ cO : ClassId} (N : Int → Int) (hc : Nat) (qc : Nat → Nat) (vc : Nat → Int) (ac : Nat → Int → Int) (qB : Nat → Nat) (vB : Nat → Int) (aB : Nat → Int → Int) (gB : Nat → Nat) (he : Nat) (qe : Nat → Nat) (ae : Nat → Int → Int) (n r z : Int)  (h1 : -2147483648 ≤ n ∧ n < 2147483648) (h2 : -2147483648 ≤ r ∧ r < 2147483648) (h3 : -2147483648 ≤ z ∧ z < 2147483648) (hok : ¬ okM N n r z) (hn : 0 ≤ n ∧ n < vB 4) (hg : gB n.toNat = he) (hv4 : vB 4 = N 2) (hWF : WF N) (hTR : TR N n ae) (hWb : WFb N n) : zC l yX10_market wsX10_market { frames := 3, cells := 0, slots := 0, locals := 68 } G (tyZ cI cJ cO) (S := Unit) [.ref hc, .int (iI n), .int (iI r), .int (iI z)] ((dO cI cJ hc qc vc ac) ++ ((bO cI cJ (qc 6) qB vB aB) ++ ((gW cO (qB 1) gB) ++ (lW cI cJ he qe (LVf N n) ae)))) (zI (fun _ => -1)) (fun _ => True) (fun _ => (dO cI cJ hc qc vc ac) ++ ((bO cI cJ (qc 6) qB vB aB) ++ ((gW cO (qB 1) gB) ++ (lW cI cJ he qe (LVf N n) ae)))) 0 0 := by
  refine z_start (cc := cX10_market) (maxL := 5) (ret := (some .int)) (by decide) rfl (Nat.le_of_ble_eq_true rfl) ?_
  intro p e s m below meth c A ls F hr hlk hnm hAe hA hW hl
  have hx := F.1
  have hb := F.2.1
  have hown : s.vm.findClass RX10 = some m.cls := F.2.2.2.1
  have hts := F.2.2.2.2
  have hl : lv_has ls 5 [(0, .ref hc), (1, .int (iI n)), (2, .int (iI r)), (3, .int (iI z))] := hl
  obtain ⟨w0, w1, w2, hV, hls⟩ := id hWF
  obtain ⟨hL, hT⟩ := hls n (by omega) (by omega)
  obtain ⟨l0, l1, l2, l3, l4, l5, l6, l7, l8, l9, l10, l11, l12, l13, l14, l15⟩ := id hL
  have hRv := REV_R hL
  refine lv_aload_n hx hb dX10_market_0 rfl (lv_at hl 0 rfl) ?_
  refine z_get (v := .ref (qc 6)) hx hb hts hiX10_market_X10 hown hW 0 6 1 rfl rfl rfl (by decide) rfl dX10_market_1 ?_
  refine lv_iload_n hx hb dX10_market_4 rfl (lv_at hl 1 rfl) ?_
  refine z_callV (As := [.int (iI n)]) (rest := []) F (c_X1_leaseAt  (qc 6) qB vB aB gB n  (show -2147483648 ≤ n ∧ n < 2147483648 by omega) (show 0 ≤ (vB 4) ∧ (vB 4) ≤ 6 by omega)) gX10_market_X1_leaseAt rfl ziX1_leaseAt ⟨rfl, rfl, by decide, by decide⟩ rfl hl.1 rfl (Nat.le_of_ble_eq_true rfl) dX10_market_5 ⟨Nat.zero_le _, Nat.zero_le _⟩ hW hA [1, 2, 3] rfl (by decide) (fun _ => rfl) (fun _ => (dO cI cJ hc qc vc ac) ++ ((bO cI cJ (qc 6) qB vB aB) ++ ((gW cO (qB 1) gB) ++ (lW cI cJ he qe (LVf N n) ae)))) (fun _ => rfl) (fun _ => [va_rf (if 0 ≤ n ∧ n < (vB 4) then some (gB n.toNat) else none)]) (fun _ => rfl) 1 rfl rfl rfl (fun _ H locs hp5 hW => ?_)
  rw [if_pos (show 0 ≤ n ∧ n < vB 4 by omega), hg]
  refine W.eq (g2 := F0 m 8 ls [.ref he]) rfl ?_
  refine lv_astore (lv' := [(4, .ref he), (0, .ref hc), (1, .int (iI n)), (2, .int (iI r)), (3, .int (iI z))]) hx hb dX10_market_8 hl (by decide) rfl (fun ls hl => ?_)
  refine lv_aload hx hb dX10_market_10 (lv_at hl 0 rfl) ?_
  refine lv_ifnull hx hb dX10_market_12 ?_
  refine lv_aload hx hb dX10_market_15 (lv_at hl 0 rfl) ?_
  refine z_get (v := .int (iI (LF N n 5))) hx hb hts hiX10_market_X2 hown hW 4 9 2 rfl rfl rfl (by decide) rfl dX10_market_17 ?_
  refine z_iconst (n := 2) hx hb dX10_market_20 ?_
  refine z_icmp_ne (tgt := 33) hx hb dX10_market_21 (by decide) ⟨by omega, by omega⟩ (by decide) (fun c21 => ?_) (fun c21 => ?_)
  · refine z_iconst (n := -1) hx hb dX10_market_33 ?_
    exact z_iret hx hb hr hlk hW () (by first | rfl | omega) trivial rfl dX10_market_34
  · refine lv_aload hx hb dX10_market_24 (lv_at hl 0 rfl) ?_
    refine lv_iload_n hx hb dX10_market_26 rfl (lv_at hl 3 rfl) ?_
    refine z_callV (As := [.int (iI r)]) (rest := []) F (c_X2_hasReview  he qe (LVf N n) ae r (REV N n) (show -2147483648 ≤ r ∧ r < 2147483648 by omega) (show 0 ≤ (LF N n 5) ∧ (LF N n 5) ≤ 4 by omega) (show 0 ≤ (LF N n 3) ∧ (LF N n 3) ≤ 60 by omega) (show 0 ≤ (LF N n 1) ∧ (LF N n 1) ≤ 120 by omega) ⟨REVc hL, hRv.1, hRv.2.1⟩) gX10_market_X2_hasReview rfl ziX2_hasReview ⟨rfl, rfl, by decide, by decide⟩ rfl hl.1 rfl (Nat.le_of_ble_eq_true rfl) dX10_market_27 ⟨Nat.zero_le _, Nat.zero_le _⟩ hW hA [4, 5, 6, 7, 8] rfl (by decide) (fun _ => rfl) (fun _ => (dO cI cJ hc qc vc ac) ++ ((bO cI cJ (qc 6) qB vB aB) ++ ((gW cO (qB 1) gB) ++ (lW cI cJ he qe (LVf N n) ae)))) (fun _ => rfl) (fun _ => [.int (iI (bI (1 ≤ r ∧ r ≤ (REV N n))))]) (fun _ => rfl) 4 rfl rfl rfl (fun _ H locs hp27 hW => ?_)
    refine z_b_ne (tgt := 35) hx hb dX10_market_30 (by decide) (fun c30 => ?_) (fun c30 => ?_)
    · refine lv_iload_n hx hb dX10_market_35 rfl (lv_at hl 4 rfl) ?_
      refine z_iconst (n := 1) hx hb dX10_market_36 ?_
      refine z_icmp_lt (tgt := 55) hx hb dX10_market_37 (by decide) ⟨by omega, by omega⟩ (by decide) (fun c37 => ?_) (fun c37 => ?_)
      · refine z_iconst (n := -1) hx hb dX10_market_55 ?_
        exact z_iret hx hb hr hlk hW () (by first | rfl | omega) trivial rfl dX10_market_56
      · refine lv_iload_n hx hb dX10_market_40 rfl (lv_at hl 4 rfl) ?_
        refine z_ldc hx hb (99999) hown (hts _ (List.mem_of_getElem? (i := 3) rfl)) (by decide +kernel) dX10_market_41 ?_
        refine z_icmp_gt (tgt := 55) hx hb dX10_market_43 (by decide) ⟨by omega, by omega⟩ (by decide) (fun c43 => ?_) (fun c43 => ?_)
        · refine z_iconst (n := -1) hx hb dX10_market_55 ?_
          exact z_iret hx hb hr hlk hW () (by first | rfl | omega) trivial rfl dX10_market_56
        · have tr := (hTR r (by omega) (by omega)).1 (by omega)
          have tT := (hT r (by omega) (by omega)).2.1
          refine lv_aload hx hb dX10_market_46 (lv_at hl 0 rfl) ?_
          refine lv_iload_n hx hb dX10_market_48 rfl (lv_at hl 3 rfl) ?_
          refine z_callV (As := [.int (iI r)]) (rest := []) F (c_X2_wasTold  he qe (LVf N n) ae r  (show -2147483648 ≤ r ∧ r < 2147483648 by omega) (fun q1 q2 => (hTR _ q1 q2).2.2.1)) gX10_market_X2_wasTold rfl ziX2_wasTold ⟨rfl, rfl, by decide, by decide⟩ rfl hl.1 rfl (Nat.le_of_ble_eq_true rfl) dX10_market_49 ⟨Nat.zero_le _, Nat.zero_le _⟩ hW hA [4, 5, 6, 7, 8] rfl (by decide) (fun _ => rfl) (fun _ => (dO cI cJ hc qc vc ac) ++ ((bO cI cJ (qc 6) qB vB aB) ++ ((gW cO (qB 1) gB) ++ (lW cI cJ he qe (LVf N n) ae)))) (fun _ => rfl) (fun _ => [.int (iI (bI ((0 ≤ r ∧ r < 120) ∧ (ae 3) r ≤ 239)))]) (fun _ => rfl) 4 rfl rfl rfl (fun _ H locs hp49 hW => ?_)
          refine z_b_eq (tgt := 57) hx hb dX10_market_52 (by decide) (fun c52 => ?_) (fun c52 => ?_)
          · exact absurd ⟨by omega, by omega, by omega, by omega, fun q9 => c52 ⟨by omega, by rw [tr.1, if_pos q9]; omega⟩⟩ hok
          · refine z_iconst (n := -1) hx hb dX10_market_55 ?_
            exact z_iret hx hb hr hlk hW () (by first | rfl | omega) trivial rfl dX10_market_56
    · refine z_iconst (n := -1) hx hb dX10_market_33 ?_
      exact z_iret hx hb hr hlk hW () (by first | rfl | omega) trivial rfl dX10_market_34
set_option maxHeartbeats 4000000 in
set_option maxRecDepth 100000 in
theorem c_X10_market1 {l : Launch} {G : va_G} {cI cJ cO : ClassId} (N : Int → Int) (hc : Nat) (qc : Nat → Nat) (vc : Nat → Int) (ac : Nat → Int → Int) (qB : Nat → Nat) (vB : Nat → Int) (aB : Nat → Int → Int) (gB : Nat → Nat) (n r z : Int)  (h1 : -2147483648 ≤ n ∧ n < 2147483648) (h2 : -2147483648 ≤ r ∧ r < 2147483648) (h3 : -2147483648 ≤ z ∧ z < 2147483648) (cL : ¬ (0 ≤ n ∧ n < vB 4)) (hv4 : vB 4 = N 2) (hWF : WF N) : zC l yX10_market wsX10_market { frames := 3, cells := 0, slots := 0, locals := 68 } G (tyZ cI cJ cO) (S := Unit) [.ref hc, .int (iI n), .int (iI r), .int (iI z)] ((dO cI cJ hc qc vc ac) ++ ((bO cI cJ (qc 6) qB vB aB) ++ (gW cO (qB 1) gB))) (zI (fun _ => -1)) (fun _ => True) (fun _ => (dO cI cJ hc qc vc ac) ++ ((bO cI cJ (qc 6) qB vB aB) ++ (gW cO (qB 1) gB))) 0 0 := by
  refine z_start (cc := cX10_market) (maxL := 5) (ret := (some .int)) (by decide) rfl (Nat.le_of_ble_eq_true rfl) ?_
  intro p e s m below meth c A ls F hr hlk hnm hAe hA hW hl
  have hx := F.1
  have hb := F.2.1
  have hown : s.vm.findClass RX10 = some m.cls := F.2.2.2.1
  have hts := F.2.2.2.2
  have hl : lv_has ls 5 [(0, .ref hc), (1, .int (iI n)), (2, .int (iI r)), (3, .int (iI z))] := hl
  obtain ⟨w0, w1, w2, hV, hls⟩ := id hWF
  refine lv_aload_n hx hb dX10_market_0 rfl (lv_at hl 0 rfl) ?_
  refine z_get (v := .ref (qc 6)) hx hb hts hiX10_market_X10 hown hW 0 6 1 rfl rfl rfl (by decide) rfl dX10_market_1 ?_
  refine lv_iload_n hx hb dX10_market_4 rfl (lv_at hl 1 rfl) ?_
  refine z_callV (As := [.int (iI n)]) (rest := []) F (c_X1_leaseAt  (qc 6) qB vB aB gB n  (show -2147483648 ≤ n ∧ n < 2147483648 by omega) (show 0 ≤ (vB 4) ∧ (vB 4) ≤ 6 by omega)) gX10_market_X1_leaseAt rfl ziX1_leaseAt ⟨rfl, rfl, by decide, by decide⟩ rfl hl.1 rfl (Nat.le_of_ble_eq_true rfl) dX10_market_5 ⟨Nat.zero_le _, Nat.zero_le _⟩ hW hA [1, 2, 3] rfl (by decide) (fun _ => rfl) (fun _ => (dO cI cJ hc qc vc ac) ++ ((bO cI cJ (qc 6) qB vB aB) ++ (gW cO (qB 1) gB))) (fun _ => rfl) (fun _ => [va_rf (if 0 ≤ n ∧ n < (vB 4) then some (gB n.toNat) else none)]) (fun _ => rfl) 1 rfl rfl rfl (fun _ H locs hp5 hW => ?_)
  rw [if_neg cL]
  refine W.eq (g2 := F0 m 8 ls [.null]) rfl ?_
  refine lv_astoreN (lv' := [(4, .null), (0, .ref hc), (1, .int (iI n)), (2, .int (iI r)), (3, .int (iI z))]) hx hb dX10_market_8 hl (by decide) rfl (fun ls hl => ?_)
  refine lv_aloadN hx hb dX10_market_10 (lv_at hl 0 rfl) ?_
  refine lv_ifnullN (tgt := 33) hx hb dX10_market_12 (by decide) ?_
  refine z_iconst (n := -1) hx hb dX10_market_33 ?_
  exact z_iret hx hb hr hlk hW () (by first | rfl | omega) trivial rfl dX10_market_34
theorem hiX10_turnover_X10 : ∀ w ∈ wsX100, w ∈ wsX10_turnover := fun _ h => List.mem_cons_of_mem _ (List.mem_append_left _ (List.mem_append_left _ (List.mem_append_left _ (List.mem_append_right _ h))))
theorem hiX10_turnover_X2 : ∀ w ∈ wsX20, w ∈ wsX10_turnover := fun _ h => List.mem_cons_of_mem _ (List.mem_append_left _ (List.mem_append_left _ (List.mem_append_right _ h)))
theorem hiX10_turnover_X1 : ∀ w ∈ wsX10, w ∈ wsX10_turnover := fun _ h => List.mem_cons_of_mem _ (List.mem_append_left _ (List.mem_append_right _ h))
theorem hiX10_turnover_X0 : ∀ w ∈ wsX00, w ∈ wsX10_turnover := fun _ h => List.mem_cons_of_mem _ (List.mem_append_right _ h)
theorem ziX10_turnover : yX10_turnover.cls = RX10 ∧ yX10_turnover.cls ≠ "java/lang/invoke/MethodHandle" ∧ yX10_turnover.cls ≠ "java/lang/invoke/VarHandle" ∧ (parseMethodDescriptor yX10_turnover.desc).map (fun d => d.parameters.length) = some 3 := by decide +kernel
set_option maxHeartbeats 4000000 in
set_option maxRecDepth 100000 in
theorem c_X10_turnover {l : Launch} {G : va_G} {cI cJ cO : ClassId} (N : Int → Int) (hc : Nat) (qc : Nat → Nat) (vc : Nat → Int) (ac : Nat → Int → Int) (qy : Nat → Nat) (vy : Nat → Int) (ay : Nat → Int → Int) (qB : Nat → Nat) (vB : Nat → Int) (aB : Nat → Int → Int) (gB : Nat → Nat) (he : Nat) (qe : Nat → Nat) (ae : Nat → Int → Int) (n y z : Int)  (h1 : -2147483648 ≤ n ∧ n < 2147483648) (h2 : -2147483648 ≤ y ∧ y < 2147483648) (h3 : -2147483648 ≤ z ∧ z < 2147483648) (hok : okT N n y z) (hnow : 0 ≤ vc 8 ∧ vc 8 ≤ 239) (hac : 0 ≤ vy 3 ∧ vy 3 ≤ 10) (hn : 0 ≤ n ∧ n < vB 4) (hg : gB n.toNat = he) (hv4 : vB 4 = N 2) (hWF : WF N) (hTR : TR N n ae) (hWb : WFb N n) : zC l yX10_turnover wsX10_turnover { frames := 3, cells := 0, slots := 0, locals := 68 } G (tyZ cI cJ cO) (S := (Int → Int) × (Int → Int) × (Int → Int) × Int) [.ref hc, .int (iI n), .int (iI y), .int (iI z)] ((dO cI cJ hc qc vc ac) ++ ((aW cI cJ (qc 2) qy vy ay) ++ ((bO cI cJ (qc 6) qB vB aB) ++ ((gW cO (qB 1) gB) ++ (lW cI cJ he qe (LVf N n) ae))))) (zI (fun _ => 1)) (fun u => KEPT (ay 0) (vy 3) 2 u.1 ∧ KEPT (ay 1) (vy 3) n u.2.1 ∧ KEPT (ay 2) (vy 3) (y - LF N n 0) u.2.2.1 ∧ u.2.2.2 = (if vy 3 = 10 then 10 else vy 3 + 1)) (fun u => (dO cI cJ hc qc vc ac) ++ ((aW cI cJ (qc 2) qy (uV vy 3 u.2.2.2) (uA (uA (uA ay 0 u.1) 1 u.2.1) 2 u.2.2.1)) ++ ((bO cI cJ (qc 6) qB vB (uA aB 2 (uI (aB 2) (vc 8) (aB 2 (vc 8) + 1)))) ++ ((gW cO (qB 1) gB) ++ (lW cI cJ he qe (LVf N n) (uA (uA ae 2 (uI (ae 2) (y - LF N n 0) z)) 3 (uI (ae 3) (y - LF N n 0) (vc 8)))))))) 0 0 := by
  refine z_start (cc := cX10_turnover) (maxL := 6) (ret := (some .boolean)) (by decide) rfl (Nat.le_of_ble_eq_true rfl) ?_
  intro p e s m below meth c A ls F hr hlk hnm hAe hA hW hl
  have hx := F.1
  have hb := F.2.1
  have hown : s.vm.findClass RX10 = some m.cls := F.2.2.2.1
  have hts := F.2.2.2.2
  have hl : lv_has ls 6 [(0, .ref hc), (1, .int (iI n)), (2, .int (iI y)), (3, .int (iI z))] := hl
  obtain ⟨w0, w1, w2, hV, hls⟩ := id hWF
  obtain ⟨hL, hT⟩ := hls n (by omega) (by omega)
  obtain ⟨l0, l1, l2, l3, l4, l5, l6, l7, l8, l9, l10, l11, l12, l13, l14, l15⟩ := id hL
  obtain ⟨k1, k2, k4, k5⟩ := id hok
  have k3 := k1.2
  have ya : 260 + y - LF N n 0 = 260 + (y - LF N n 0) := by omega
  have tr := (hTR (y - LF N n 0) (by omega) (by omega)).2.1 k2
  have e3 : ae 3 (y - LF N n 0) = 240 := by rw [tr.1]; rw [ya] at k5; exact if_neg k5
  refine lv_aload_n hx hb dX10_turnover_0 rfl (lv_at hl 0 rfl) ?_
  refine z_get (v := .ref (qc 6)) hx hb hts hiX10_turnover_X10 hown hW 0 6 1 rfl rfl rfl (by decide) rfl dX10_turnover_1 ?_
  refine lv_iload_n hx hb dX10_turnover_4 rfl (lv_at hl 1 rfl) ?_
  refine z_callV (As := [.int (iI n)]) (rest := []) F (c_X1_leaseAt  (qc 6) qB vB aB gB n  (show -2147483648 ≤ n ∧ n < 2147483648 by omega) (show 0 ≤ (vB 4) ∧ (vB 4) ≤ 6 by omega)) gX10_turnover_X1_leaseAt rfl ziX1_leaseAt ⟨rfl, rfl, by decide, by decide⟩ rfl hl.1 rfl (Nat.le_of_ble_eq_true rfl) dX10_turnover_5 ⟨Nat.zero_le _, Nat.zero_le _⟩ hW hA [5, 6, 7] rfl (by decide) (fun _ => rfl) (fun _ => (dO cI cJ hc qc vc ac) ++ ((aW cI cJ (qc 2) qy vy ay) ++ ((bO cI cJ (qc 6) qB vB aB) ++ ((gW cO (qB 1) gB) ++ (lW cI cJ he qe (LVf N n) ae))))) (fun _ => rfl) (fun _ => [va_rf (if 0 ≤ n ∧ n < (vB 4) then some (gB n.toNat) else none)]) (fun _ => rfl) 5 rfl rfl rfl (fun _ H locs hp5 hW => ?_)
  rw [if_pos (show 0 ≤ n ∧ n < vB 4 by omega), hg]
  refine W.eq (g2 := F0 m 8 ls [.ref he]) rfl ?_
  refine lv_astore (lv' := [(4, .ref he), (0, .ref hc), (1, .int (iI n)), (2, .int (iI y)), (3, .int (iI z))]) hx hb dX10_turnover_8 hl (by decide) rfl (fun ls hl => ?_)
  refine lv_aload hx hb dX10_turnover_10 (lv_at hl 0 rfl) ?_
  refine lv_ifnull hx hb dX10_turnover_12 ?_
  refine lv_aload hx hb dX10_turnover_15 (lv_at hl 0 rfl) ?_
  refine z_get (v := .int (iI (LF N n 5))) hx hb hts hiX10_turnover_X2 hown hW 8 9 2 rfl rfl rfl (by decide) rfl dX10_turnover_17 ?_
  refine z_iconst (n := 3) hx hb dX10_turnover_20 ?_
  refine z_icmp_ne (tgt := 33) hx hb dX10_turnover_21 (by decide) ⟨by omega, by omega⟩ (by decide) (fun c21 => ?_) (fun c21 => ?_)
  · exfalso; omega
  · refine lv_aload hx hb dX10_turnover_24 (lv_at hl 0 rfl) ?_
    refine lv_iload_n hx hb dX10_turnover_26 rfl (lv_at hl 3 rfl) ?_
    refine z_callV (As := [.int (iI y)]) (rest := []) F (c_X2_hasMonth  he qe (LVf N n) ae y  (show -2147483648 ≤ y ∧ y < 2147483648 by omega) (show (0 ≤ (LF N n 0) ∧ (LF N n 0) ≤ 119) ∧ (0 ≤ (LF N n 1) ∧ (LF N n 1) ≤ 120) by omega)) gX10_turnover_X2_hasMonth rfl ziX2_hasMonth ⟨rfl, rfl, by decide, by decide⟩ rfl hl.1 rfl (Nat.le_of_ble_eq_true rfl) dX10_turnover_27 ⟨Nat.zero_le _, Nat.zero_le _⟩ hW hA [8, 9, 10, 11, 12] rfl (by decide) (fun _ => rfl) (fun _ => (dO cI cJ hc qc vc ac) ++ ((aW cI cJ (qc 2) qy vy ay) ++ ((bO cI cJ (qc 6) qB vB aB) ++ ((gW cO (qB 1) gB) ++ (lW cI cJ he qe (LVf N n) ae))))) (fun _ => rfl) (fun _ => [.int (iI (bI ((LF N n 0) ≤ y ∧ y < (LF N n 0) + (LF N n 1))))]) (fun _ => rfl) 8 rfl rfl rfl (fun _ H locs hp27 hW => ?_)
    refine z_b_ne (tgt := 35) hx hb dX10_turnover_30 (by decide) (fun c30 => ?_) (fun c30 => ?_)
    · refine lv_iload_n hx hb dX10_turnover_35 rfl (lv_at hl 3 rfl) ?_
      refine lv_aload hx hb dX10_turnover_36 (lv_at hl 0 rfl) ?_
      refine z_get (v := .int (iI (LF N n 0))) hx hb hts hiX10_turnover_X2 hown hW 8 4 3 rfl rfl rfl (by decide) rfl dX10_turnover_38 ?_
      refine z_isub hx hb dX10_turnover_41 ?_
      refine lv_istore (lv' := [(5, .int (iI (y - (LF N n 0)))), (4, .ref he), (0, .ref hc), (1, .int (iI n)), (2, .int (iI y)), (3, .int (iI z))]) hx hb dX10_turnover_42 hl (by decide) rfl (fun ls hl => ?_)
      refine lv_iload_n hx hb dX10_turnover_44 rfl (lv_at hl 5 rfl) ?_
      refine z_if_lt (tgt := 64) hx hb dX10_turnover_45 (by decide) ⟨by omega, by omega⟩ (fun c45 => ?_) (fun c45 => ?_)
      · exfalso; omega
      · refine lv_iload_n hx hb dX10_turnover_48 rfl (lv_at hl 5 rfl) ?_
        refine z_ldc hx hb (999999) hown (hts _ (List.mem_of_getElem? (i := 4) rfl)) (by decide +kernel) dX10_turnover_49 ?_
        refine z_icmp_gt (tgt := 64) hx hb dX10_turnover_51 (by decide) ⟨by omega, by omega⟩ (by decide) (fun c51 => ?_) (fun c51 => ?_)
        · exfalso; omega
        · refine lv_aload hx hb dX10_turnover_54 (lv_at hl 1 rfl) ?_
          refine lv_iload hx hb dX10_turnover_56 (lv_at hl 0 rfl) ?_
          refine z_callV (As := [.int (iI (y - (LF N n 0)))]) (rest := []) F (c_X2_wasTold  he qe (LVf N n) ae (y - (LF N n 0))  (show -2147483648 ≤ (y - (LF N n 0)) ∧ (y - (LF N n 0)) < 2147483648 by omega) (fun q1 q2 => (hTR _ q1 q2).2.2.1)) gX10_turnover_X2_wasTold rfl ziX2_wasTold ⟨rfl, rfl, by decide, by decide⟩ rfl hl.1 rfl (Nat.le_of_ble_eq_true rfl) dX10_turnover_58 ⟨Nat.zero_le _, Nat.zero_le _⟩ hW hA [8, 9, 10, 11, 12] rfl (by decide) (fun _ => rfl) (fun _ => (dO cI cJ hc qc vc ac) ++ ((aW cI cJ (qc 2) qy vy ay) ++ ((bO cI cJ (qc 6) qB vB aB) ++ ((gW cO (qB 1) gB) ++ (lW cI cJ he qe (LVf N n) ae))))) (fun _ => rfl) (fun _ => [.int (iI (bI ((0 ≤ (y - (LF N n 0)) ∧ (y - (LF N n 0)) < 120) ∧ (ae 3) (y - (LF N n 0)) ≤ 239)))]) (fun _ => rfl) 8 rfl rfl rfl (fun _ H locs hp58 hW => ?_)
          refine z_b_eq (tgt := 66) hx hb dX10_turnover_61 (by decide) (fun c61 => ?_) (fun c61 => ?_)
          · refine lv_aload_n hx hb dX10_turnover_66 rfl (lv_at hl 2 rfl) ?_
            refine lv_aload hx hb dX10_turnover_67 (lv_at hl 1 rfl) ?_
            refine lv_iload_n hx hb dX10_turnover_69 rfl (lv_at hl 3 rfl) ?_
            refine lv_iload hx hb dX10_turnover_70 (lv_at hl 0 rfl) ?_
            refine lv_iload_n hx hb dX10_turnover_72 rfl (lv_at hl 5 rfl) ?_
            refine z_callV (As := [.ref he, .int (iI n), .int (iI (y - (LF N n 0))), .int (iI z)]) (rest := []) F (c_X10_tellOfLease  hc qc vc ac qy vy ay qB vB aB he qe (LVf N n) ae n (y - (LF N n 0)) z  (show 0 ≤ (y - (LF N n 0)) ∧ (y - (LF N n 0)) < 120 by omega) (show 0 ≤ (vc 8) ∧ (vc 8) ≤ 239 by omega) (show 0 ≤ (vy 3) ∧ (vy 3) ≤ 10 by omega)) gX10_turnover_X10_tellOfLease rfl ziX10_tellOfLease ⟨rfl, rfl, by decide, by decide⟩ rfl hl.1 rfl (Nat.le_of_ble_eq_true rfl) dX10_turnover_73 ⟨Nat.zero_le _, Nat.zero_le _⟩ hW hA [0, 1, 2, 3, 4, 5, 6, 8, 9, 10, 11, 12] rfl (by decide) (fun _ => rfl) (fun u => (dO cI cJ hc qc vc ac) ++ ((aW cI cJ (qc 2) qy (uV vy 3 u.2.2.2) (uA (uA (uA ay 0 u.1) 1 u.2.1) 2 u.2.2.1)) ++ ((bO cI cJ (qc 6) qB vB (uA aB 2 (uI ((aB 2)) ((vc 8)) ((aB 2) ((vc 8)) + 1)))) ++ ((gW cO (qB 1) gB) ++ (lW cI cJ he qe (LVf N n) (uA (uA ae 2 (uI ((ae 2)) (y - (LF N n 0)) z)) 3 (uI ((ae 3)) (y - (LF N n 0)) ((vc 8))))))))) (fun _ => rfl) (fun u => []) (fun _ => rfl) 0 rfl rfl rfl (fun u H locs hp73 hW => ?_)
            obtain ⟨g0_1, g1_2, g2_3, c2_4⟩ := u
            have hp73 : KEPT ((ay 0)) ((vy 3)) 2 g0_1 ∧ KEPT ((ay 1)) ((vy 3)) n g1_2 ∧ KEPT ((ay 2)) ((vy 3)) (y - (LF N n 0)) g2_3 ∧ c2_4 = (if (vy 3) = 10 then 10 else (vy 3) + 1) := hp73
            have hW : zW G (tyZ cI cJ cO) A s ((dO cI cJ hc qc vc ac) ++ ((aW cI cJ (qc 2) qy (uV vy 3 c2_4) (uA (uA (uA ay 0 g0_1) 1 g1_2) 2 g2_3)) ++ ((bO cI cJ (qc 6) qB vB (uA aB 2 (uI ((aB 2)) ((vc 8)) ((aB 2) ((vc 8)) + 1)))) ++ ((gW cO (qB 1) gB) ++ (lW cI cJ he qe (LVf N n) (uA (uA ae 2 (uI ((ae 2)) (y - (LF N n 0)) z)) 3 (uI ((ae 3)) (y - (LF N n 0)) ((vc 8))))))))) H locs := hW
            refine z_iconst (n := 1) hx hb dX10_turnover_76 ?_
            exact z_zret hx hb hr hlk (by first | exact Or.inl rfl | exact Or.inr rfl | omega) hW (⟨g0_1, g1_2, g2_3, c2_4⟩) rfl hp73 rfl dX10_turnover_77
          · exfalso; omega
    · exfalso; omega
set_option maxHeartbeats 4000000 in
set_option maxRecDepth 100000 in
theorem c_X10_turnover0 {l : Launch} {G : va_G} {cI cJ cO : ClassId} (N : Int → Int) (hc : Nat) (qc : Nat → Nat) (vc : Nat → Int) (ac : Nat → Int → Int) (qB : Nat → Nat) (vB : Nat → Int) (aB : Nat → Int → Int) (gB : Nat → Nat) (he : Nat) (qe : Nat → Nat) (ae : Nat → Int → Int) (n y z : Int)  (h1 : -2147483648 ≤ n ∧ n < 2147483648) (h2 : -2147483648 ≤ y ∧ y < 2147483648) (h3 : -2147483648 ≤ z ∧ z < 2147483648) (hok : ¬ okT N n y z) (hn : 0 ≤ n ∧ n < vB 4) (hg : gB n.toNat = he) (hv4 : vB 4 = N 2) (hWF : WF N) (hTR : TR N n ae) (hWb : WFb N n) : zC l yX10_turnover wsX10_turnover { frames := 3, cells := 0, slots := 0, locals := 68 } G (tyZ cI cJ cO) (S := Unit) [.ref hc, .int (iI n), .int (iI y), .int (iI z)] ((dO cI cJ hc qc vc ac) ++ ((bO cI cJ (qc 6) qB vB aB) ++ ((gW cO (qB 1) gB) ++ (lW cI cJ he qe (LVf N n) ae)))) (zI (fun _ => 0)) (fun _ => True) (fun _ => (dO cI cJ hc qc vc ac) ++ ((bO cI cJ (qc 6) qB vB aB) ++ ((gW cO (qB 1) gB) ++ (lW cI cJ he qe (LVf N n) ae)))) 0 0 := by
  refine z_start (cc := cX10_turnover) (maxL := 6) (ret := (some .boolean)) (by decide) rfl (Nat.le_of_ble_eq_true rfl) ?_
  intro p e s m below meth c A ls F hr hlk hnm hAe hA hW hl
  have hx := F.1
  have hb := F.2.1
  have hown : s.vm.findClass RX10 = some m.cls := F.2.2.2.1
  have hts := F.2.2.2.2
  have hl : lv_has ls 6 [(0, .ref hc), (1, .int (iI n)), (2, .int (iI y)), (3, .int (iI z))] := hl
  obtain ⟨w0, w1, w2, hV, hls⟩ := id hWF
  obtain ⟨hL, hT⟩ := hls n (by omega) (by omega)
  obtain ⟨l0, l1, l2, l3, l4, l5, l6, l7, l8, l9, l10, l11, l12, l13, l14, l15⟩ := id hL
  refine lv_aload_n hx hb dX10_turnover_0 rfl (lv_at hl 0 rfl) ?_
  refine z_get (v := .ref (qc 6)) hx hb hts hiX10_turnover_X10 hown hW 0 6 1 rfl rfl rfl (by decide) rfl dX10_turnover_1 ?_
  refine lv_iload_n hx hb dX10_turnover_4 rfl (lv_at hl 1 rfl) ?_
  refine z_callV (As := [.int (iI n)]) (rest := []) F (c_X1_leaseAt  (qc 6) qB vB aB gB n  (show -2147483648 ≤ n ∧ n < 2147483648 by omega) (show 0 ≤ (vB 4) ∧ (vB 4) ≤ 6 by omega)) gX10_turnover_X1_leaseAt rfl ziX1_leaseAt ⟨rfl, rfl, by decide, by decide⟩ rfl hl.1 rfl (Nat.le_of_ble_eq_true rfl) dX10_turnover_5 ⟨Nat.zero_le _, Nat.zero_le _⟩ hW hA [1, 2, 3] rfl (by decide) (fun _ => rfl) (fun _ => (dO cI cJ hc qc vc ac) ++ ((bO cI cJ (qc 6) qB vB aB) ++ ((gW cO (qB 1) gB) ++ (lW cI cJ he qe (LVf N n) ae)))) (fun _ => rfl) (fun _ => [va_rf (if 0 ≤ n ∧ n < (vB 4) then some (gB n.toNat) else none)]) (fun _ => rfl) 1 rfl rfl rfl (fun _ H locs hp5 hW => ?_)
  rw [if_pos (show 0 ≤ n ∧ n < vB 4 by omega), hg]
  refine W.eq (g2 := F0 m 8 ls [.ref he]) rfl ?_
  refine lv_astore (lv' := [(4, .ref he), (0, .ref hc), (1, .int (iI n)), (2, .int (iI y)), (3, .int (iI z))]) hx hb dX10_turnover_8 hl (by decide) rfl (fun ls hl => ?_)
  refine lv_aload hx hb dX10_turnover_10 (lv_at hl 0 rfl) ?_
  refine lv_ifnull hx hb dX10_turnover_12 ?_
  refine lv_aload hx hb dX10_turnover_15 (lv_at hl 0 rfl) ?_
  refine z_get (v := .int (iI (LF N n 5))) hx hb hts hiX10_turnover_X2 hown hW 4 9 2 rfl rfl rfl (by decide) rfl dX10_turnover_17 ?_
  refine z_iconst (n := 3) hx hb dX10_turnover_20 ?_
  refine z_icmp_ne (tgt := 33) hx hb dX10_turnover_21 (by decide) ⟨by omega, by omega⟩ (by decide) (fun c21 => ?_) (fun c21 => ?_)
  · refine z_iconst (n := 0) hx hb dX10_turnover_33 ?_
    exact z_zret hx hb hr hlk (by first | exact Or.inl rfl | exact Or.inr rfl | omega) hW () (by first | rfl | omega) trivial rfl dX10_turnover_34
  · refine lv_aload hx hb dX10_turnover_24 (lv_at hl 0 rfl) ?_
    refine lv_iload_n hx hb dX10_turnover_26 rfl (lv_at hl 3 rfl) ?_
    refine z_callV (As := [.int (iI y)]) (rest := []) F (c_X2_hasMonth  he qe (LVf N n) ae y  (show -2147483648 ≤ y ∧ y < 2147483648 by omega) (show (0 ≤ (LF N n 0) ∧ (LF N n 0) ≤ 119) ∧ (0 ≤ (LF N n 1) ∧ (LF N n 1) ≤ 120) by omega)) gX10_turnover_X2_hasMonth rfl ziX2_hasMonth ⟨rfl, rfl, by decide, by decide⟩ rfl hl.1 rfl (Nat.le_of_ble_eq_true rfl) dX10_turnover_27 ⟨Nat.zero_le _, Nat.zero_le _⟩ hW hA [4, 5, 6, 7, 8] rfl (by decide) (fun _ => rfl) (fun _ => (dO cI cJ hc qc vc ac) ++ ((bO cI cJ (qc 6) qB vB aB) ++ ((gW cO (qB 1) gB) ++ (lW cI cJ he qe (LVf N n) ae)))) (fun _ => rfl) (fun _ => [.int (iI (bI ((LF N n 0) ≤ y ∧ y < (LF N n 0) + (LF N n 1))))]) (fun _ => rfl) 4 rfl rfl rfl (fun _ H locs hp27 hW => ?_)
    refine z_b_ne (tgt := 35) hx hb dX10_turnover_30 (by decide) (fun c30 => ?_) (fun c30 => ?_)
    · refine lv_iload_n hx hb dX10_turnover_35 rfl (lv_at hl 3 rfl) ?_
      refine lv_aload hx hb dX10_turnover_36 (lv_at hl 0 rfl) ?_
      refine z_get (v := .int (iI (LF N n 0))) hx hb hts hiX10_turnover_X2 hown hW 4 4 3 rfl rfl rfl (by decide) rfl dX10_turnover_38 ?_
      refine z_isub hx hb dX10_turnover_41 ?_
      refine lv_istore (lv' := [(5, .int (iI (y - (LF N n 0)))), (4, .ref he), (0, .ref hc), (1, .int (iI n)), (2, .int (iI y)), (3, .int (iI z))]) hx hb dX10_turnover_42 hl (by decide) rfl (fun ls hl => ?_)
      refine lv_iload_n hx hb dX10_turnover_44 rfl (lv_at hl 5 rfl) ?_
      refine z_if_lt (tgt := 64) hx hb dX10_turnover_45 (by decide) ⟨by omega, by omega⟩ (fun c45 => ?_) (fun c45 => ?_)
      · refine z_iconst (n := 0) hx hb dX10_turnover_64 ?_
        exact z_zret hx hb hr hlk (by first | exact Or.inl rfl | exact Or.inr rfl | omega) hW () (by first | rfl | omega) trivial rfl dX10_turnover_65
      · refine lv_iload_n hx hb dX10_turnover_48 rfl (lv_at hl 5 rfl) ?_
        refine z_ldc hx hb (999999) hown (hts _ (List.mem_of_getElem? (i := 4) rfl)) (by decide +kernel) dX10_turnover_49 ?_
        refine z_icmp_gt (tgt := 64) hx hb dX10_turnover_51 (by decide) ⟨by omega, by omega⟩ (by decide) (fun c51 => ?_) (fun c51 => ?_)
        · refine z_iconst (n := 0) hx hb dX10_turnover_64 ?_
          exact z_zret hx hb hr hlk (by first | exact Or.inl rfl | exact Or.inr rfl | omega) hW () (by first | rfl | omega) trivial rfl dX10_turnover_65
        · have tr := (hTR (y - LF N n 0) (by omega) (by omega)).2.1 (by omega)
          have tT := (hT (y - LF N n 0) (by omega) (by omega)).2.2.2
          have ya : 260 + y - LF N n 0 = 260 + (y - LF N n 0) := by omega
          refine lv_aload hx hb dX10_turnover_54 (lv_at hl 1 rfl) ?_
          refine lv_iload hx hb dX10_turnover_56 (lv_at hl 0 rfl) ?_
          refine z_callV (As := [.int (iI (y - (LF N n 0)))]) (rest := []) F (c_X2_wasTold  he qe (LVf N n) ae (y - (LF N n 0))  (show -2147483648 ≤ (y - (LF N n 0)) ∧ (y - (LF N n 0)) < 2147483648 by omega) (fun q1 q2 => (hTR _ q1 q2).2.2.1)) gX10_turnover_X2_wasTold rfl ziX2_wasTold ⟨rfl, rfl, by decide, by decide⟩ rfl hl.1 rfl (Nat.le_of_ble_eq_true rfl) dX10_turnover_58 ⟨Nat.zero_le _, Nat.zero_le _⟩ hW hA [4, 5, 6, 7, 8] rfl (by decide) (fun _ => rfl) (fun _ => (dO cI cJ hc qc vc ac) ++ ((bO cI cJ (qc 6) qB vB aB) ++ ((gW cO (qB 1) gB) ++ (lW cI cJ he qe (LVf N n) ae)))) (fun _ => rfl) (fun _ => [.int (iI (bI ((0 ≤ (y - (LF N n 0)) ∧ (y - (LF N n 0)) < 120) ∧ (ae 3) (y - (LF N n 0)) ≤ 239)))]) (fun _ => rfl) 4 rfl rfl rfl (fun _ H locs hp58 hW => ?_)
          refine z_b_eq (tgt := 66) hx hb dX10_turnover_61 (by decide) (fun c61 => ?_) (fun c61 => ?_)
          · exact absurd ⟨⟨by omega, by omega, by omega⟩, by omega, by omega, fun q9 => c61 ⟨by omega, by rw [ya] at q9; rw [tr.1, if_pos q9]; omega⟩⟩ hok
          · refine z_iconst (n := 0) hx hb dX10_turnover_64 ?_
            exact z_zret hx hb hr hlk (by first | exact Or.inl rfl | exact Or.inr rfl | omega) hW () (by first | rfl | omega) trivial rfl dX10_turnover_65
    · refine z_iconst (n := 0) hx hb dX10_turnover_33 ?_
      exact z_zret hx hb hr hlk (by first | exact Or.inl rfl | exact Or.inr rfl | omega) hW () (by first | rfl | omega) trivial rfl dX10_turnover_34
set_option maxHeartbeats 4000000 in
set_option maxRecDepth 100000 in
theorem c_X10_turnover1 {l : Launch} {G : va_G} {cI cJ cO : ClassId} (N : Int → Int) (hc : Nat) (qc : Nat → Nat) (vc : Nat → Int) (ac : Nat → Int → Int) (qB : Nat → Nat) (vB : Nat → Int) (aB : Nat → Int → Int) (gB : Nat → Nat) (n y z : Int)  (h1 : -2147483648 ≤ n ∧ n < 2147483648) (h2 : -2147483648 ≤ y ∧ y < 2147483648) (h3 : -2147483648 ≤ z ∧ z < 2147483648) (cL : ¬ (0 ≤ n ∧ n < vB 4)) (hv4 : vB 4 = N 2) (hWF : WF N) : zC l yX10_turnover wsX10_turnover { frames := 3, cells := 0, slots := 0, locals := 68 } G (tyZ cI cJ cO) (S := Unit) [.ref hc, .int (iI n), .int (iI y), .int (iI z)] ((dO cI cJ hc qc vc ac) ++ ((bO cI cJ (qc 6) qB vB aB) ++ (gW cO (qB 1) gB))) (zI (fun _ => 0)) (fun _ => True) (fun _ => (dO cI cJ hc qc vc ac) ++ ((bO cI cJ (qc 6) qB vB aB) ++ (gW cO (qB 1) gB))) 0 0 := by
  refine z_start (cc := cX10_turnover) (maxL := 6) (ret := (some .boolean)) (by decide) rfl (Nat.le_of_ble_eq_true rfl) ?_
  intro p e s m below meth c A ls F hr hlk hnm hAe hA hW hl
  have hx := F.1
  have hb := F.2.1
  have hown : s.vm.findClass RX10 = some m.cls := F.2.2.2.1
  have hts := F.2.2.2.2
  have hl : lv_has ls 6 [(0, .ref hc), (1, .int (iI n)), (2, .int (iI y)), (3, .int (iI z))] := hl
  obtain ⟨w0, w1, w2, hV, hls⟩ := id hWF
  refine lv_aload_n hx hb dX10_turnover_0 rfl (lv_at hl 0 rfl) ?_
  refine z_get (v := .ref (qc 6)) hx hb hts hiX10_turnover_X10 hown hW 0 6 1 rfl rfl rfl (by decide) rfl dX10_turnover_1 ?_
  refine lv_iload_n hx hb dX10_turnover_4 rfl (lv_at hl 1 rfl) ?_
  refine z_callV (As := [.int (iI n)]) (rest := []) F (c_X1_leaseAt  (qc 6) qB vB aB gB n  (show -2147483648 ≤ n ∧ n < 2147483648 by omega) (show 0 ≤ (vB 4) ∧ (vB 4) ≤ 6 by omega)) gX10_turnover_X1_leaseAt rfl ziX1_leaseAt ⟨rfl, rfl, by decide, by decide⟩ rfl hl.1 rfl (Nat.le_of_ble_eq_true rfl) dX10_turnover_5 ⟨Nat.zero_le _, Nat.zero_le _⟩ hW hA [1, 2, 3] rfl (by decide) (fun _ => rfl) (fun _ => (dO cI cJ hc qc vc ac) ++ ((bO cI cJ (qc 6) qB vB aB) ++ (gW cO (qB 1) gB))) (fun _ => rfl) (fun _ => [va_rf (if 0 ≤ n ∧ n < (vB 4) then some (gB n.toNat) else none)]) (fun _ => rfl) 1 rfl rfl rfl (fun _ H locs hp5 hW => ?_)
  rw [if_neg cL]
  refine W.eq (g2 := F0 m 8 ls [.null]) rfl ?_
  refine lv_astoreN (lv' := [(4, .null), (0, .ref hc), (1, .int (iI n)), (2, .int (iI y)), (3, .int (iI z))]) hx hb dX10_turnover_8 hl (by decide) rfl (fun ls hl => ?_)
  refine lv_aloadN hx hb dX10_turnover_10 (lv_at hl 0 rfl) ?_
  refine lv_ifnullN (tgt := 33) hx hb dX10_turnover_12 (by decide) ?_
  refine z_iconst (n := 0) hx hb dX10_turnover_33 ?_
  exact z_zret hx hb hr hlk (by first | exact Or.inl rfl | exact Or.inr rfl | omega) hW () (by first | rfl | omega) trivial rfl dX10_turnover_34
theorem hiX10_breaks_X10 : ∀ w ∈ wsX100, w ∈ wsX10_breaks := fun _ h => List.mem_cons_of_mem _ (List.mem_append_left _ (List.mem_append_left _ (List.mem_append_left _ (List.mem_append_right _ h))))
theorem hiX10_breaks_X2 : ∀ w ∈ wsX20, w ∈ wsX10_breaks := fun _ h => List.mem_cons_of_mem _ (List.mem_append_left _ (List.mem_append_left _ (List.mem_append_right _ h)))
theorem hiX10_breaks_X1 : ∀ w ∈ wsX10, w ∈ wsX10_breaks := fun _ h => List.mem_cons_of_mem _ (List.mem_append_left _ (List.mem_append_right _ h))
theorem hiX10_breaks_X0 : ∀ w ∈ wsX00, w ∈ wsX10_breaks := fun _ h => List.mem_cons_of_mem _ (List.mem_append_right _ h)
theorem ziX10_breaks : yX10_breaks.cls = RX10 ∧ yX10_breaks.cls ≠ "java/lang/invoke/MethodHandle" ∧ yX10_breaks.cls ≠ "java/lang/invoke/VarHandle" ∧ (parseMethodDescriptor yX10_breaks.desc).map (fun d => d.parameters.length) = some 1 := by decide +kernel
set_option maxHeartbeats 4000000 in
set_option maxRecDepth 100000 in
theorem c_X10_breaks {l : Launch} {G : va_G} {cI cJ cO : ClassId} (N : Int → Int) (hc : Nat) (qc : Nat → Nat) (vc : Nat → Int) (ac : Nat → Int → Int) (qy : Nat → Nat) (vy : Nat → Int) (ay : Nat → Int → Int) (qB : Nat → Nat) (vB : Nat → Int) (aB : Nat → Int → Int) (gB : Nat → Nat) (he : Nat) (qe : Nat → Nat) (ae : Nat → Int → Int) (n : Int)  (h1 : -2147483648 ≤ n ∧ n < 2147483648) (hok : okB N n) (hnow : 0 ≤ vc 8 ∧ vc 8 ≤ 239) (hac : 0 ≤ vy 3 ∧ vy 3 ≤ 10) (hnw : vc 8 = N 0) (hn : 0 ≤ n ∧ n < vB 4) (hg : gB n.toNat = he) (hv4 : vB 4 = N 2) (hWF : WF N) (hTR : TR N n ae) (hWb : WFb N n) : zC l yX10_breaks wsX10_breaks { frames := 2, cells := 0, slots := 0, locals := 44 } G (tyZ cI cJ cO) (S := (Int → Int) × (Int → Int) × (Int → Int) × Int) [.ref hc, .int (iI n)] ((dO cI cJ hc qc vc ac) ++ ((aW cI cJ (qc 2) qy vy ay) ++ ((bO cI cJ (qc 6) qB vB aB) ++ ((gW cO (qB 1) gB) ++ (lW cI cJ he qe (LVf N n) ae))))) (zI (fun _ => LF N n 12)) (fun u => KEPT (ay 0) (vy 3) 3 u.1 ∧ KEPT (ay 1) (vy 3) n u.2.1 ∧ KEPT (ay 2) (vy 3) (-1) u.2.2.1 ∧ u.2.2.2 = (if vy 3 = 10 then 10 else vy 3 + 1)) (fun u => (dO cI cJ hc qc vc ac) ++ ((aW cI cJ (qc 2) qy (uV vy 3 u.2.2.2) (uA (uA (uA ay 0 u.1) 1 u.2.1) 2 u.2.2.1)) ++ ((bO cI cJ (qc 6) qB vB (uA aB 2 (uI (aB 2) (vc 8) (aB 2 (vc 8) + 1)))) ++ ((gW cO (qB 1) gB) ++ (lW cI cJ he qe (uV (LVf N n) 13 (vc 8)) ae))))) 0 0 := by
  refine z_start (cc := cX10_breaks) (maxL := 3) (ret := (some .int)) (by decide) rfl (Nat.le_of_ble_eq_true rfl) ?_
  intro p e s m below meth c A ls F hr hlk hnm hAe hA hW hl
  have hx := F.1
  have hb := F.2.1
  have hown : s.vm.findClass RX10 = some m.cls := F.2.2.2.1
  have hts := F.2.2.2.2
  have hl : lv_has ls 3 [(0, .ref hc), (1, .int (iI n))] := hl
  obtain ⟨w0, w1, w2, hV, hls⟩ := id hWF
  obtain ⟨hL, hT⟩ := hls n (by omega) (by omega)
  obtain ⟨l0, l1, l2, l3, l4, l5, l6, l7, l8, l9, l10, l11, l12, l13, l14, l15⟩ := id hL
  obtain ⟨k1, k2, k3, k4⟩ := id hok
  have e12 : (if zand (LF N n 7) 16 ≠ 0 then LF N n 12 else -1) = LF N n 12 := if_pos k2
  have e13 : (if 0 < LF N n 13 then LF N n 13 - 1 else 240) = 240 := if_neg k4
  refine lv_aload_n hx hb dX10_breaks_0 rfl (lv_at hl 0 rfl) ?_
  refine z_get (v := .ref (qc 6)) hx hb hts hiX10_breaks_X10 hown hW 0 6 1 rfl rfl rfl (by decide) rfl dX10_breaks_1 ?_
  refine lv_iload_n hx hb dX10_breaks_4 rfl (lv_at hl 1 rfl) ?_
  refine z_callV (As := [.int (iI n)]) (rest := []) F (c_X1_leaseAt  (qc 6) qB vB aB gB n  (show -2147483648 ≤ n ∧ n < 2147483648 by omega) (show 0 ≤ (vB 4) ∧ (vB 4) ≤ 6 by omega)) gX10_breaks_X1_leaseAt rfl ziX1_leaseAt ⟨rfl, rfl, by decide, by decide⟩ rfl hl.1 rfl (Nat.le_of_ble_eq_true rfl) dX10_breaks_5 ⟨Nat.zero_le _, Nat.zero_le _⟩ hW hA [5, 6, 7] rfl (by decide) (fun _ => rfl) (fun _ => (dO cI cJ hc qc vc ac) ++ ((aW cI cJ (qc 2) qy vy ay) ++ ((bO cI cJ (qc 6) qB vB aB) ++ ((gW cO (qB 1) gB) ++ (lW cI cJ he qe (LVf N n) ae))))) (fun _ => rfl) (fun _ => [va_rf (if 0 ≤ n ∧ n < (vB 4) then some (gB n.toNat) else none)]) (fun _ => rfl) 5 rfl rfl rfl (fun _ H locs hp5 hW => ?_)
  rw [if_pos (show 0 ≤ n ∧ n < vB 4 by omega), hg]
  refine W.eq (g2 := F0 m 8 ls [.ref he]) rfl ?_
  refine lv_astore_n (lv' := [(2, .ref he), (0, .ref hc), (1, .int (iI n))]) hx hb dX10_breaks_8 rfl hl (by decide) rfl (fun ls hl => ?_)
  refine lv_aload_n hx hb dX10_breaks_9 rfl (lv_at hl 0 rfl) ?_
  refine lv_ifnull hx hb dX10_breaks_10 ?_
  refine lv_aload_n hx hb dX10_breaks_13 rfl (lv_at hl 0 rfl) ?_
  refine z_get (v := .int (iI (if zand (LF N n 7) 16 ≠ 0 then LF N n 12 else -1))) hx hb hts hiX10_breaks_X2 hown hW 8 12 2 rfl rfl rfl (by decide) rfl dX10_breaks_14 ?_
  refine z_iconst (n := -1) hx hb dX10_breaks_17 ?_
  refine z_icmp_ne (tgt := 23) hx hb dX10_breaks_18 (by decide) ⟨by omega, by omega⟩ (by decide) (fun c18 => ?_) (fun c18 => ?_)
  · refine lv_aload_n hx hb dX10_breaks_23 rfl (lv_at hl 0 rfl) ?_
    refine z_get (v := .int (iI (if zand (LF N n 7) 16 ≠ 0 then LF N n 12 else -1))) hx hb hts hiX10_breaks_X2 hown hW 8 12 2 rfl rfl rfl (by decide) rfl dX10_breaks_24 ?_
    refine lv_aload_n hx hb dX10_breaks_27 rfl (lv_at hl 1 rfl) ?_
    refine z_get (v := .int (iI (vc 8))) hx hb hts hiX10_breaks_X10 hown hW 0 8 3 rfl rfl rfl (by decide) rfl dX10_breaks_28 ?_
    refine z_icmp_le (tgt := 44) hx hb dX10_breaks_31 (by decide) ⟨by omega, by omega⟩ ⟨by omega, by omega⟩ (fun c31 => ?_) (fun c31 => ?_)
    · exfalso; omega
    · refine lv_aload_n hx hb dX10_breaks_34 rfl (lv_at hl 0 rfl) ?_
      refine z_get (v := .int (iI (if 0 < LF N n 13 then LF N n 13 - 1 else 240))) hx hb hts hiX10_breaks_X2 hown hW 8 13 4 rfl rfl rfl (by decide) rfl dX10_breaks_35 ?_
      refine z_sipush hx hb dX10_breaks_38 (by decide +kernel) ?_
      refine z_icmp_eq (tgt := 46) hx hb dX10_breaks_41 (by decide) ⟨by omega, by omega⟩ (by decide) (fun c41 => ?_) (fun c41 => ?_)
      · refine lv_aload_n hx hb dX10_breaks_46 rfl (lv_at hl 0 rfl) ?_
        refine lv_aload_n hx hb dX10_breaks_47 rfl (lv_at hl 1 rfl) ?_
        refine z_get (v := .int (iI (vc 8))) hx hb hts hiX10_breaks_X10 hown hW 0 8 3 rfl rfl rfl (by decide) rfl dX10_breaks_48 ?_
        refine z_put hx hb hts hiX10_breaks_X2 tyX2 tyX2_ok nmX2 hown hW 8 13 4 rfl rfl (by decide) (Nat.le_of_ble_eq_true rfl) rfl rfl rfl rfl dX10_breaks_51 (fun H locs hW => ?_)
        have hW : zW G (tyZ cI cJ cO) A s ((dO cI cJ hc qc vc ac) ++ ((aW cI cJ (qc 2) qy vy ay) ++ ((bO cI cJ (qc 6) qB vB aB) ++ ((gW cO (qB 1) gB) ++ (lW cI cJ he qe (uV (LVf N n) 13 (vc 8)) ae))))) H locs := hW
        refine lv_aload_n hx hb dX10_breaks_54 rfl (lv_at hl 1 rfl) ?_
        refine z_get (v := .ref (qc 6)) hx hb hts hiX10_breaks_X10 hown hW 0 6 1 rfl rfl rfl (by decide) rfl dX10_breaks_55 ?_
        refine lv_aload_n hx hb dX10_breaks_58 rfl (lv_at hl 1 rfl) ?_
        refine z_get (v := .int (iI (vc 8))) hx hb hts hiX10_breaks_X10 hown hW 0 8 3 rfl rfl rfl (by decide) rfl dX10_breaks_59 ?_
        refine z_iconst (n := 1) hx hb dX10_breaks_62 ?_
        refine z_callV (As := [.int (iI (vc 8)), .int (iI 1)]) (rest := []) F (c_X1_addNews  (qc 6) qB vB aB (vc 8) 1  (show 0 ≤ (vc 8) ∧ (vc 8) < 240 by omega)) gX10_breaks_X1_addNews rfl ziX1_addNews ⟨rfl, rfl, by decide, by decide⟩ rfl hl.1 rfl (Nat.le_of_ble_eq_true rfl) dX10_breaks_63 ⟨Nat.zero_le _, Nat.zero_le _⟩ hW hA [5, 6] rfl (by decide) (fun _ => rfl) (fun _ => (dO cI cJ hc qc vc ac) ++ ((aW cI cJ (qc 2) qy vy ay) ++ ((bO cI cJ (qc 6) qB vB (uA aB 2 (uI ((aB 2)) (vc 8) ((aB 2) (vc 8) + 1)))) ++ ((gW cO (qB 1) gB) ++ (lW cI cJ he qe (uV (LVf N n) 13 (vc 8)) ae))))) (fun _ => rfl) (fun _ => []) (fun _ => rfl) 5 rfl rfl rfl (fun _ H locs hp63 hW => ?_)
        have hW : zW G (tyZ cI cJ cO) A s ((dO cI cJ hc qc vc ac) ++ ((aW cI cJ (qc 2) qy vy ay) ++ ((bO cI cJ (qc 6) qB vB (uA aB 2 (uI ((aB 2)) (vc 8) ((aB 2) (vc 8) + 1)))) ++ ((gW cO (qB 1) gB) ++ (lW cI cJ he qe (uV (LVf N n) 13 (vc 8)) ae))))) H locs := hW
        refine lv_aload_n hx hb dX10_breaks_66 rfl (lv_at hl 1 rfl) ?_
        refine z_get (v := .ref (qc 2)) hx hb hts hiX10_breaks_X10 hown hW 0 2 5 rfl rfl rfl (by decide) rfl dX10_breaks_67 ?_
        refine z_iconst (n := 3) hx hb dX10_breaks_70 ?_
        refine lv_iload_n hx hb dX10_breaks_71 rfl (lv_at hl 2 rfl) ?_
        refine z_iconst (n := -1) hx hb dX10_breaks_72 ?_
        refine z_callV (As := [.int (iI 3), .int (iI n), .int (iI (-1))]) (rest := []) F (c_X0_keep  (qc 2) qy vy ay 3 n (-1)  (show 0 ≤ (vy 3) ∧ (vy 3) ≤ 10 by omega)) gX10_breaks_X0_keep rfl ziX0_keep ⟨rfl, rfl, by decide, by decide⟩ rfl hl.1 rfl (Nat.le_of_ble_eq_true rfl) dX10_breaks_73 ⟨Nat.zero_le _, Nat.zero_le _⟩ hW hA [1, 2, 3, 4] rfl (by decide) (fun _ => rfl) (fun u => (dO cI cJ hc qc vc ac) ++ ((aW cI cJ (qc 2) qy (uV vy 3 u.2.2.2) (uA (uA (uA ay 0 u.1) 1 u.2.1) 2 u.2.2.1)) ++ ((bO cI cJ (qc 6) qB vB (uA aB 2 (uI ((aB 2)) (vc 8) ((aB 2) (vc 8) + 1)))) ++ ((gW cO (qB 1) gB) ++ (lW cI cJ he qe (uV (LVf N n) 13 (vc 8)) ae))))) (fun _ => rfl) (fun u => []) (fun _ => rfl) 1 rfl rfl rfl (fun u H locs hp73 hW => ?_)
        obtain ⟨g0_1, g1_2, g2_3, c2_4⟩ := u
        have hp73 : KEPT ((ay 0)) ((vy 3)) 3 g0_1 ∧ KEPT ((ay 1)) ((vy 3)) n g1_2 ∧ KEPT ((ay 2)) ((vy 3)) (-1) g2_3 ∧ c2_4 = (if (vy 3) = 10 then 10 else (vy 3) + 1) := hp73
        have hW : zW G (tyZ cI cJ cO) A s ((dO cI cJ hc qc vc ac) ++ ((aW cI cJ (qc 2) qy (uV vy 3 c2_4) (uA (uA (uA ay 0 g0_1) 1 g1_2) 2 g2_3)) ++ ((bO cI cJ (qc 6) qB vB (uA aB 2 (uI ((aB 2)) (vc 8) ((aB 2) (vc 8) + 1)))) ++ ((gW cO (qB 1) gB) ++ (lW cI cJ he qe (uV (LVf N n) 13 (vc 8)) ae))))) H locs := hW
        refine lv_aload_n hx hb dX10_breaks_76 rfl (lv_at hl 0 rfl) ?_
        refine z_get (v := .int (iI (if zand (LF N n 7) 16 ≠ 0 then LF N n 12 else -1))) hx hb hts hiX10_breaks_X2 hown hW 8 12 2 rfl rfl rfl (by decide) rfl dX10_breaks_77 ?_
        exact z_iret hx hb hr hlk hW (⟨g0_1, g1_2, g2_3, c2_4⟩) e12.symm hp73 rfl dX10_breaks_80
      · exfalso; omega
  · exfalso; omega
set_option maxHeartbeats 4000000 in
set_option maxRecDepth 100000 in
theorem c_X10_breaks0 {l : Launch} {G : va_G} {cI cJ cO : ClassId} (N : Int → Int) (hc : Nat) (qc : Nat → Nat) (vc : Nat → Int) (ac : Nat → Int → Int) (qB : Nat → Nat) (vB : Nat → Int) (aB : Nat → Int → Int) (gB : Nat → Nat) (he : Nat) (qe : Nat → Nat) (ae : Nat → Int → Int) (n : Int)  (h1 : -2147483648 ≤ n ∧ n < 2147483648) (hok : ¬ okB N n) (hnw : vc 8 = N 0) (hn : 0 ≤ n ∧ n < vB 4) (hg : gB n.toNat = he) (hv4 : vB 4 = N 2) (hWF : WF N) (hTR : TR N n ae) (hWb : WFb N n) : zC l yX10_breaks wsX10_breaks { frames := 2, cells := 0, slots := 0, locals := 44 } G (tyZ cI cJ cO) (S := Unit) [.ref hc, .int (iI n)] ((dO cI cJ hc qc vc ac) ++ ((bO cI cJ (qc 6) qB vB aB) ++ ((gW cO (qB 1) gB) ++ (lW cI cJ he qe (LVf N n) ae)))) (zI (fun _ => -1)) (fun _ => True) (fun _ => (dO cI cJ hc qc vc ac) ++ ((bO cI cJ (qc 6) qB vB aB) ++ ((gW cO (qB 1) gB) ++ (lW cI cJ he qe (LVf N n) ae)))) 0 0 := by
  refine z_start (cc := cX10_breaks) (maxL := 3) (ret := (some .int)) (by decide) rfl (Nat.le_of_ble_eq_true rfl) ?_
  intro p e s m below meth c A ls F hr hlk hnm hAe hA hW hl
  have hx := F.1
  have hb := F.2.1
  have hown : s.vm.findClass RX10 = some m.cls := F.2.2.2.1
  have hts := F.2.2.2.2
  have hl : lv_has ls 3 [(0, .ref hc), (1, .int (iI n))] := hl
  obtain ⟨w0, w1, w2, hV, hls⟩ := id hWF
  obtain ⟨hL, hT⟩ := hls n (by omega) (by omega)
  obtain ⟨l0, l1, l2, l3, l4, l5, l6, l7, l8, l9, l10, l11, l12, l13, l14, l15⟩ := id hL
  have d12 : (zand (LF N n 7) 16 ≠ 0 ∧ (if zand (LF N n 7) 16 ≠ 0 then LF N n 12 else -1) = LF N n 12) ∨ (¬ zand (LF N n 7) 16 ≠ 0 ∧ (if zand (LF N n 7) 16 ≠ 0 then LF N n 12 else -1) = -1) := by by_cases q : zand (LF N n 7) 16 ≠ 0; (left; exact ⟨q, if_pos q⟩); (right; exact ⟨q, if_neg q⟩)
  have d13 : (0 < LF N n 13 ∧ (if 0 < LF N n 13 then LF N n 13 - 1 else 240) = LF N n 13 - 1) ∨ (¬ 0 < LF N n 13 ∧ (if 0 < LF N n 13 then LF N n 13 - 1 else 240) = 240) := by by_cases q : 0 < LF N n 13; (left; exact ⟨q, if_pos q⟩); (right; exact ⟨q, if_neg q⟩)
  refine lv_aload_n hx hb dX10_breaks_0 rfl (lv_at hl 0 rfl) ?_
  refine z_get (v := .ref (qc 6)) hx hb hts hiX10_breaks_X10 hown hW 0 6 1 rfl rfl rfl (by decide) rfl dX10_breaks_1 ?_
  refine lv_iload_n hx hb dX10_breaks_4 rfl (lv_at hl 1 rfl) ?_
  refine z_callV (As := [.int (iI n)]) (rest := []) F (c_X1_leaseAt  (qc 6) qB vB aB gB n  (show -2147483648 ≤ n ∧ n < 2147483648 by omega) (show 0 ≤ (vB 4) ∧ (vB 4) ≤ 6 by omega)) gX10_breaks_X1_leaseAt rfl ziX1_leaseAt ⟨rfl, rfl, by decide, by decide⟩ rfl hl.1 rfl (Nat.le_of_ble_eq_true rfl) dX10_breaks_5 ⟨Nat.zero_le _, Nat.zero_le _⟩ hW hA [1, 2, 3] rfl (by decide) (fun _ => rfl) (fun _ => (dO cI cJ hc qc vc ac) ++ ((bO cI cJ (qc 6) qB vB aB) ++ ((gW cO (qB 1) gB) ++ (lW cI cJ he qe (LVf N n) ae)))) (fun _ => rfl) (fun _ => [va_rf (if 0 ≤ n ∧ n < (vB 4) then some (gB n.toNat) else none)]) (fun _ => rfl) 1 rfl rfl rfl (fun _ H locs hp5 hW => ?_)
  rw [if_pos (show 0 ≤ n ∧ n < vB 4 by omega), hg]
  refine W.eq (g2 := F0 m 8 ls [.ref he]) rfl ?_
  refine lv_astore_n (lv' := [(2, .ref he), (0, .ref hc), (1, .int (iI n))]) hx hb dX10_breaks_8 rfl hl (by decide) rfl (fun ls hl => ?_)
  refine lv_aload_n hx hb dX10_breaks_9 rfl (lv_at hl 0 rfl) ?_
  refine lv_ifnull hx hb dX10_breaks_10 ?_
  refine lv_aload_n hx hb dX10_breaks_13 rfl (lv_at hl 0 rfl) ?_
  refine z_get (v := .int (iI (if zand (LF N n 7) 16 ≠ 0 then LF N n 12 else -1))) hx hb hts hiX10_breaks_X2 hown hW 4 12 2 rfl rfl rfl (by decide) rfl dX10_breaks_14 ?_
  refine z_iconst (n := -1) hx hb dX10_breaks_17 ?_
  refine z_icmp_ne (tgt := 23) hx hb dX10_breaks_18 (by decide) ⟨by omega, by omega⟩ (by decide) (fun c18 => ?_) (fun c18 => ?_)
  · refine lv_aload_n hx hb dX10_breaks_23 rfl (lv_at hl 0 rfl) ?_
    refine z_get (v := .int (iI (if zand (LF N n 7) 16 ≠ 0 then LF N n 12 else -1))) hx hb hts hiX10_breaks_X2 hown hW 4 12 2 rfl rfl rfl (by decide) rfl dX10_breaks_24 ?_
    refine lv_aload_n hx hb dX10_breaks_27 rfl (lv_at hl 1 rfl) ?_
    refine z_get (v := .int (iI (vc 8))) hx hb hts hiX10_breaks_X10 hown hW 0 8 3 rfl rfl rfl (by decide) rfl dX10_breaks_28 ?_
    refine z_icmp_le (tgt := 44) hx hb dX10_breaks_31 (by decide) ⟨by omega, by omega⟩ ⟨by omega, by omega⟩ (fun c31 => ?_) (fun c31 => ?_)
    · refine z_iconst (n := -1) hx hb dX10_breaks_44 ?_
      exact z_iret hx hb hr hlk hW () (by first | rfl | omega) trivial rfl dX10_breaks_45
    · refine lv_aload_n hx hb dX10_breaks_34 rfl (lv_at hl 0 rfl) ?_
      refine z_get (v := .int (iI (if 0 < LF N n 13 then LF N n 13 - 1 else 240))) hx hb hts hiX10_breaks_X2 hown hW 4 13 4 rfl rfl rfl (by decide) rfl dX10_breaks_35 ?_
      refine z_sipush hx hb dX10_breaks_38 (by decide +kernel) ?_
      refine z_icmp_eq (tgt := 46) hx hb dX10_breaks_41 (by decide) ⟨by omega, by omega⟩ (by decide) (fun c41 => ?_) (fun c41 => ?_)
      · exact absurd ⟨by omega, by omega, by omega, by omega⟩ hok
      · refine z_iconst (n := -1) hx hb dX10_breaks_44 ?_
        exact z_iret hx hb hr hlk hW () (by first | rfl | omega) trivial rfl dX10_breaks_45
  · refine z_iconst (n := -1) hx hb dX10_breaks_21 ?_
    exact z_iret hx hb hr hlk hW () (by first | rfl | omega) trivial rfl dX10_breaks_22
set_option maxHeartbeats 4000000 in
set_option maxRecDepth 100000 in
theorem c_X10_breaks1 {l : Launch} {G : va_G} {cI cJ cO : ClassId} (N : Int → Int) (hc : Nat) (qc : Nat → Nat) (vc : Nat → Int) (ac : Nat → Int → Int) (qB : Nat → Nat) (vB : Nat → Int) (aB : Nat → Int → Int) (gB : Nat → Nat) (n : Int)  (h1 : -2147483648 ≤ n ∧ n < 2147483648) (cL : ¬ (0 ≤ n ∧ n < vB 4)) (hv4 : vB 4 = N 2) (hWF : WF N) : zC l yX10_breaks wsX10_breaks { frames := 2, cells := 0, slots := 0, locals := 44 } G (tyZ cI cJ cO) (S := Unit) [.ref hc, .int (iI n)] ((dO cI cJ hc qc vc ac) ++ ((bO cI cJ (qc 6) qB vB aB) ++ (gW cO (qB 1) gB))) (zI (fun _ => -1)) (fun _ => True) (fun _ => (dO cI cJ hc qc vc ac) ++ ((bO cI cJ (qc 6) qB vB aB) ++ (gW cO (qB 1) gB))) 0 0 := by
  refine z_start (cc := cX10_breaks) (maxL := 3) (ret := (some .int)) (by decide) rfl (Nat.le_of_ble_eq_true rfl) ?_
  intro p e s m below meth c A ls F hr hlk hnm hAe hA hW hl
  have hx := F.1
  have hb := F.2.1
  have hown : s.vm.findClass RX10 = some m.cls := F.2.2.2.1
  have hts := F.2.2.2.2
  have hl : lv_has ls 3 [(0, .ref hc), (1, .int (iI n))] := hl
  obtain ⟨w0, w1, w2, hV, hls⟩ := id hWF
  refine lv_aload_n hx hb dX10_breaks_0 rfl (lv_at hl 0 rfl) ?_
  refine z_get (v := .ref (qc 6)) hx hb hts hiX10_breaks_X10 hown hW 0 6 1 rfl rfl rfl (by decide) rfl dX10_breaks_1 ?_
  refine lv_iload_n hx hb dX10_breaks_4 rfl (lv_at hl 1 rfl) ?_
  refine z_callV (As := [.int (iI n)]) (rest := []) F (c_X1_leaseAt  (qc 6) qB vB aB gB n  (show -2147483648 ≤ n ∧ n < 2147483648 by omega) (show 0 ≤ (vB 4) ∧ (vB 4) ≤ 6 by omega)) gX10_breaks_X1_leaseAt rfl ziX1_leaseAt ⟨rfl, rfl, by decide, by decide⟩ rfl hl.1 rfl (Nat.le_of_ble_eq_true rfl) dX10_breaks_5 ⟨Nat.zero_le _, Nat.zero_le _⟩ hW hA [1, 2, 3] rfl (by decide) (fun _ => rfl) (fun _ => (dO cI cJ hc qc vc ac) ++ ((bO cI cJ (qc 6) qB vB aB) ++ (gW cO (qB 1) gB))) (fun _ => rfl) (fun _ => [va_rf (if 0 ≤ n ∧ n < (vB 4) then some (gB n.toNat) else none)]) (fun _ => rfl) 1 rfl rfl rfl (fun _ H locs hp5 hW => ?_)
  rw [if_neg cL]
  refine W.eq (g2 := F0 m 8 ls [.null]) rfl ?_
  refine lv_astore_nN (lv' := [(2, .null), (0, .ref hc), (1, .int (iI n))]) hx hb dX10_breaks_8 rfl hl (by decide) rfl (fun ls hl => ?_)
  refine lv_aload_nN hx hb dX10_breaks_9 rfl (lv_at hl 0 rfl) ?_
  refine lv_ifnullN (tgt := 21) hx hb dX10_breaks_10 (by decide) ?_
  refine z_iconst (n := -1) hx hb dX10_breaks_21 ?_
  exact z_iret hx hb hr hlk hW () (by first | rfl | omega) trivial rfl dX10_breaks_22
