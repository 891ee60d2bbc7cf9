/-! lease() with the words that the tables have of its throw -/
def xAg : List Cond := xAw.filter goodWord
def wsXL : List Cond := .code yX10_lease cX10_lease 4 (some .int) :: ((wsX10_lease_r1 ++ wsX10_lease_r2) ++ wsX100 ++ wsX20 ++ wsX10 ++ xAg)
set_option maxRecDepth 20000 in
theorem ggXL_X1_leaseAt : GoodIn wsXL wsX1_leaseAt := goodIn_r _ [15, 16, 17, 57, 58, 59, 60, 61] (by decide +kernel) (by decide +kernel)
set_option maxRecDepth 20000 in
theorem gXL_X1_leaseAt : GoodIn wsXL (wsV RX10 100 RX1 yX1_leaseAt wsX1_leaseAt) := goodIn_app (goodIn_of _ (by decide +kernel)) ggXL_X1_leaseAt
set_option maxRecDepth 20000 in
theorem ggXL_X2_endKnownIn : GoodIn wsXL wsX2_endKnownIn := goodIn_r _ [22, 23, 24, 25, 26, 43, 44, 45, 46, 47, 48, 49, 50, 51, 52, 53, 54, 55, 56] (by decide +kernel) (by decide +kernel)
set_option maxRecDepth 20000 in
theorem gXL_X2_endKnownIn : GoodIn wsXL (wsV RX10 131 RX2 yX2_endKnownIn wsX2_endKnownIn) := goodIn_app (goodIn_of _ (by decide +kernel)) ggXL_X2_endKnownIn
set_option maxRecDepth 20000 in
theorem ggXL_X2_reviews : GoodIn wsXL wsX2_reviews := goodIn_r _ [30, 31, 32, 26, 43, 44, 45, 46, 47, 48, 49, 50, 51, 52, 53, 54, 55, 56] (by decide +kernel) (by decide +kernel)
set_option maxRecDepth 20000 in
theorem gXL_X2_reviews : GoodIn wsXL (wsV RX10 135 RX2 yX2_reviews wsX2_reviews) := goodIn_app (goodIn_of _ (by decide +kernel)) ggXL_X2_reviews
theorem hiXL_X10 : ∀ w ∈ wsX100, w ∈ wsXL := fun _ h => List.mem_cons_of_mem _ (List.mem_append_left _ (List.mem_append_left _ (List.mem_append_left _ (List.mem_append_right _ h))))
theorem hiXL_X2 : ∀ w ∈ wsX20, w ∈ wsXL := fun _ h => List.mem_cons_of_mem _ (List.mem_append_left _ (List.mem_append_left _ (List.mem_append_right _ h)))
theorem hiXL_X1 : ∀ w ∈ wsX10, w ∈ wsXL := fun _ h => List.mem_cons_of_mem _ (List.mem_append_left _ (List.mem_append_right _ h))
set_option maxHeartbeats 4000000 in
set_option maxRecDepth 100000 in
theorem c_XL_lease {l : Launch} {G : va_G} {cI cJ cO : ClassId} (N : Int → Int) (hc : Nat) (qc : Nat → Nat) (vc : Nat → Int) (ac : Nat → Int → Int) (qB : Nat → Nat) (vB : Nat → Int) (aB : Nat → Int → Int) (gB : Nat → Nat) (he : Nat) (qe : Nat → Nat) (ae : Nat → Int → Int) (n w : Int)  (h1 : -2147483648 ≤ n ∧ n < 2147483648) (h2 : 0 ≤ w ∧ w ≤ 7) (hnow : 0 ≤ vc 8 ∧ vc 8 ≤ 239) (hnw : vc 8 = N 0) (hn : 0 ≤ n ∧ n < vB 4) (hg : gB n.toNat = he) (hv4 : vB 4 = N 2) (hWF : WF N) (hTR : TR N n ae) (hWb : WFb N n) : zC l yX10_lease wsXL { frames := 4, cells := 0, slots := 0, locals := 100 } G (tyZ cI cJ cO) (S := Unit) [.ref hc, .int (iI n), .int (iI w)] ((dO cI cJ hc qc vc ac) ++ ((bO cI cJ (qc 6) qB vB aB) ++ ((gW cO (qB 1) gB) ++ (lW cI cJ he qe (LVf N n) ae)))) (zI (fun _ => A_lease N n w)) (fun _ => True) (fun _ => (dO cI cJ hc qc vc ac) ++ ((bO cI cJ (qc 6) qB vB aB) ++ ((gW cO (qB 1) gB) ++ (lW cI cJ he qe (LVf N n) ae)))) 0 0 := by
  refine z_start (cc := cX10_lease) (maxL := 4) (ret := (some .int)) (by decide) rfl (Nat.le_of_ble_eq_true rfl) ?_
  intro p e s m below meth c A ls F hr hlk hnm hAe hA hW hl
  have hx := F.1
  have hb := F.2.1
  have hown : s.vm.findClass RX10 = some m.cls := F.2.2.2.1
  have hts := F.2.2.2.2
  have hl : lv_has ls 4 [(0, .ref hc), (1, .int (iI n)), (2, .int (iI w))] := hl
  obtain ⟨w0, w1, w2, hV, hls⟩ := id hWF
  obtain ⟨hL, hT⟩ := hls n (by omega) (by omega)
  obtain ⟨l0, l1, l2, l3, l4, l5, l6, l7, l8, l9, l10, l11, l12, l13, l14, l15⟩ := id hL
  refine lv_aload_n hx hb dX10_lease_0 rfl (lv_at hl 0 rfl) ?_
  refine z_get (v := .ref (qc 6)) hx hb hts hiXL_X10 hown hW 0 6 3 rfl rfl rfl (by decide) rfl dX10_lease_1 ?_
  refine lv_iload_n hx hb dX10_lease_4 rfl (lv_at hl 1 rfl) ?_
  refine z_callV (As := [.int (iI n)]) (rest := []) F (c_X1_leaseAt  (qc 6) qB vB aB gB n  (show -2147483648 ≤ n ∧ n < 2147483648 by omega) (show 0 ≤ (vB 4) ∧ (vB 4) ≤ 6 by omega)) gXL_X1_leaseAt rfl ziX1_leaseAt ⟨rfl, rfl, by decide, by decide⟩ rfl hl.1 rfl (Nat.le_of_ble_eq_true rfl) dX10_lease_5 ⟨Nat.zero_le _, Nat.zero_le _⟩ hW hA [1, 2, 3] rfl (by decide) (fun _ => rfl) (fun _ => (dO cI cJ hc qc vc ac) ++ ((bO cI cJ (qc 6) qB vB aB) ++ ((gW cO (qB 1) gB) ++ (lW cI cJ he qe (LVf N n) ae)))) (fun _ => rfl) (fun _ => [va_rf (if 0 ≤ n ∧ n < (vB 4) then some (gB n.toNat) else none)]) (fun _ => rfl) 1 rfl rfl rfl (fun _ H locs hp5 hW => ?_)
  rw [if_pos (show 0 ≤ n ∧ n < vB 4 by omega), hg]
  refine W.eq (g2 := F0 m 8 ls [.ref he]) rfl ?_
  refine lv_astore_n (lv' := [(3, .ref he), (0, .ref hc), (1, .int (iI n)), (2, .int (iI w))]) hx hb dX10_lease_8 rfl hl (by decide) rfl (fun ls hl => ?_)
  refine lv_aload_n hx hb dX10_lease_9 rfl (lv_at hl 0 rfl) ?_
  refine lv_ifnonnull (tgt := 23) hx hb dX10_lease_10 (by decide) ?_
  refine lv_iload_n hx hb dX10_lease_23 rfl (lv_at hl 3 rfl) ?_
  by_cases c24_0 : w = 0
  · refine z_tabIn (z := 0) (tgt := 72) hx hb dX10_lease_24 c24_0 (by decide) (by decide) (by decide) rfl (by decide) ?_
    refine lv_aload_n hx hb dX10_lease_72 rfl (lv_at hl 0 rfl) ?_
    refine z_get (v := .int (iI (LF N n 0))) hx hb hts hiXL_X2 hown hW 4 4 4 rfl rfl rfl (by decide) rfl dX10_lease_73 ?_
    exact z_iret hx hb hr hlk hW () (by unfold A_lease; rw [if_pos (by omega)]; subst_vars; first | rfl | (congr 1; omega)) trivial rfl dX10_lease_76
  by_cases c24_1 : w = 1
  · refine z_tabIn (z := 1) (tgt := 77) hx hb dX10_lease_24 c24_1 (by decide) (by decide) (by decide) rfl (by decide) ?_
    refine lv_aload_n hx hb dX10_lease_77 rfl (lv_at hl 0 rfl) ?_
    refine z_get (v := .int (iI (LF N n 1))) hx hb hts hiXL_X2 hown hW 4 5 5 rfl rfl rfl (by decide) rfl dX10_lease_78 ?_
    exact z_iret hx hb hr hlk hW () (by unfold A_lease; rw [if_pos (by omega)]; subst_vars; first | rfl | (congr 1; omega)) trivial rfl dX10_lease_81
  by_cases c24_2 : w = 2
  · refine z_tabIn (z := 2) (tgt := 82) hx hb dX10_lease_24 c24_2 (by decide) (by decide) (by decide) rfl (by decide) ?_
    refine lv_aload_n hx hb dX10_lease_82 rfl (lv_at hl 0 rfl) ?_
    refine z_get (v := .int (iI (LF N n 2))) hx hb hts hiXL_X2 hown hW 4 6 6 rfl rfl rfl (by decide) rfl dX10_lease_83 ?_
    exact z_iret hx hb hr hlk hW () (by unfold A_lease; rw [if_pos (by omega)]; subst_vars; first | rfl | (congr 1; omega)) trivial rfl dX10_lease_86
  by_cases c24_3 : w = 3
  · refine z_tabIn (z := 3) (tgt := 87) hx hb dX10_lease_24 c24_3 (by decide) (by decide) (by decide) rfl (by decide) ?_
    refine lv_aload_n hx hb dX10_lease_87 rfl (lv_at hl 0 rfl) ?_
    refine z_get (v := .int (iI (LF N n 3))) hx hb hts hiXL_X2 hown hW 4 7 7 rfl rfl rfl (by decide) rfl dX10_lease_88 ?_
    exact z_iret hx hb hr hlk hW () (by unfold A_lease; rw [if_pos (by omega)]; subst_vars; first | rfl | (congr 1; omega)) trivial rfl dX10_lease_91
  by_cases c24_4 : w = 4
  · refine z_tabIn (z := 4) (tgt := 92) hx hb dX10_lease_24 c24_4 (by decide) (by decide) (by decide) rfl (by decide) ?_
    refine lv_aload_n hx hb dX10_lease_92 rfl (lv_at hl 0 rfl) ?_
    refine z_get (v := .int (iI (LF N n 4))) hx hb hts hiXL_X2 hown hW 4 8 8 rfl rfl rfl (by decide) rfl dX10_lease_93 ?_
    exact z_iret hx hb hr hlk hW () (by unfold A_lease; rw [if_pos (by omega)]; subst_vars; first | rfl | (congr 1; omega)) trivial rfl dX10_lease_96
  by_cases c24_5 : w = 5
  · refine z_tabIn (z := 5) (tgt := 97) hx hb dX10_lease_24 c24_5 (by decide) (by decide) (by decide) rfl (by decide) ?_
    refine lv_aload_n hx hb dX10_lease_97 rfl (lv_at hl 0 rfl) ?_
    refine z_get (v := .int (iI (LF N n 5))) hx hb hts hiXL_X2 hown hW 4 9 9 rfl rfl rfl (by decide) rfl dX10_lease_98 ?_
    exact z_iret hx hb hr hlk hW () (by unfold A_lease; rw [if_pos (by omega)]; subst_vars; first | rfl | (congr 1; omega)) trivial rfl dX10_lease_101
  by_cases c24_6 : w = 6
  · refine z_tabIn (z := 6) (tgt := 102) hx hb dX10_lease_24 c24_6 (by decide) (by decide) (by decide) rfl (by decide) ?_
    have l13b : 0 ≤ (if 0 < LF N n 13 then LF N n 13 - 1 else 240) ∧ (if 0 < LF N n 13 then LF N n 13 - 1 else 240) ≤ 240 := by split <;> omega
    refine lv_aload_n hx hb dX10_lease_102 rfl (lv_at hl 0 rfl) ?_
    refine lv_aload_n hx hb dX10_lease_103 rfl (lv_at hl 1 rfl) ?_
    refine z_get (v := .int (iI (vc 8))) hx hb hts hiXL_X10 hown hW 0 8 10 rfl rfl rfl (by decide) rfl dX10_lease_104 ?_
    refine z_callV (As := [.int (iI (vc 8))]) (rest := []) F (c_X2_endKnownIn  he qe (LVf N n) ae (vc 8)  (show -2147483648 ≤ (vc 8) ∧ (vc 8) < 2147483648 by omega) (show 0 ≤ (if 0 < LF N n 13 then LF N n 13 - 1 else 240) ∧ (if 0 < LF N n 13 then LF N n 13 - 1 else 240) ≤ 240 by omega)) gXL_X2_endKnownIn rfl ziX2_endKnownIn ⟨rfl, rfl, by decide, by decide⟩ rfl hl.1 rfl (Nat.le_of_ble_eq_true rfl) dX10_lease_107 ⟨Nat.zero_le _, Nat.zero_le _⟩ hW hA [4, 5, 6, 7, 8] rfl (by decide) (fun _ => rfl) (fun _ => (dO cI cJ hc qc vc ac) ++ ((bO cI cJ (qc 6) qB vB aB) ++ ((gW cO (qB 1) gB) ++ (lW cI cJ he qe (LVf N n) ae)))) (fun _ => rfl) (fun _ => [.int (iI (if (if 0 < LF N n 13 then LF N n 13 - 1 else 240) ≤ (vc 8) then (if zand (LF N n 7) 16 ≠ 0 then LF N n 12 else -1) else (LF N n 0) + (LF N n 1)))]) (fun _ => rfl) 4 rfl rfl rfl (fun _ H locs hp107 hW => ?_)
    rw [ENDc hWb hL (show (vc 8) ≤ 239 by omega)]
    exact z_iret hx hb hr hlk hW () (by unfold A_lease; rw [if_neg (by omega), if_pos (by omega), hnw]) trivial rfl dX10_lease_110
  by_cases c24_7 : w = 7
  · refine z_tabIn (z := 7) (tgt := 111) hx hb dX10_lease_24 c24_7 (by decide) (by decide) (by decide) rfl (by decide) ?_
    refine lv_aload_n hx hb dX10_lease_111 rfl (lv_at hl 0 rfl) ?_
    refine z_callV (As := []) (rest := []) F (c_X2_reviews  he qe (LVf N n) ae   (show 0 ≤ (LF N n 5) ∧ (LF N n 5) ≤ 4 by omega) (show 0 ≤ (LF N n 3) ∧ (LF N n 3) ≤ 60 by omega) (show 0 ≤ (LF N n 1) ∧ (LF N n 1) ≤ 120 by omega)) gXL_X2_reviews rfl ziX2_reviews ⟨rfl, rfl, by decide, by decide⟩ rfl hl.1 rfl (Nat.le_of_ble_eq_true rfl) dX10_lease_112 ⟨Nat.zero_le _, Nat.zero_le _⟩ hW hA [4, 5, 6, 7, 8] rfl (by decide) (fun _ => rfl) (fun _ => (dO cI cJ hc qc vc ac) ++ ((bO cI cJ (qc 6) qB vB aB) ++ ((gW cO (qB 1) gB) ++ (lW cI cJ he qe (LVf N n) ae)))) (fun _ => rfl) (fun _ => [.int (iI (if (LF N n 5) = 0 ∨ (LF N n 3) < 1 then 0 else ((LF N n 1) - 1).tdiv ((LF N n 3))))]) (fun _ => rfl) 4 rfl rfl rfl (fun _ H locs hp112 hW => ?_)
    exact z_iret hx hb hr hlk hW () (by unfold A_lease; rw [if_neg (by omega), if_neg (by omega), REVc hL]) trivial rfl dX10_lease_115
  exfalso; omega
theorem xAg_in : ∀ w ∈ xAg, w ∈ wsXL := fun _ h => List.mem_cons_of_mem _ (List.mem_append_right _ h)
theorem xA_bad : ∀ w ∈ xAw.filter (fun w => !goodWord w), w ∈ xBd := by decide +kernel
theorem xA_ot : ∀ w ∈ Cond.classLink RX10 104 XE :: Cond.initialized XE :: xAw, vx_ot w = true := by decide +kernel
theorem xA_hat {args : Array Value} {s : State} (hts : ∀ w ∈ wsXL, w.before args s = true) (hB : xB s) : ∀ w ∈ xAw, w.before args s = true := vx_hat (fun w h => hts w (xAg_in w h)) xA_bad (hB.go (Vm.Alike.refl s.vm) args)
section XL
variable {p : Program} {l : Launch} {e : Env} {s : State} {m : MethodId} {args : Array Value} {below : List Frame} {meth : Method} {c : Code} {H : Heap} {locs : List Loc} {ls : Array Slot} {G : va_G} {tys : List (ClassId × FieldType)} {A : Nat → Prop} {aK aV : Nat → Nat} {wc : va_W}
theorem xl_throw (hfl : l.stackTraces = false) (F : CallFix p m c cX10_lease 4 s args wsXL RX10) (htab : ∀ x ∈ c.exceptionTable.toList, False) (hlk : meth.locks = false) (hAe : A = va_A wc s.heap.size) (hX : sX aK aV A s s.heap) (hB : xB s) (hW : zW G tys A s wc H locs) (hls : ls.size = 4) {pc i is : Nat} {text : String} (hi : i < 13) (hwr : wR i = (RX10, is, text))
    (d0 : decode cX10_lease pc = .ok (.new 104, 3)) (d3 : decode cX10_lease (pc + 3) = .ok (.dup, 1)) (d4 : decode cX10_lease (pc + 4) = .ok (.ldc is, 2)) (d6 : decode cX10_lease (pc + 6) = .ok (.invokespecial 108, 3)) (d9 : decode cX10_lease (pc + 9) = .ok (.athrow, 1)) :
    W p l e { frames := 6, cells := 1, slots := 6, locals := 100 } s m args below meth c H locs 0 0 (vx_MQ below (fun _ _ _ _ => False) (zXT G tys wc s.heap.size XE) args s 1 6 A) (F0 m pc ls []) := by
  have hstr := hX.2.2.2.1 i hi
  rw [hwr] at hstr
  refine xs_throw (A := A) (text := text) (sa := aK i) F.1 F.2.1 hfl F.2.2.2.1 (F.2.2.2.2 _ (List.mem_of_getElem? (i := 1) rfl)) (F.2.2.2.2 _ (List.mem_of_getElem? (i := 2) rfl)) hstr (xA_hat F.2.2.2.2 hB) xA_ot hX.2.2.2.2.1 hX.2.2.2.2.2 hW.2.2.2 (hls.trans F.2.2.1.symm) d0 d3 d4 d6 d9 (fun x h => (htab x h).elim) (Nat.le_of_ble_eq_true rfl) (Nat.le_of_ble_eq_true rfl) (Nat.le_of_ble_eq_true rfl) (Nat.le_of_ble_eq_true rfl) hlk (fun t hal hsz hk => ?_) hW.2.2.2.2.2 (Nat.le_refl _) (Nat.le_refl _)
  subst hAe
  refine ⟨rfl, fun k q hq => (hW.2.1 k q hq).kept (hk q.1 (hW.2.1 k q hq).lt), Nat.le_trans hW.2.2.2.1 hsz, fun q h1 h2 => (hk q (Nat.lt_of_lt_of_le h1 hW.2.2.2.1)).trans (hW.2.2.2.2.1 q h1 h2)⟩
end XL
set_option maxHeartbeats 4000000 in
set_option maxRecDepth 100000 in
theorem c_XL_throws {l : Launch} (hfl : l.stackTraces = false) {G : va_G} {cI cJ cO : ClassId} {aK aV : Nat → Nat} (hc : Nat) (qc : Nat → Nat) (vc : Nat → Int) (ac : Nat → Int → Int) (qB : Nat → Nat) (vB : Nat → Int) (aB : Nat → Int → Int) (gB : Nat → Nat) (n w : Int) (h1 : -2147483648 ≤ n ∧ n < 2147483648) (h2 : -2147483648 ≤ w ∧ w < 2147483648) (h3 : 0 ≤ vB 4 ∧ vB 4 ≤ 6) (hno : ¬ ((0 ≤ n ∧ n < vB 4) ∧ (0 ≤ w ∧ w ≤ 7))) : zCX l yX10_lease wsXL { frames := 6, cells := 1, slots := 6, locals := 100 } G (tyZ cI cJ cO) aK aV XE [.ref hc, .int (iI n), .int (iI w)] ((dO cI cJ hc qc vc ac) ++ ((bO cI cJ (qc 6) qB vB aB) ++ (gW cO (qB 1) gB))) 1 6 := by
  refine z_startX (cc := cX10_lease) (maxL := 4) (ret := (some .int)) (by decide) rfl (Nat.le_of_ble_eq_true rfl) ?_
  intro p e s m below meth c A ls F htab hlk hAe hA hW hl hX hB
  have hx := F.1
  have hb := F.2.1
  have hown : s.vm.findClass RX10 = some m.cls := F.2.2.2.1
  have hts := F.2.2.2.2
  have hl : lv_has ls 4 [(0, .ref hc), (1, .int (iI n)), (2, .int (iI w))] := hl
  refine lv_aload_n hx hb dX10_lease_0 rfl (lv_at hl 0 rfl) ?_
  refine z_get (v := .ref (qc 6)) hx hb hts hiXL_X10 hown hW 0 6 3 rfl rfl rfl (by decide) rfl dX10_lease_1 ?_
  refine lv_iload_n hx hb dX10_lease_4 rfl (lv_at hl 1 rfl) ?_
  refine z_callV (As := [.int (iI n)]) (rest := []) F (c_X1_leaseAt  (qc 6) qB vB aB gB n  h1 h3) gXL_X1_leaseAt rfl ziX1_leaseAt ⟨rfl, rfl, by decide, by decide⟩ rfl hl.1 rfl (Nat.le_of_ble_eq_true rfl) dX10_lease_5 ⟨Nat.zero_le _, Nat.zero_le _⟩ hW hA [1, 2, 3] rfl (by decide) (fun _ => rfl) (fun _ => (dO cI cJ hc qc vc ac) ++ ((bO cI cJ (qc 6) qB vB aB) ++ (gW cO (qB 1) gB))) (fun _ => rfl) (fun _ => [va_rf (if 0 ≤ n ∧ n < (vB 4) then some (gB n.toNat) else none)]) (fun _ => rfl) 1 rfl rfl rfl (fun _ H locs hp5 hW => ?_)
  by_cases hn : 0 ≤ n ∧ n < vB 4
  · rw [if_pos hn]
    refine W.eq (g2 := F0 m 8 ls [.ref (gB n.toNat)]) rfl ?_
    refine lv_astore_n (lv' := [(3, .ref (gB n.toNat)), (0, .ref hc), (1, .int (iI n)), (2, .int (iI w))]) hx hb dX10_lease_8 rfl hl (by decide) rfl (fun ls hl => ?_)
    refine lv_aload_n hx hb dX10_lease_9 rfl (lv_at hl 0 rfl) ?_
    refine lv_ifnonnull (tgt := 23) hx hb dX10_lease_10 (by decide) ?_
    refine lv_iload_n hx hb dX10_lease_23 rfl (lv_at hl 3 rfl) ?_
    refine z_tabOut (tgt := 116) hx hb dX10_lease_24 h2 (by omega) (by decide) ?_
    exact xl_throw hfl F htab hlk hAe hX hB hW hl.1 (i := 12) (by decide) rfl dX10_lease_116 dX10_lease_119 dX10_lease_120 dX10_lease_122 dX10_lease_125
  · rw [if_neg hn]
    refine W.eq (g2 := F0 m 8 ls [.null]) rfl ?_
    refine lv_astore_nN (lv' := [(3, .null), (0, .ref hc), (1, .int (iI n)), (2, .int (iI w))]) hx hb dX10_lease_8 rfl hl (by decide) rfl (fun ls hl => ?_)
    refine lv_aload_nN hx hb dX10_lease_9 rfl (lv_at hl 0 rfl) ?_
    refine lv_ifnonnullN hx hb dX10_lease_10 ?_
    exact xl_throw hfl F htab hlk hAe hX hB hW hl.1 (i := 11) (by decide) rfl dX10_lease_13 dX10_lease_16 dX10_lease_17 dX10_lease_19 dX10_lease_22
