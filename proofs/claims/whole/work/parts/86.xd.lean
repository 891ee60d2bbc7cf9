/-! the law's own lease() -/
def oW (cJ : ClassId) (b : Nat) (f : Int → Int) : va_W := [(b, .inl (cJ, 1, .inr (.inl (aL f))))]
def wsLL : List Cond := .codeWith yL_lease cL_lease 5 (some .int) [(0, 10, 13, 13)] :: ((wsL_lease_r1 ++ wsL_lease_r2) ++ wsX100 ++ wsX20 ++ wsX10 ++ xAg)
set_option maxRecDepth 20000 in
theorem ggLL_XL : GoodIn wsLL wsXL := goodIn_ca (goodIn_r _ [6, 7, 8, 9, 10, 11, 12, 13, 14, 15, 16, 17, 18, 19, 20, 21, 22, 23, 24, 25, 26, 27, 28, 29, 30, 31, 32, 33, 34, 35, 36, 37, 38, 39, 40, 41, 42, 43, 44, 45, 46, 47, 48, 49, 50, 51, 52, 53, 54, 55, 56, 57, 58, 59, 60, 61, 62, 63, 64, 65, 66, 67] (by decide +kernel) (by decide +kernel)) (goodIn_sub (fun _ h => List.mem_cons_of_mem _ (List.mem_append_right _ h)) (by decide +kernel))
set_option maxRecDepth 20000 in
theorem gLL_XL : GoodIn wsLL (wsV RL 7 RX10 yX10_lease wsXL) := goodIn_app (goodIn_of _ (by decide +kernel)) ggLL_XL
theorem dL_lease_0 : decode cL_lease 0 = .ok (.aload_n 3, 1) := by decide +kernel
theorem dL_lease_1 : decode cL_lease 1 = .ok (.iconst 0, 1) := by decide +kernel
theorem dL_lease_2 : decode cL_lease 2 = .ok (.aload_n 0, 1) := by decide +kernel
theorem dL_lease_3 : decode cL_lease 3 = .ok (.iload_n 1, 1) := by decide +kernel
theorem dL_lease_4 : decode cL_lease 4 = .ok (.iload_n 2, 1) := by decide +kernel
theorem dL_lease_5 : decode cL_lease 5 = .ok (.invokevirtual 7, 3) := by decide +kernel
theorem dL_lease_8 : decode cL_lease 8 = .ok (.i2l, 1) := by decide +kernel
theorem dL_lease_9 : decode cL_lease 9 = .ok (.lastore, 1) := by decide +kernel
theorem dL_lease_10 : decode cL_lease 10 = .ok (.goto 7, 3) := by decide +kernel
theorem dL_lease_13 : decode cL_lease 13 = .ok (.astore 4, 2) := by decide +kernel
theorem dL_lease_15 : decode cL_lease 15 = .ok (.iconst 1, 1) := by decide +kernel
theorem dL_lease_16 : decode cL_lease 16 = .ok (.ireturn, 1) := by decide +kernel
theorem dL_lease_17 : decode cL_lease 17 = .ok (.iconst 0, 1) := by decide +kernel
theorem dL_lease_18 : decode cL_lease 18 = .ok (.ireturn, 1) := by decide +kernel
theorem ziX10_leasL : yL_lease.cls ≠ "java/lang/invoke/MethodHandle" ∧ yL_lease.cls ≠ "java/lang/invoke/VarHandle" ∧ (parseMethodDescriptor yL_lease.desc).map (fun d => d.parameters.length) = some 4 := by decide +kernel
set_option maxHeartbeats 4000000 in
set_option maxRecDepth 100000 in
theorem c_LL_ok {l : Launch} {G : va_G} {cI cJ cO : ClassId} {aK aV : Nat → Nat} (N : Int → Int) (hc : Nat) (qc : Nat → Nat) (vc : Nat → Int) (ac : Nat → Int → Int) (qB : Nat → Nat) (vB : Nat → Int) (aB : Nat → Int → Int) (gB : Nat → Nat) (he : Nat) (qe : Nat → Nat) (ae : Nat → Int → Int) (ho : Nat) (fo : Int → Int) (n w : Int) (h1 : -2147483648 ≤ n ∧ n < 2147483648) (h2 : 0 ≤ w ∧ w ≤ 7) (hnow : 0 ≤ vc 8 ∧ vc 8 ≤ 239) (hnw : vc 8 = N 0) (hn : 0 ≤ n ∧ n < vB 4) (hg : gB n.toNat = he) (hv4 : vB 4 = N 2) (hWF : WF N) (hTR : TR N n ae) (hWb : WFb N n) : zCH l yL_lease wsLL { frames := 7, cells := 1, slots := 6, locals := 123 } G (tyZ cI cJ cO) aK aV (S := Unit) [.ref hc, .int (iI n), .int (iI w), .ref ho] (((dO cI cJ hc qc vc ac) ++ ((bO cI cJ (qc 6) qB vB aB) ++ ((gW cO (qB 1) gB) ++ (lW cI cJ he qe (LVf N n) ae)))) ++ oW cJ ho fo) (zI (fun _ => 0)) (fun _ => True) (fun _ => ((dO cI cJ hc qc vc ac) ++ ((bO cI cJ (qc 6) qB vB aB) ++ ((gW cO (qB 1) gB) ++ (lW cI cJ he qe (LVf N n) ae)))) ++ oW cJ ho (uI fo 0 (iI (A_lease N n w)).toInt)) 1 6 := by
  refine z_startH (cc := cL_lease) (maxL := 5) (ret := (some .int)) (by decide) rfl (Nat.le_of_ble_eq_true rfl) ?_
  intro p e s m below meth c A ls F htab hr hlk hAe hA hW hl hX hB
  have hx := F.1
  have hb := F.2.1
  have hl : lv_has ls 5 [(0, .ref hc), (1, .int (iI n)), (2, .int (iI w)), (3, .ref ho)] := hl
  refine lv_aload_n hx hb dL_lease_0 rfl (lv_at hl 3 rfl) ?_
  refine z_iconst (n := 0) hx hb dL_lease_1 ?_
  refine lv_aload_n hx hb dL_lease_2 rfl (lv_at hl 0 rfl) ?_
  refine lv_iload_n hx hb dL_lease_3 rfl (lv_at hl 1 rfl) ?_
  refine lv_iload_n hx hb dL_lease_4 rfl (lv_at hl 2 rfl) ?_
  refine zf_callV (As := [.int (iI n), .int (iI w)]) (rest := [.int (iI 0), .ref ho]) F (c_XL_lease N hc qc vc ac qB vB aB gB he qe ae n w h1 h2 hnow hnw hn hg hv4 hWF hTR hWb) gLL_XL rfl ziX10_lease ⟨rfl, rfl, by decide, by decide⟩ rfl hl.1 rfl (Nat.le_of_ble_eq_true rfl) dL_lease_5 ⟨Nat.zero_le _, Nat.zero_le _⟩ hW hA (fun _ => rfl) (fun _ => [.int (iI (A_lease N n w)), .int (iI 0), .ref ho]) (fun _ => rfl) rfl rfl rfl (fun _ H locs hp5 hW => ?_)
  have hz := iI_R (iI (A_lease N n w))
  obtain ⟨z, hz0⟩ : ∃ z, z = (iI (A_lease N n w)).toInt := ⟨_, rfl⟩
  have hA0 : iI (A_lease N n w) = iI z := by rw [hz0, ← iI_of]
  rw [← hz0] at hz
  refine W.eq (g2 := F0 m 8 ls [.int (iI z), .int (iI 0), .ref ho]) (by rw [hA0]) ?_
  refine z_i2l hx hb dL_lease_8 hz ?_
  refine z_last hx hb hW 9 1 (f := fo) rfl rfl (by decide) ⟨by decide, by decide⟩ dL_lease_9 (fun H locs hW => ?_)
  refine lv_goto (tgt := 17) hx hb dL_lease_10 (by decide) ?_
  refine z_iconst (n := 0) hx hb dL_lease_17 ?_
  refine W.widen (k := 1) (n := 6) (Nat.zero_le _) (Nat.zero_le _) ?_
  exact z_iret hx hb hr hlk hW () rfl trivial (by rw [← hz0]; rfl) dL_lease_18
set_option maxHeartbeats 4000000 in
set_option maxRecDepth 100000 in
theorem c_LL_no {l : Launch} (hfl : l.stackTraces = false) {G : va_G} {cI cJ cO : ClassId} {aK aV : Nat → Nat} (hc : Nat) (qc : Nat → Nat) (vc : Nat → Int) (ac : Nat → Int → Int) (qB : Nat → Nat) (vB : Nat → Int) (aB : Nat → Int → Int) (gB : Nat → Nat) (ho : Nat) (n w : Int) (h1 : -2147483648 ≤ n ∧ n < 2147483648) (h2 : -2147483648 ≤ w ∧ w < 2147483648) (h3 : 0 ≤ vB 4 ∧ vB 4 ≤ 6) (hno : ¬ ((0 ≤ n ∧ n < vB 4) ∧ (0 ≤ w ∧ w ≤ 7))) : zCH l yL_lease wsLL { frames := 7, cells := 1, slots := 6, locals := 123 } G (tyZ cI cJ cO) aK aV (S := Unit) [.ref hc, .int (iI n), .int (iI w), .ref ho] ((dO cI cJ hc qc vc ac) ++ ((bO cI cJ (qc 6) qB vB aB) ++ (gW cO (qB 1) gB))) (zI (fun _ => 1)) (fun _ => True) (fun _ => (dO cI cJ hc qc vc ac) ++ ((bO cI cJ (qc 6) qB vB aB) ++ (gW cO (qB 1) gB))) 1 6 := by
  refine z_startH (cc := cL_lease) (maxL := 5) (ret := (some .int)) (by decide) rfl (Nat.le_of_ble_eq_true rfl) ?_
  intro p e s m below meth c A ls F htab hr hlk hAe hA hW hl hX hB
  have hx := F.1
  have hb := F.2.1
  have hl : lv_has ls 5 [(0, .ref hc), (1, .int (iI n)), (2, .int (iI w)), (3, .ref ho)] := hl
  refine lv_aload_n hx hb dL_lease_0 rfl (lv_at hl 3 rfl) ?_
  refine z_iconst (n := 0) hx hb dL_lease_1 ?_
  refine lv_aload_n hx hb dL_lease_2 rfl (lv_at hl 0 rfl) ?_
  refine lv_iload_n hx hb dL_lease_3 rfl (lv_at hl 1 rfl) ?_
  refine lv_iload_n hx hb dL_lease_4 rfl (lv_at hl 2 rfl) ?_
  refine zf_callX (rs := []) (As := [.int (iI n), .int (iI w)]) (rest := [.int (iI 0), .ref ho]) F hX hB (c_XL_throws hfl hc qc vc ac qB vB aB gB n w h1 h2 h3 hno) gLL_XL rfl ziX10_lease ⟨rfl, rfl, by decide, by decide⟩ rfl hl.1 rfl (Nat.le_of_ble_eq_true rfl) dL_lease_5 ⟨Nat.le_refl _, Nat.le_refl _⟩ (by rw [List.append_nil]; exact hW) hA rfl rfl rfl (fun ce q9 H locs hW hce hcv hcl => ?_)
  rw [List.append_nil] at hW
  refine vx_catch (name := XE) F.2.2.2.1 [] ⟨0, 10, 13, 13⟩ [] (by rw [htab]; rfl) (fun z hz => by cases hz) (by decide) (by decide) (F.2.2.2.2 _ (List.mem_of_getElem? (i := 1) rfl)) (hB.go (Vm.Alike.refl s.vm) _ _ (by simp [xBd])) hce hcv hcl ?_
  refine lv_astore (lv' := [(4, .ref q9), (0, .ref hc), (1, .int (iI n)), (2, .int (iI w)), (3, .ref ho)]) hx hb dL_lease_13 hl (by decide) rfl (fun ls hl => ?_)
  refine z_iconst (n := 1) hx hb dL_lease_15 ?_
  exact z_iret hx hb hr hlk hW () rfl trivial rfl dL_lease_16
