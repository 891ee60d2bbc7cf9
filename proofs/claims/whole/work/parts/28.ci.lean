/-! the class: reviews, bills, truing up, spreads -/
theorem RVW_at {N : Int → Int} {x r : Int} (hL : WFl N x) (h1 : 0 ≤ r) (h2 : r ≤ REV N x) : RVW N x (LF N x 0 + r * LF N x 3) = r := by
  have l3 := hL.2.2.2.1
  have hm : 0 ≤ r * LF N x 3 := Int.mul_nonneg h1 (by omega)
  have a1 := (RVW_iff (r := r) hL (show LF N x 0 ≤ LF N x 0 + r * LF N x 3 by omega)).mpr ⟨h2, Int.le_refl _⟩
  have a2 := (RVW_iff (r := RVW N x (LF N x 0 + r * LF N x 3)) hL (show LF N x 0 ≤ LF N x 0 + r * LF N x 3 by omega)).mp (Int.le_refl _)
  rcases Int.lt_or_le r (RVW N x (LF N x 0 + r * LF N x 3)) with h | h
  · have a3 : (r + 1) * LF N x 3 ≤ RVW N x (LF N x 0 + r * LF N x 3) * LF N x 3 := Int.mul_le_mul_of_nonneg_right (by omega) (by omega)
    rw [Int.add_mul, Int.one_mul] at a3
    omega
  · omega
theorem TOG_SUM {N : Int → Int} {x : Int} : ∀ n : Nat, TOG N x n = SUM (SPR N x) (LF N x 0) n := by
  intro n
  induction n with
  | zero => rfl
  | succ n ih =>
    show TOG N x n + SPR1 N x (LF N x 0 + (n : Int)) (TOG N x n) = SUM (SPR N x) (LF N x 0) n + SPR N x (LF N x 0 + (n : Int))
    rw [← ih]
    unfold SPR
    rw [show (LF N x 0 + (n : Int) - LF N x 0).toNat = n by omega]
theorem SUM_sub {f g : Int → Int} {i : Int} : ∀ n : Nat, SUM (fun m => f m - g m) i n = SUM f i n - SUM g i n := by
  intro n
  induction n with
  | zero => show (0 : Int) = 0 - 0; omega
  | succ n ih =>
    show SUM (fun m => f m - g m) i n + (f (i + n) - g (i + n)) = (SUM f i n + f (i + n)) - (SUM g i n + g (i + n))
    rw [ih]; omega
/-- no news in a month: all dues stay -/
def NWS (N : Int → Int) (f : Int → Int) : Prop := ∀ (i : Nat) (m : Int), (i : Int) < N 2 → LF N i 0 < m → m ≤ 239 → ¬ 0 < f m → ALLD N i m = ALLD N i (m - 1)
theorem hiX10_review_X10 : ∀ w ∈ wsX100, w ∈ wsX10_review := fun _ h => List.mem_cons_of_mem _ (List.mem_append_left _ (List.mem_append_left _ (List.mem_append_left _ (List.mem_append_left _ (List.mem_append_left _ (List.mem_append_right _ h))))))
theorem hiX10_review_X1 : ∀ w ∈ wsX10, w ∈ wsX10_review := fun _ h => List.mem_cons_of_mem _ (List.mem_append_left _ (List.mem_append_left _ (List.mem_append_left _ (List.mem_append_left _ (List.mem_append_right _ h)))))
theorem hiX10_review_X9 : ∀ w ∈ wsX90, w ∈ wsX10_review := fun _ h => List.mem_cons_of_mem _ (List.mem_append_left _ (List.mem_append_left _ (List.mem_append_left _ (List.mem_append_right _ h))))
theorem hiX10_review_X2 : ∀ w ∈ wsX20, w ∈ wsX10_review := fun _ h => List.mem_cons_of_mem _ (List.mem_append_left _ (List.mem_append_left _ (List.mem_append_right _ h)))
theorem hiX10_review_X3 : ∀ w ∈ wsX30, w ∈ wsX10_review := fun _ h => List.mem_cons_of_mem _ (List.mem_append_left _ (List.mem_append_right _ h))
theorem hiX10_review_X8 : ∀ w ∈ wsX80, w ∈ wsX10_review := fun _ h => List.mem_cons_of_mem _ (List.mem_append_right _ h)
theorem ziX10_review : yX10_review.cls = RX10 ∧ yX10_review.cls ≠ "java/lang/invoke/MethodHandle" ∧ yX10_review.cls ≠ "java/lang/invoke/VarHandle" ∧ (parseMethodDescriptor yX10_review.desc).map (fun d => d.parameters.length) = some 4 := by decide +kernel
set_option maxHeartbeats 4000000 in
set_option maxRecDepth 100000 in
theorem c_X10_review {l : Launch} {G : va_G} {cI cJ cO : ClassId} (N : Int → Int) (hc : Nat) (qc : Nat → Nat) (vc : Nat → Int) (ac : Nat → Int → Int) (qw : Nat → Nat) (vw : Nat → Int) (aw : Nat → Int → Int) (qB : Nat → Nat) (vB : Nat → Int) (aB : Nat → Int → Int) (gB : Nat → Nat) (qv : Nat → Nat) (vv : Nat → Int) (av : Nat → Int → Int) (he : Nat) (qe : Nat → Nat) (ae : Nat → Int → Int) (n r k w : Int)  (h1 : -2147483648 ≤ n ∧ n < 2147483648) (h2 : -2147483648 ≤ r ∧ r < 2147483648) (h3 : -2147483648 ≤ k ∧ k < 2147483648) (h4 : -2147483648 ≤ w ∧ w < 2147483648) (hn : 0 ≤ n ∧ n < vB 4) (hg : gB n.toNat = he) (hv4 : vB 4 = N 2) (hWF : WF N) (hRV : RV N av) (hTR : TR N n ae) (hWb : WFb N n) : zC l yX10_review wsX10_review { frames := 4, cells := 0, slots := 0, locals := 96 } G (tyZ cI cJ cO) (S := Int × Int × Int × Int × Int × Int × (Int → Int)) [.ref hc, .int (iI n), .int (iI r), .int (iI k), .int (iI w)] ((dO cI cJ hc qc vc ac) ++ ((kO cI cJ (qc 3) qw vw aw) ++ ((iW cI cJ (qc 3) qw vw aw) ++ ((bO cI cJ (qc 6) qB vB aB) ++ ((gW cO (qB 1) gB) ++ ((vW cI cJ (qB 0) qv vv av) ++ (lW cI cJ he qe (LVf N n) ae))))))) (zI (fun _ => A_review N n r k w)) (fun u => True) (fun u => (dO cI cJ hc qc vc ac) ++ ((kO cI cJ (qc 3) qw (mk6 u.1 u.2.1 u.2.2.1 u.2.2.2.1 u.2.2.2.2.1 u.2.2.2.2.2.1) (uA aw 0 u.2.2.2.2.2.2)) ++ ((iW cI cJ (qc 3) qw (mk6 u.1 u.2.1 u.2.2.1 u.2.2.2.1 u.2.2.2.2.1 u.2.2.2.2.2.1) (uA aw 0 u.2.2.2.2.2.2)) ++ ((bO cI cJ (qc 6) qB vB aB) ++ ((gW cO (qB 1) gB) ++ ((vW cI cJ (qB 0) qv vv av) ++ (lW cI cJ he qe (LVf N n) ae))))))) 0 0 := by
  refine z_start (cc := cX10_review) (maxL := 6) (ret := (some .int)) (by decide) rfl (Nat.le_of_ble_eq_true rfl) ?_
  intro p e s m below meth c A ls F hr hlk hnm hAe hA hW hl
  have hx := F.1
  have hb := F.2.1
  have hown : s.vm.findClass RX10 = some m.cls := F.2.2.2.1
  have hts := F.2.2.2.2
  have hl : lv_has ls 6 [(0, .ref hc), (1, .int (iI n)), (2, .int (iI r)), (3, .int (iI k)), (4, .int (iI w))] := hl
  obtain ⟨w0, w1, w2, hV, hls⟩ := id hWF
  obtain ⟨hL, hT⟩ := hls n (by omega) (by omega)
  obtain ⟨l0, l1, l2, l3, l4, l5, l6, l7, l8, l9, l10, l11, l12, l13, l14, l15⟩ := id hL
  refine lv_aload_n hx hb dX10_review_0 rfl (lv_at hl 0 rfl) ?_
  refine z_get (v := .ref (qc 6)) hx hb hts hiX10_review_X10 hown hW 0 6 1 rfl rfl rfl (by decide) rfl dX10_review_1 ?_
  refine lv_iload_n hx hb dX10_review_4 rfl (lv_at hl 1 rfl) ?_
  refine z_callV (As := [.int (iI n)]) (rest := []) F (c_X1_leaseAt  (qc 6) qB vB aB gB n  (show -2147483648 ≤ n ∧ n < 2147483648 by omega) (show 0 ≤ (vB 4) ∧ (vB 4) ≤ 6 by omega)) gX10_review_X1_leaseAt rfl ziX1_leaseAt ⟨rfl, rfl, by decide, by decide⟩ rfl hl.1 rfl (Nat.le_of_ble_eq_true rfl) dX10_review_5 ⟨Nat.zero_le _, Nat.zero_le _⟩ hW hA [3, 4, 5] rfl (by decide) (fun _ => rfl) (fun _ => (dO cI cJ hc qc vc ac) ++ ((kO cI cJ (qc 3) qw vw aw) ++ ((iW cI cJ (qc 3) qw vw aw) ++ ((bO cI cJ (qc 6) qB vB aB) ++ ((gW cO (qB 1) gB) ++ ((vW cI cJ (qB 0) qv vv av) ++ (lW cI cJ he qe (LVf N n) ae))))))) (fun _ => rfl) (fun _ => [va_rf (if 0 ≤ n ∧ n < (vB 4) then some (gB n.toNat) else none)]) (fun _ => rfl) 3 rfl rfl rfl (fun _ H locs hp5 hW => ?_)
  rw [if_pos (show 0 ≤ n ∧ n < vB 4 by omega), hg]
  refine W.eq (g2 := F0 m 8 ls [.ref he]) rfl ?_
  have hRv := REV_R hL
  refine lv_astore (lv' := [(5, .ref he), (0, .ref hc), (1, .int (iI n)), (2, .int (iI r)), (3, .int (iI k)), (4, .int (iI w))]) hx hb dX10_review_8 hl (by decide) rfl (fun ls hl => ?_)
  refine lv_aload hx hb dX10_review_10 (lv_at hl 0 rfl) ?_
  refine lv_ifnull hx hb dX10_review_12 ?_
  refine lv_aload hx hb dX10_review_15 (lv_at hl 0 rfl) ?_
  refine lv_iload_n hx hb dX10_review_17 rfl (lv_at hl 3 rfl) ?_
  refine z_callV (As := [.int (iI r)]) (rest := []) F (c_X2_hasReview  he qe (LVf N n) ae r (REV N n) (show -2147483648 ≤ r ∧ r < 2147483648 by omega) (show 0 ≤ (LF N n 5) ∧ (LF N n 5) ≤ 4 by omega) (show 0 ≤ (LF N n 3) ∧ (LF N n 3) ≤ 60 by omega) (show 0 ≤ (LF N n 1) ∧ (LF N n 1) ≤ 120 by omega) ⟨REVc hL, hRv.1, hRv.2.1⟩) gX10_review_X2_hasReview rfl ziX2_hasReview ⟨rfl, rfl, by decide, by decide⟩ rfl hl.1 rfl (Nat.le_of_ble_eq_true rfl) dX10_review_18 ⟨Nat.zero_le _, Nat.zero_le _⟩ hW hA [9, 10, 11, 12, 13] rfl (by decide) (fun _ => rfl) (fun _ => (dO cI cJ hc qc vc ac) ++ ((kO cI cJ (qc 3) qw vw aw) ++ ((iW cI cJ (qc 3) qw vw aw) ++ ((bO cI cJ (qc 6) qB vB aB) ++ ((gW cO (qB 1) gB) ++ ((vW cI cJ (qB 0) qv vv av) ++ (lW cI cJ he qe (LVf N n) ae))))))) (fun _ => rfl) (fun _ => [.int (iI (bI (1 ≤ r ∧ r ≤ (REV N n))))]) (fun _ => rfl) 9 rfl rfl rfl (fun _ H locs hp18 hW => ?_)
  refine z_b_eq (tgt := 31) hx hb dX10_review_21 (by decide) (fun c21 => ?_) (fun c21 => ?_)
  · refine z_ldc hx hb (-100000000) hown (hts _ (List.mem_of_getElem? (i := 2) rfl)) (by decide +kernel) dX10_review_31 ?_
    exact z_iret hx hb hr hlk hW (⟨vw 1, vw 2, vw 3, vw 4, vw 5, vw 6, aw 0⟩) (by unfold A_review; exact if_neg (fun q9 => by obtain ⟨q1, q2, q3, q4⟩ := q9; omega)) trivial rfl dX10_review_33
  · refine lv_iload_n hx hb dX10_review_24 rfl (lv_at hl 4 rfl) ?_
    refine z_callS (As := [.int (iI k)]) (rest := []) F (c_X10_isMonth   k  (show -2147483648 ≤ k ∧ k < 2147483648 by omega)) gX10_review_X10_isMonth rfl ziX10_isMonth ⟨rfl, rfl, by decide, by decide⟩ rfl hl.1 rfl (Nat.le_of_ble_eq_true rfl) dX10_review_25 ⟨Nat.zero_le _, Nat.zero_le _⟩ hW hA [] rfl (by decide) (fun _ => rfl) (fun _ => (dO cI cJ hc qc vc ac) ++ ((kO cI cJ (qc 3) qw vw aw) ++ ((iW cI cJ (qc 3) qw vw aw) ++ ((bO cI cJ (qc 6) qB vB aB) ++ ((gW cO (qB 1) gB) ++ ((vW cI cJ (qB 0) qv vv av) ++ (lW cI cJ he qe (LVf N n) ae))))))) (fun _ => rfl) (fun _ => [.int (iI (bI (0 ≤ k ∧ k < 240)))]) (fun _ => rfl) (fun _ H locs hp25 hW => ?_)
    refine z_b_ne (tgt := 34) hx hb dX10_review_28 (by decide) (fun c28 => ?_) (fun c28 => ?_)
    · have hre : r * LF N n 3 ≤ REV N n * LF N n 3 := Int.mul_le_mul_of_nonneg_right (by omega) (by omega)
      have hre0 : 0 ≤ r * LF N n 3 := Int.mul_nonneg (by omega) (by omega)
      have hat := RVW_at (r := r) hL (by omega) (by omega)
      refine lv_aload_n hx hb dX10_review_34 rfl (lv_at hl 1 rfl) ?_
      refine z_get (v := .ref (qc 3)) hx hb hts hiX10_review_X10 hown hW 0 3 3 rfl rfl rfl (by decide) rfl dX10_review_35 ?_
      refine lv_aload hx hb dX10_review_38 (lv_at hl 0 rfl) ?_
      refine lv_aload_n hx hb dX10_review_40 rfl (lv_at hl 1 rfl) ?_
      refine z_get (v := .ref (qc 6)) hx hb hts hiX10_review_X10 hown hW 0 6 1 rfl rfl rfl (by decide) rfl dX10_review_41 ?_
      refine z_get (v := .ref (qB 0)) hx hb hts hiX10_review_X1 hown hW 3 0 4 rfl rfl rfl (by decide) rfl dX10_review_44 ?_
      refine lv_iload_n hx hb dX10_review_47 rfl (lv_at hl 4 rfl) ?_
      refine z_callV (As := [.ref he, .ref (qB 0), .int (iI k)]) (rest := []) F (c_X9_begin N n (qc 3) qw vw aw he qe ae (qB 0) qv vv av k  (show -2147483648 ≤ k ∧ k < 2147483648 by omega) hV hL hRV) gX10_review_X9_begin rfl ziX9_begin ⟨rfl, rfl, by decide, by decide⟩ rfl hl.1 rfl (Nat.le_of_ble_eq_true rfl) dX10_review_48 ⟨Nat.zero_le _, Nat.zero_le _⟩ hW hA [1, 2, 9, 10, 11, 12, 13, 6, 7, 8] rfl (by decide) (fun _ => rfl) (fun u => (dO cI cJ hc qc vc ac) ++ ((kO cI cJ (qc 3) qw (mk6 k 0 (LF N n 2) (-1) (LF N n 2) (LF N n 2)) (uA aw 0 u)) ++ ((iW cI cJ (qc 3) qw (mk6 k 0 (LF N n 2) (-1) (LF N n 2) (LF N n 2)) (uA aw 0 u)) ++ ((bO cI cJ (qc 6) qB vB aB) ++ ((gW cO (qB 1) gB) ++ ((vW cI cJ (qB 0) qv vv av) ++ (lW cI cJ he qe (LVf N n) ae))))))) (fun _ => rfl) (fun u => []) (fun _ => rfl) 1 rfl rfl rfl (fun u H locs hp48 hW => ?_)
      obtain ⟨g_1, rfl⟩ : ∃ z, z = u := ⟨_, rfl⟩
      have hp48 : rowI N n k g_1 := hp48
      have hW : zW G (tyZ cI cJ cO) A s ((dO cI cJ hc qc vc ac) ++ ((kO cI cJ (qc 3) qw (mk6 k 0 (LF N n 2) (-1) (LF N n 2) (LF N n 2)) (uA aw 0 g_1)) ++ ((iW cI cJ (qc 3) qw (mk6 k 0 (LF N n 2) (-1) (LF N n 2) (LF N n 2)) (uA aw 0 g_1)) ++ ((bO cI cJ (qc 6) qB vB aB) ++ ((gW cO (qB 1) gB) ++ ((vW cI cJ (qB 0) qv vv av) ++ (lW cI cJ he qe (LVf N n) ae))))))) H locs := hW
      refine lv_aload_n hx hb dX10_review_51 rfl (lv_at hl 1 rfl) ?_
      refine z_get (v := .ref (qc 3)) hx hb hts hiX10_review_X10 hown hW 0 3 3 rfl rfl rfl (by decide) rfl dX10_review_52 ?_
      refine lv_aload hx hb dX10_review_55 (lv_at hl 0 rfl) ?_
      refine lv_aload hx hb dX10_review_57 (lv_at hl 0 rfl) ?_
      refine lv_iload_n hx hb dX10_review_59 rfl (lv_at hl 3 rfl) ?_
      refine z_callV (As := [.int (iI r)]) (rest := [.ref he, .ref (qc 3)]) F (c_X2_reviewMonth  he qe (LVf N n) ae r  ) gX10_review_X2_reviewMonth rfl ziX2_reviewMonth ⟨rfl, rfl, by decide, by decide⟩ rfl hl.1 rfl (Nat.le_of_ble_eq_true rfl) dX10_review_60 ⟨Nat.zero_le _, Nat.zero_le _⟩ hW hA [9, 10, 11, 12, 13] rfl (by decide) (fun _ => rfl) (fun _ => (dO cI cJ hc qc vc ac) ++ ((kO cI cJ (qc 3) qw (mk6 k 0 (LF N n 2) (-1) (LF N n 2) (LF N n 2)) (uA aw 0 g_1)) ++ ((iW cI cJ (qc 3) qw (mk6 k 0 (LF N n 2) (-1) (LF N n 2) (LF N n 2)) (uA aw 0 g_1)) ++ ((bO cI cJ (qc 6) qB vB aB) ++ ((gW cO (qB 1) gB) ++ ((vW cI cJ (qB 0) qv vv av) ++ (lW cI cJ he qe (LVf N n) ae))))))) (fun _ => rfl) (fun _ => [.int (iI ((LF N n 0) + r * (LF N n 3))), .ref he, .ref (qc 3)]) (fun _ => rfl) 9 rfl rfl rfl (fun _ H locs hp60 hW => ?_)
      refine z_callV (As := [.ref he, .int (iI ((LF N n 0) + r * (LF N n 3)))]) (rest := []) F (c_X9_goTo N n (qc 3) qw (mk6 k 0 (LF N n 2) (-1) (LF N n 2) (LF N n 2)) (uA aw 0 g_1) he qe ae ((LF N n 0) + r * (LF N n 3)) k 0 (show LF N n 0 ≤ ((LF N n 0) + r * (LF N n 3)) ∧ ((LF N n 0) + r * (LF N n 3)) ≤ LF N n 0 + 239 by omega) (show 0 ≤ k ∧ k ≤ 239 by omega) ⟨Int.le_refl 0, by rw [hat]; omega⟩ ⟨rfl, rfl, rfl, rfl, rfl, fun q9 => by omega⟩ hp48 hV hL hT hTR) gX10_review_X9_goTo rfl ziX9_goTo ⟨rfl, rfl, by decide, by decide⟩ rfl hl.1 rfl (Nat.le_of_ble_eq_true rfl) dX10_review_63 ⟨Nat.zero_le _, Nat.zero_le _⟩ hW hA [1, 2, 9, 10, 11, 12, 13] rfl (by decide) (fun _ => rfl) (fun u => (dO cI cJ hc qc vc ac) ++ ((kO cI cJ (qc 3) qw (mk6 k (RVW N n ((LF N n 0) + r * (LF N n 3))) (RNT N n k (RVW N n ((LF N n 0) + r * (LF N n 3))).toNat) u (LST N n (RVW N n ((LF N n 0) + r * (LF N n 3))).toNat) (MST N n (RVW N n ((LF N n 0) + r * (LF N n 3))).toNat)) (uA aw 0 g_1)) ++ ((iW cI cJ (qc 3) qw (mk6 k (RVW N n ((LF N n 0) + r * (LF N n 3))) (RNT N n k (RVW N n ((LF N n 0) + r * (LF N n 3))).toNat) u (LST N n (RVW N n ((LF N n 0) + r * (LF N n 3))).toNat) (MST N n (RVW N n ((LF N n 0) + r * (LF N n 3))).toNat)) (uA aw 0 g_1)) ++ ((bO cI cJ (qc 6) qB vB aB) ++ ((gW cO (qB 1) gB) ++ ((vW cI cJ (qB 0) qv vv av) ++ (lW cI cJ he qe (LVf N n) ae))))))) (fun _ => rfl) (fun u => []) (fun _ => rfl) 1 rfl rfl rfl (fun u H locs hp63 hW => ?_)
      obtain ⟨w4_2, rfl⟩ : ∃ z, z = u := ⟨_, rfl⟩
      have hp63 : 1 ≤ RVW N n ((LF N n 0) + r * (LF N n 3)) → w4_2 = WNT N n k (RNT N n k (RVW N n ((LF N n 0) + r * (LF N n 3)) - 1).toNat) (RVW N n ((LF N n 0) + r * (LF N n 3))) := hp63
      have hW : zW G (tyZ cI cJ cO) A s ((dO cI cJ hc qc vc ac) ++ ((kO cI cJ (qc 3) qw (mk6 k (RVW N n ((LF N n 0) + r * (LF N n 3))) (RNT N n k (RVW N n ((LF N n 0) + r * (LF N n 3))).toNat) w4_2 (LST N n (RVW N n ((LF N n 0) + r * (LF N n 3))).toNat) (MST N n (RVW N n ((LF N n 0) + r * (LF N n 3))).toNat)) (uA aw 0 g_1)) ++ ((iW cI cJ (qc 3) qw (mk6 k (RVW N n ((LF N n 0) + r * (LF N n 3))) (RNT N n k (RVW N n ((LF N n 0) + r * (LF N n 3))).toNat) w4_2 (LST N n (RVW N n ((LF N n 0) + r * (LF N n 3))).toNat) (MST N n (RVW N n ((LF N n 0) + r * (LF N n 3))).toNat)) (uA aw 0 g_1)) ++ ((bO cI cJ (qc 6) qB vB aB) ++ ((gW cO (qB 1) gB) ++ ((vW cI cJ (qB 0) qv vv av) ++ (lW cI cJ he qe (LVf N n) ae))))))) H locs := hW
      rw [hat] at hp63
      refine lv_iload hx hb dX10_review_66 (lv_at hl 5 rfl) ?_
      by_cases c68_0 : w = 0
      · refine z_tabIn (z := 0) (tgt := 104) hx hb dX10_review_68 c68_0 (by decide) (by decide) (by decide) rfl (by decide) ?_
        refine lv_aload hx hb dX10_review_104 (lv_at hl 0 rfl) ?_
        refine lv_iload_n hx hb dX10_review_106 rfl (lv_at hl 3 rfl) ?_
        refine z_callV (As := [.int (iI r)]) (rest := []) F (c_X2_reviewMonth  he qe (LVf N n) ae r  ) gX10_review_X2_reviewMonth rfl ziX2_reviewMonth ⟨rfl, rfl, by decide, by decide⟩ rfl hl.1 rfl (Nat.le_of_ble_eq_true rfl) dX10_review_107 ⟨Nat.zero_le _, Nat.zero_le _⟩ hW hA [9, 10, 11, 12, 13] rfl (by decide) (fun _ => rfl) (fun _ => (dO cI cJ hc qc vc ac) ++ ((kO cI cJ (qc 3) qw (mk6 k (RVW N n ((LF N n 0) + r * (LF N n 3))) (RNT N n k (RVW N n ((LF N n 0) + r * (LF N n 3))).toNat) w4_2 (LST N n (RVW N n ((LF N n 0) + r * (LF N n 3))).toNat) (MST N n (RVW N n ((LF N n 0) + r * (LF N n 3))).toNat)) (uA aw 0 g_1)) ++ ((iW cI cJ (qc 3) qw (mk6 k (RVW N n ((LF N n 0) + r * (LF N n 3))) (RNT N n k (RVW N n ((LF N n 0) + r * (LF N n 3))).toNat) w4_2 (LST N n (RVW N n ((LF N n 0) + r * (LF N n 3))).toNat) (MST N n (RVW N n ((LF N n 0) + r * (LF N n 3))).toNat)) (uA aw 0 g_1)) ++ ((bO cI cJ (qc 6) qB vB aB) ++ ((gW cO (qB 1) gB) ++ ((vW cI cJ (qB 0) qv vv av) ++ (lW cI cJ he qe (LVf N n) ae))))))) (fun _ => rfl) (fun _ => [.int (iI ((LF N n 0) + r * (LF N n 3)))]) (fun _ => rfl) 9 rfl rfl rfl (fun _ H locs hp107 hW => ?_)
        exact z_iret hx hb hr hlk hW (⟨k, RVW N n ((LF N n 0) + r * (LF N n 3)), RNT N n k (RVW N n ((LF N n 0) + r * (LF N n 3))).toNat, w4_2, LST N n (RVW N n ((LF N n 0) + r * (LF N n 3))).toNat, MST N n (RVW N n ((LF N n 0) + r * (LF N n 3))).toNat, g_1⟩) (by unfold A_review; rw [if_pos ⟨by omega, by omega, by omega, by omega⟩]; exact if_pos (by omega)) trivial rfl dX10_review_110
      by_cases c68_1 : w = 1
      · refine z_tabIn (z := 1) (tgt := 111) hx hb dX10_review_68 c68_1 (by decide) (by decide) (by decide) rfl (by decide) ?_
        refine lv_aload_n hx hb dX10_review_111 rfl (lv_at hl 1 rfl) ?_
        refine z_get (v := .ref (qc 3)) hx hb hts hiX10_review_X10 hown hW 0 3 3 rfl rfl rfl (by decide) rfl dX10_review_112 ?_
        refine z_get (v := .int (iI w4_2)) hx hb hts hiX10_review_X9 hown hW 1 4 5 rfl rfl rfl (by decide) rfl dX10_review_115 ?_
        exact z_iret hx hb hr hlk hW (⟨k, RVW N n ((LF N n 0) + r * (LF N n 3)), RNT N n k (RVW N n ((LF N n 0) + r * (LF N n 3))).toNat, w4_2, LST N n (RVW N n ((LF N n 0) + r * (LF N n 3))).toNat, MST N n (RVW N n ((LF N n 0) + r * (LF N n 3))).toNat, g_1⟩) (by unfold A_review; rw [if_pos ⟨by omega, by omega, by omega, by omega⟩]; rw [if_neg (by omega), if_pos (by omega)]; exact (hp63 (by omega)).symm) trivial rfl dX10_review_118
      by_cases c68_2 : w = 2
      · refine z_tabIn (z := 2) (tgt := 119) hx hb dX10_review_68 c68_2 (by decide) (by decide) (by decide) rfl (by decide) ?_
        refine lv_aload_n hx hb dX10_review_119 rfl (lv_at hl 1 rfl) ?_
        refine z_get (v := .ref (qc 3)) hx hb hts hiX10_review_X10 hown hW 0 3 3 rfl rfl rfl (by decide) rfl dX10_review_120 ?_
        refine z_get (v := .int (iI (RNT N n k (RVW N n ((LF N n 0) + r * (LF N n 3))).toNat))) hx hb hts hiX10_review_X9 hown hW 1 3 6 rfl rfl rfl (by decide) rfl dX10_review_123 ?_
        exact z_iret hx hb hr hlk hW (⟨k, RVW N n ((LF N n 0) + r * (LF N n 3)), RNT N n k (RVW N n ((LF N n 0) + r * (LF N n 3))).toNat, w4_2, LST N n (RVW N n ((LF N n 0) + r * (LF N n 3))).toNat, MST N n (RVW N n ((LF N n 0) + r * (LF N n 3))).toNat, g_1⟩) (by unfold A_review; rw [if_pos ⟨by omega, by omega, by omega, by omega⟩]; rw [if_neg (by omega), if_neg (by omega), if_pos (by omega), hat]) trivial rfl dX10_review_126
      by_cases c68_3 : w = 3
      · refine z_tabIn (z := 3) (tgt := 127) hx hb dX10_review_68 c68_3 (by decide) (by decide) (by decide) rfl (by decide) ?_
        refine lv_aload hx hb dX10_review_127 (lv_at hl 0 rfl) ?_
        refine z_get (v := .ref (qe 1)) hx hb hts hiX10_review_X2 hown hW 9 1 7 rfl rfl rfl (by decide) rfl dX10_review_129 ?_
        refine z_get (v := .int (iI (bI (zand (LF N n 7) 4 ≠ 0)))) hx hb hts hiX10_review_X3 hown hW 11 0 8 rfl rfl rfl (by decide) rfl dX10_review_132 ?_
        refine z_b_eq (tgt := 148) hx hb dX10_review_135 (by decide) (fun c135 => ?_) (fun c135 => ?_)
        · refine z_iconst (n := -1) hx hb dX10_review_148 ?_
          exact z_iret hx hb hr hlk hW (⟨k, RVW N n ((LF N n 0) + r * (LF N n 3)), RNT N n k (RVW N n ((LF N n 0) + r * (LF N n 3))).toNat, w4_2, LST N n (RVW N n ((LF N n 0) + r * (LF N n 3))).toNat, MST N n (RVW N n ((LF N n 0) + r * (LF N n 3))).toNat, g_1⟩) (by unfold A_review; rw [if_pos ⟨by omega, by omega, by omega, by omega⟩]; rw [if_neg (by omega), if_neg (by omega), if_neg (by omega)]; first | (rw [if_pos c135, if_pos (by omega), hat]; done) | exact if_neg c135) trivial rfl dX10_review_149
        · refine lv_aload_n hx hb dX10_review_138 rfl (lv_at hl 1 rfl) ?_
          refine z_get (v := .ref (qc 3)) hx hb hts hiX10_review_X10 hown hW 0 3 3 rfl rfl rfl (by decide) rfl dX10_review_139 ?_
          refine z_get (v := .int (iI (LST N n (RVW N n ((LF N n 0) + r * (LF N n 3))).toNat))) hx hb hts hiX10_review_X9 hown hW 1 5 9 rfl rfl rfl (by decide) rfl dX10_review_142 ?_
          refine lv_goto (tgt := 149) hx hb dX10_review_145 (by decide) ?_
          exact z_iret hx hb hr hlk hW (⟨k, RVW N n ((LF N n 0) + r * (LF N n 3)), RNT N n k (RVW N n ((LF N n 0) + r * (LF N n 3))).toNat, w4_2, LST N n (RVW N n ((LF N n 0) + r * (LF N n 3))).toNat, MST N n (RVW N n ((LF N n 0) + r * (LF N n 3))).toNat, g_1⟩) (by unfold A_review; rw [if_pos ⟨by omega, by omega, by omega, by omega⟩]; rw [if_neg (by omega), if_neg (by omega), if_neg (by omega)]; first | (rw [if_pos c135, if_pos (by omega), hat]; done) | exact if_neg c135) trivial rfl dX10_review_149
      by_cases c68_4 : w = 4
      · refine z_tabIn (z := 4) (tgt := 150) hx hb dX10_review_68 c68_4 (by decide) (by decide) (by decide) rfl (by decide) ?_
        refine lv_aload hx hb dX10_review_150 (lv_at hl 0 rfl) ?_
        refine z_get (v := .ref (qe 1)) hx hb hts hiX10_review_X2 hown hW 9 1 7 rfl rfl rfl (by decide) rfl dX10_review_152 ?_
        refine z_get (v := .int (iI (bI (zand (LF N n 7) 4 ≠ 0)))) hx hb hts hiX10_review_X3 hown hW 11 0 8 rfl rfl rfl (by decide) rfl dX10_review_155 ?_
        refine z_b_eq (tgt := 171) hx hb dX10_review_158 (by decide) (fun c158 => ?_) (fun c158 => ?_)
        · refine z_iconst (n := -1) hx hb dX10_review_171 ?_
          exact z_iret hx hb hr hlk hW (⟨k, RVW N n ((LF N n 0) + r * (LF N n 3)), RNT N n k (RVW N n ((LF N n 0) + r * (LF N n 3))).toNat, w4_2, LST N n (RVW N n ((LF N n 0) + r * (LF N n 3))).toNat, MST N n (RVW N n ((LF N n 0) + r * (LF N n 3))).toNat, g_1⟩) (by unfold A_review; rw [if_pos ⟨by omega, by omega, by omega, by omega⟩]; rw [if_neg (by omega), if_neg (by omega), if_neg (by omega)]; first | (rw [if_pos c158, if_neg (by omega), hat]; done) | exact if_neg c158) trivial rfl dX10_review_172
        · refine lv_aload_n hx hb dX10_review_161 rfl (lv_at hl 1 rfl) ?_
          refine z_get (v := .ref (qc 3)) hx hb hts hiX10_review_X10 hown hW 0 3 3 rfl rfl rfl (by decide) rfl dX10_review_162 ?_
          refine z_get (v := .int (iI (MST N n (RVW N n ((LF N n 0) + r * (LF N n 3))).toNat))) hx hb hts hiX10_review_X9 hown hW 1 6 10 rfl rfl rfl (by decide) rfl dX10_review_165 ?_
          refine lv_goto (tgt := 172) hx hb dX10_review_168 (by decide) ?_
          exact z_iret hx hb hr hlk hW (⟨k, RVW N n ((LF N n 0) + r * (LF N n 3)), RNT N n k (RVW N n ((LF N n 0) + r * (LF N n 3))).toNat, w4_2, LST N n (RVW N n ((LF N n 0) + r * (LF N n 3))).toNat, MST N n (RVW N n ((LF N n 0) + r * (LF N n 3))).toNat, g_1⟩) (by unfold A_review; rw [if_pos ⟨by omega, by omega, by omega, by omega⟩]; rw [if_neg (by omega), if_neg (by omega), if_neg (by omega)]; first | (rw [if_pos c158, if_neg (by omega), hat]; done) | exact if_neg c158) trivial rfl dX10_review_172
      refine z_tabOut (tgt := 173) hx hb dX10_review_68 ⟨by omega, by omega⟩ (by omega) (by decide) ?_
      refine z_ldc hx hb (-100000000) hown (hts _ (List.mem_of_getElem? (i := 2) rfl)) (by decide +kernel) dX10_review_173 ?_
      exact z_iret hx hb hr hlk hW (⟨k, RVW N n ((LF N n 0) + r * (LF N n 3)), RNT N n k (RVW N n ((LF N n 0) + r * (LF N n 3))).toNat, w4_2, LST N n (RVW N n ((LF N n 0) + r * (LF N n 3))).toNat, MST N n (RVW N n ((LF N n 0) + r * (LF N n 3))).toNat, g_1⟩) (by unfold A_review; exact if_neg (fun q9 => by obtain ⟨q1, q2, q3, q4⟩ := q9; omega)) trivial rfl dX10_review_175
    · refine z_ldc hx hb (-100000000) hown (hts _ (List.mem_of_getElem? (i := 2) rfl)) (by decide +kernel) dX10_review_31 ?_
      exact z_iret hx hb hr hlk hW (⟨vw 1, vw 2, vw 3, vw 4, vw 5, vw 6, aw 0⟩) (by unfold A_review; exact if_neg (fun q9 => by obtain ⟨q1, q2, q3, q4⟩ := q9; omega)) trivial rfl dX10_review_33
set_option maxHeartbeats 4000000 in
set_option maxRecDepth 100000 in
theorem c_X10_review0 {l : Launch} {G : va_G} {cI cJ cO : ClassId} (N : Int → Int) (hc : Nat) (qc : Nat → Nat) (vc : Nat → Int) (ac : Nat → Int → Int) (qB : Nat → Nat) (vB : Nat → Int) (aB : Nat → Int → Int) (gB : Nat → Nat) (n r k w : Int)  (h1 : -2147483648 ≤ n ∧ n < 2147483648) (h2 : -2147483648 ≤ r ∧ r < 2147483648) (h3 : -2147483648 ≤ k ∧ k < 2147483648) (h4 : -2147483648 ≤ w ∧ w < 2147483648) (cL : ¬ (0 ≤ n ∧ n < vB 4)) (hv4 : vB 4 = N 2) (hWF : WF N) : zC l yX10_review wsX10_review { frames := 4, cells := 0, slots := 0, locals := 96 } G (tyZ cI cJ cO) (S := Unit) [.ref hc, .int (iI n), .int (iI r), .int (iI k), .int (iI w)] ((dO cI cJ hc qc vc ac) ++ ((bO cI cJ (qc 6) qB vB aB) ++ (gW cO (qB 1) gB))) (zI (fun _ => A_review N n r k w)) (fun _ => True) (fun _ => (dO cI cJ hc qc vc ac) ++ ((bO cI cJ (qc 6) qB vB aB) ++ (gW cO (qB 1) gB))) 0 0 := by
  refine z_start (cc := cX10_review) (maxL := 6) (ret := (some .int)) (by decide) rfl (Nat.le_of_ble_eq_true rfl) ?_
  intro p e s m below meth c A ls F hr hlk hnm hAe hA hW hl
  have hx := F.1
  have hb := F.2.1
  have hown : s.vm.findClass RX10 = some m.cls := F.2.2.2.1
  have hts := F.2.2.2.2
  have hl : lv_has ls 6 [(0, .ref hc), (1, .int (iI n)), (2, .int (iI r)), (3, .int (iI k)), (4, .int (iI w))] := hl
  obtain ⟨w0, w1, w2, hV, hls⟩ := id hWF
  refine lv_aload_n hx hb dX10_review_0 rfl (lv_at hl 0 rfl) ?_
  refine z_get (v := .ref (qc 6)) hx hb hts hiX10_review_X10 hown hW 0 6 1 rfl rfl rfl (by decide) rfl dX10_review_1 ?_
  refine lv_iload_n hx hb dX10_review_4 rfl (lv_at hl 1 rfl) ?_
  refine z_callV (As := [.int (iI n)]) (rest := []) F (c_X1_leaseAt  (qc 6) qB vB aB gB n  (show -2147483648 ≤ n ∧ n < 2147483648 by omega) (show 0 ≤ (vB 4) ∧ (vB 4) ≤ 6 by omega)) gX10_review_X1_leaseAt rfl ziX1_leaseAt ⟨rfl, rfl, by decide, by decide⟩ rfl hl.1 rfl (Nat.le_of_ble_eq_true rfl) dX10_review_5 ⟨Nat.zero_le _, Nat.zero_le _⟩ hW hA [1, 2, 3] rfl (by decide) (fun _ => rfl) (fun _ => (dO cI cJ hc qc vc ac) ++ ((bO cI cJ (qc 6) qB vB aB) ++ (gW cO (qB 1) gB))) (fun _ => rfl) (fun _ => [va_rf (if 0 ≤ n ∧ n < (vB 4) then some (gB n.toNat) else none)]) (fun _ => rfl) 1 rfl rfl rfl (fun _ H locs hp5 hW => ?_)
  rw [if_neg cL]
  refine W.eq (g2 := F0 m 8 ls [.null]) rfl ?_
  refine lv_astoreN (lv' := [(5, .null), (0, .ref hc), (1, .int (iI n)), (2, .int (iI r)), (3, .int (iI k)), (4, .int (iI w))]) hx hb dX10_review_8 hl (by decide) rfl (fun ls hl => ?_)
  refine lv_aloadN hx hb dX10_review_10 (lv_at hl 0 rfl) ?_
  refine lv_ifnullN (tgt := 31) hx hb dX10_review_12 (by decide) ?_
  refine z_ldc hx hb (-100000000) hown (hts _ (List.mem_of_getElem? (i := 2) rfl)) (by decide +kernel) dX10_review_31 ?_
  exact z_iret hx hb hr hlk hW () (by unfold A_review; exact if_neg (fun q9 => by obtain ⟨q1, q2, q3, q4⟩ := q9; omega)) trivial rfl dX10_review_33
theorem hiX10_billed_X10 : ∀ w ∈ wsX100, w ∈ wsX10_billed := fun _ h => List.mem_cons_of_mem _ (List.mem_append_left _ (List.mem_append_left _ (List.mem_append_left _ (List.mem_append_left _ (List.mem_append_left _ (List.mem_append_right _ h))))))
theorem hiX10_billed_X1 : ∀ w ∈ wsX10, w ∈ wsX10_billed := fun _ h => List.mem_cons_of_mem _ (List.mem_append_left _ (List.mem_append_left _ (List.mem_append_left _ (List.mem_append_left _ (List.mem_append_right _ h)))))
theorem hiX10_billed_X2 : ∀ w ∈ wsX20, w ∈ wsX10_billed := fun _ h => List.mem_cons_of_mem _ (List.mem_append_left _ (List.mem_append_left _ (List.mem_append_left _ (List.mem_append_right _ h))))
theorem hiX10_billed_X9 : ∀ w ∈ wsX90, w ∈ wsX10_billed := fun _ h => List.mem_cons_of_mem _ (List.mem_append_left _ (List.mem_append_left _ (List.mem_append_right _ h)))
theorem hiX10_billed_X8 : ∀ w ∈ wsX80, w ∈ wsX10_billed := fun _ h => List.mem_cons_of_mem _ (List.mem_append_left _ (List.mem_append_right _ h))
theorem hiX10_billed_X3 : ∀ w ∈ wsX30, w ∈ wsX10_billed := fun _ h => List.mem_cons_of_mem _ (List.mem_append_right _ h)
theorem ziX10_billed : yX10_billed.cls = RX10 ∧ yX10_billed.cls ≠ "java/lang/invoke/MethodHandle" ∧ yX10_billed.cls ≠ "java/lang/invoke/VarHandle" ∧ (parseMethodDescriptor yX10_billed.desc).map (fun d => d.parameters.length) = some 2 := by decide +kernel
set_option maxHeartbeats 4000000 in
set_option maxRecDepth 100000 in
theorem c_X10_billed {l : Launch} {G : va_G} {cI cJ cO : ClassId} (N : Int → Int) (hc : Nat) (qc : Nat → Nat) (vc : Nat → Int) (ac : Nat → Int → Int) (qw : Nat → Nat) (vw : Nat → Int) (aw : Nat → Int → Int) (qB : Nat → Nat) (vB : Nat → Int) (aB : Nat → Int → Int) (gB : Nat → Nat) (qv : Nat → Nat) (vv : Nat → Int) (av : Nat → Int → Int) (he : Nat) (qe : Nat → Nat) (ae : Nat → Int → Int) (n y : Int)  (h1 : -2147483648 ≤ n ∧ n < 2147483648) (h2 : -2147483648 ≤ y ∧ y < 2147483648) (hn : 0 ≤ n ∧ n < vB 4) (hg : gB n.toNat = he) (hv4 : vB 4 = N 2) (hWF : WF N) (hRV : RV N av) (hTR : TR N n ae) (hWb : WFb N n) : zC l yX10_billed wsX10_billed { frames := 5, cells := 0, slots := 0, locals := 118 } G (tyZ cI cJ cO) (S := Int × Int × Int × Int × Int × Int × (Int → Int)) [.ref hc, .int (iI n), .int (iI y)] ((dO cI cJ hc qc vc ac) ++ ((kO cI cJ (qc 3) qw vw aw) ++ ((iW cI cJ (qc 3) qw vw aw) ++ ((bO cI cJ (qc 6) qB vB aB) ++ ((gW cO (qB 1) gB) ++ ((vW cI cJ (qB 0) qv vv av) ++ (lW cI cJ he qe (LVf N n) ae))))))) (zI (fun _ => A_billed N n y)) (fun u => True) (fun u => (dO cI cJ hc qc vc ac) ++ ((kO cI cJ (qc 3) qw (mk6 u.1 u.2.1 u.2.2.1 u.2.2.2.1 u.2.2.2.2.1 u.2.2.2.2.2.1) (uA aw 0 u.2.2.2.2.2.2)) ++ ((iW cI cJ (qc 3) qw (mk6 u.1 u.2.1 u.2.2.1 u.2.2.2.1 u.2.2.2.2.1 u.2.2.2.2.2.1) (uA aw 0 u.2.2.2.2.2.2)) ++ ((bO cI cJ (qc 6) qB vB aB) ++ ((gW cO (qB 1) gB) ++ ((vW cI cJ (qB 0) qv vv av) ++ (lW cI cJ he qe (LVf N n) ae))))))) 0 0 := by
  refine z_start (cc := cX10_billed) (maxL := 4) (ret := (some .int)) (by decide) rfl (Nat.le_of_ble_eq_true rfl) ?_
  intro p e s m below meth c A ls F hr hlk hnm hAe hA hW hl
  have hx := F.1
  have hb := F.2.1
  have hown : s.vm.findClass RX10 = some m.cls := F.2.2.2.1
  have hts := F.2.2.2.2
  have hl : lv_has ls 4 [(0, .ref hc), (1, .int (iI n)), (2, .int (iI y))] := hl
  obtain ⟨w0, w1, w2, hV, hls⟩ := id hWF
  obtain ⟨hL, hT⟩ := hls n (by omega) (by omega)
  obtain ⟨l0, l1, l2, l3, l4, l5, l6, l7, l8, l9, l10, l11, l12, l13, l14, l15⟩ := id hL
  refine lv_aload_n hx hb dX10_billed_0 rfl (lv_at hl 0 rfl) ?_
  refine z_get (v := .ref (qc 6)) hx hb hts hiX10_billed_X10 hown hW 0 6 1 rfl rfl rfl (by decide) rfl dX10_billed_1 ?_
  refine lv_iload_n hx hb dX10_billed_4 rfl (lv_at hl 1 rfl) ?_
  refine z_callV (As := [.int (iI n)]) (rest := []) F (c_X1_leaseAt  (qc 6) qB vB aB gB n  (show -2147483648 ≤ n ∧ n < 2147483648 by omega) (show 0 ≤ (vB 4) ∧ (vB 4) ≤ 6 by omega)) gX10_billed_X1_leaseAt rfl ziX1_leaseAt ⟨rfl, rfl, by decide, by decide⟩ rfl hl.1 rfl (Nat.le_of_ble_eq_true rfl) dX10_billed_5 ⟨Nat.zero_le _, Nat.zero_le _⟩ hW hA [3, 4, 5] rfl (by decide) (fun _ => rfl) (fun _ => (dO cI cJ hc qc vc ac) ++ ((kO cI cJ (qc 3) qw vw aw) ++ ((iW cI cJ (qc 3) qw vw aw) ++ ((bO cI cJ (qc 6) qB vB aB) ++ ((gW cO (qB 1) gB) ++ ((vW cI cJ (qB 0) qv vv av) ++ (lW cI cJ he qe (LVf N n) ae))))))) (fun _ => rfl) (fun _ => [va_rf (if 0 ≤ n ∧ n < (vB 4) then some (gB n.toNat) else none)]) (fun _ => rfl) 3 rfl rfl rfl (fun _ H locs hp5 hW => ?_)
  rw [if_pos (show 0 ≤ n ∧ n < vB 4 by omega), hg]
  refine W.eq (g2 := F0 m 8 ls [.ref he]) rfl ?_
  refine lv_astore_n (lv' := [(3, .ref he), (0, .ref hc), (1, .int (iI n)), (2, .int (iI y))]) hx hb dX10_billed_8 rfl hl (by decide) rfl (fun ls hl => ?_)
  refine lv_aload_n hx hb dX10_billed_9 rfl (lv_at hl 0 rfl) ?_
  refine lv_ifnull hx hb dX10_billed_10 ?_
  refine lv_aload_n hx hb dX10_billed_13 rfl (lv_at hl 0 rfl) ?_
  refine lv_iload_n hx hb dX10_billed_14 rfl (lv_at hl 3 rfl) ?_
  refine z_callV (As := [.int (iI y)]) (rest := []) F (c_X2_hasMonth  he qe (LVf N n) ae y  (show -2147483648 ≤ y ∧ y < 2147483648 by omega) (show (0 ≤ (LF N n 0) ∧ (LF N n 0) ≤ 119) ∧ (0 ≤ (LF N n 1) ∧ (LF N n 1) ≤ 120) by omega)) gX10_billed_X2_hasMonth rfl ziX2_hasMonth ⟨rfl, rfl, by decide, by decide⟩ rfl hl.1 rfl (Nat.le_of_ble_eq_true rfl) dX10_billed_15 ⟨Nat.zero_le _, Nat.zero_le _⟩ hW hA [9, 10, 11, 12, 13] rfl (by decide) (fun _ => rfl) (fun _ => (dO cI cJ hc qc vc ac) ++ ((kO cI cJ (qc 3) qw vw aw) ++ ((iW cI cJ (qc 3) qw vw aw) ++ ((bO cI cJ (qc 6) qB vB aB) ++ ((gW cO (qB 1) gB) ++ ((vW cI cJ (qB 0) qv vv av) ++ (lW cI cJ he qe (LVf N n) ae))))))) (fun _ => rfl) (fun _ => [.int (iI (bI ((LF N n 0) ≤ y ∧ y < (LF N n 0) + (LF N n 1))))]) (fun _ => rfl) 9 rfl rfl rfl (fun _ H locs hp15 hW => ?_)
  refine z_b_eq (tgt := 30) hx hb dX10_billed_18 (by decide) (fun c18 => ?_) (fun c18 => ?_)
  · refine z_iconst (n := -1) hx hb dX10_billed_30 ?_
    exact z_iret hx hb hr hlk hW (⟨vw 1, vw 2, vw 3, vw 4, vw 5, vw 6, aw 0⟩) (by unfold A_billed; exact if_neg (fun q9 => by obtain ⟨⟨q1, q2, q3⟩, q4⟩ := q9; omega)) trivial rfl dX10_billed_31
  · have l13b : 0 ≤ (if 0 < LF N n 13 then LF N n 13 - 1 else 240) ∧ (if 0 < LF N n 13 then LF N n 13 - 1 else 240) ≤ 240 := by split <;> omega
    have hE := END_R (k := y) hL
    refine lv_iload_n hx hb dX10_billed_21 rfl (lv_at hl 3 rfl) ?_
    refine lv_aload_n hx hb dX10_billed_22 rfl (lv_at hl 0 rfl) ?_
    refine lv_iload_n hx hb dX10_billed_23 rfl (lv_at hl 3 rfl) ?_
    refine z_callV (As := [.int (iI y)]) (rest := [.int (iI y)]) F (c_X2_endKnownIn  he qe (LVf N n) ae y  (show -2147483648 ≤ y ∧ y < 2147483648 by omega) (show 0 ≤ (if 0 < LF N n 13 then LF N n 13 - 1 else 240) ∧ (if 0 < LF N n 13 then LF N n 13 - 1 else 240) ≤ 240 by omega)) gX10_billed_X2_endKnownIn rfl ziX2_endKnownIn ⟨rfl, rfl, by decide, by decide⟩ rfl hl.1 rfl (Nat.le_of_ble_eq_true rfl) dX10_billed_24 ⟨Nat.zero_le _, Nat.zero_le _⟩ hW hA [9, 10, 11, 12, 13] rfl (by decide) (fun _ => rfl) (fun _ => (dO cI cJ hc qc vc ac) ++ ((kO cI cJ (qc 3) qw vw aw) ++ ((iW cI cJ (qc 3) qw vw aw) ++ ((bO cI cJ (qc 6) qB vB aB) ++ ((gW cO (qB 1) gB) ++ ((vW cI cJ (qB 0) qv vv av) ++ (lW cI cJ he qe (LVf N n) ae))))))) (fun _ => rfl) (fun _ => [.int (iI (if (if 0 < LF N n 13 then LF N n 13 - 1 else 240) ≤ y then (if zand (LF N n 7) 16 ≠ 0 then LF N n 12 else -1) else (LF N n 0) + (LF N n 1))), .int (iI y)]) (fun _ => rfl) 9 rfl rfl rfl (fun _ H locs hp24 hW => ?_)
    rw [ENDc hWb hL (show y ≤ 239 by omega)]
    refine z_icmp_lt (tgt := 32) hx hb dX10_billed_27 (by decide) ⟨by omega, by omega⟩ ⟨by omega, by omega⟩ (fun c27 => ?_) (fun c27 => ?_)
    · refine lv_aload_n hx hb dX10_billed_32 rfl (lv_at hl 1 rfl) ?_
      refine z_get (v := .ref (qc 3)) hx hb hts hiX10_billed_X10 hown hW 0 3 2 rfl rfl rfl (by decide) rfl dX10_billed_33 ?_
      refine lv_aload_n hx hb dX10_billed_36 rfl (lv_at hl 0 rfl) ?_
      refine lv_aload_n hx hb dX10_billed_37 rfl (lv_at hl 1 rfl) ?_
      refine z_get (v := .ref (qc 6)) hx hb hts hiX10_billed_X10 hown hW 0 6 1 rfl rfl rfl (by decide) rfl dX10_billed_38 ?_
      refine z_get (v := .ref (qB 0)) hx hb hts hiX10_billed_X1 hown hW 3 0 3 rfl rfl rfl (by decide) rfl dX10_billed_41 ?_
      refine lv_iload_n hx hb dX10_billed_44 rfl (lv_at hl 3 rfl) ?_
      refine z_callV (As := [.ref he, .ref (qB 0), .int (iI y)]) (rest := []) F (c_X9_begin N n (qc 3) qw vw aw he qe ae (qB 0) qv vv av y  (show -2147483648 ≤ y ∧ y < 2147483648 by omega) hV hL hRV) gX10_billed_X9_begin rfl ziX9_begin ⟨rfl, rfl, by decide, by decide⟩ rfl hl.1 rfl (Nat.le_of_ble_eq_true rfl) dX10_billed_45 ⟨Nat.zero_le _, Nat.zero_le _⟩ hW hA [1, 2, 9, 10, 11, 12, 13, 6, 7, 8] rfl (by decide) (fun _ => rfl) (fun u => (dO cI cJ hc qc vc ac) ++ ((kO cI cJ (qc 3) qw (mk6 y 0 (LF N n 2) (-1) (LF N n 2) (LF N n 2)) (uA aw 0 u)) ++ ((iW cI cJ (qc 3) qw (mk6 y 0 (LF N n 2) (-1) (LF N n 2) (LF N n 2)) (uA aw 0 u)) ++ ((bO cI cJ (qc 6) qB vB aB) ++ ((gW cO (qB 1) gB) ++ ((vW cI cJ (qB 0) qv vv av) ++ (lW cI cJ he qe (LVf N n) ae))))))) (fun _ => rfl) (fun u => []) (fun _ => rfl) 1 rfl rfl rfl (fun u H locs hp45 hW => ?_)
      obtain ⟨g_1, rfl⟩ : ∃ z, z = u := ⟨_, rfl⟩
      have hp45 : rowI N n y g_1 := hp45
      have hW : zW G (tyZ cI cJ cO) A s ((dO cI cJ hc qc vc ac) ++ ((kO cI cJ (qc 3) qw (mk6 y 0 (LF N n 2) (-1) (LF N n 2) (LF N n 2)) (uA aw 0 g_1)) ++ ((iW cI cJ (qc 3) qw (mk6 y 0 (LF N n 2) (-1) (LF N n 2) (LF N n 2)) (uA aw 0 g_1)) ++ ((bO cI cJ (qc 6) qB vB aB) ++ ((gW cO (qB 1) gB) ++ ((vW cI cJ (qB 0) qv vv av) ++ (lW cI cJ he qe (LVf N n) ae))))))) H locs := hW
      refine lv_aload_n hx hb dX10_billed_48 rfl (lv_at hl 1 rfl) ?_
      refine z_get (v := .ref (qc 3)) hx hb hts hiX10_billed_X10 hown hW 0 3 2 rfl rfl rfl (by decide) rfl dX10_billed_49 ?_
      refine lv_aload_n hx hb dX10_billed_52 rfl (lv_at hl 0 rfl) ?_
      refine lv_iload_n hx hb dX10_billed_53 rfl (lv_at hl 3 rfl) ?_
      refine z_callV (As := [.ref he, .int (iI y)]) (rest := []) F (c_X9_dueIn N n (qc 3) qw (mk6 y 0 (LF N n 2) (-1) (LF N n 2) (LF N n 2)) (uA aw 0 g_1) he qe ae y y 0 (show LF N n 0 ≤ y ∧ y ≤ LF N n 0 + 239 by omega) (show 0 ≤ y ∧ y ≤ 239 by omega) ⟨Int.le_refl 0, RVW_0 hL (by omega)⟩ ⟨rfl, rfl, rfl, rfl, rfl, fun q9 => by omega⟩ hp45 hV hL hT hTR) gX10_billed_X9_dueIn rfl ziX9_dueIn ⟨rfl, rfl, by decide, by decide⟩ rfl hl.1 rfl (Nat.le_of_ble_eq_true rfl) dX10_billed_54 ⟨Nat.zero_le _, Nat.zero_le _⟩ hW hA [1, 2, 9, 10, 11, 12, 13] rfl (by decide) (fun _ => rfl) (fun u => (dO cI cJ hc qc vc ac) ++ ((kO cI cJ (qc 3) qw (mk6 y (RVW N n y) (RNT N n y (RVW N n y).toNat) u (LST N n (RVW N n y).toNat) (MST N n (RVW N n y).toNat)) (uA aw 0 g_1)) ++ ((iW cI cJ (qc 3) qw (mk6 y (RVW N n y) (RNT N n y (RVW N n y).toNat) u (LST N n (RVW N n y).toNat) (MST N n (RVW N n y).toNat)) (uA aw 0 g_1)) ++ ((bO cI cJ (qc 6) qB vB aB) ++ ((gW cO (qB 1) gB) ++ ((vW cI cJ (qB 0) qv vv av) ++ (lW cI cJ he qe (LVf N n) ae))))))) (fun _ => rfl) (fun u => [.int (iI (DUE N n y y))]) (fun _ => rfl) 1 rfl rfl rfl (fun u H locs hp54 hW => ?_)
      obtain ⟨w4_2, rfl⟩ : ∃ z, z = u := ⟨_, rfl⟩
      have hp54 : 1 ≤ RVW N n y → w4_2 = WNT N n y (RNT N n y (RVW N n y - 1).toNat) (RVW N n y) := hp54
      have hW : zW G (tyZ cI cJ cO) A s ((dO cI cJ hc qc vc ac) ++ ((kO cI cJ (qc 3) qw (mk6 y (RVW N n y) (RNT N n y (RVW N n y).toNat) w4_2 (LST N n (RVW N n y).toNat) (MST N n (RVW N n y).toNat)) (uA aw 0 g_1)) ++ ((iW cI cJ (qc 3) qw (mk6 y (RVW N n y) (RNT N n y (RVW N n y).toNat) w4_2 (LST N n (RVW N n y).toNat) (MST N n (RVW N n y).toNat)) (uA aw 0 g_1)) ++ ((bO cI cJ (qc 6) qB vB aB) ++ ((gW cO (qB 1) gB) ++ ((vW cI cJ (qB 0) qv vv av) ++ (lW cI cJ he qe (LVf N n) ae))))))) H locs := hW
      exact z_iret hx hb hr hlk hW (⟨y, RVW N n y, RNT N n y (RVW N n y).toNat, w4_2, LST N n (RVW N n y).toNat, MST N n (RVW N n y).toNat, g_1⟩) (by unfold A_billed; exact if_pos ⟨⟨by omega, by omega, by omega⟩, by omega⟩) trivial rfl dX10_billed_57
    · refine z_iconst (n := -1) hx hb dX10_billed_30 ?_
      exact z_iret hx hb hr hlk hW (⟨vw 1, vw 2, vw 3, vw 4, vw 5, vw 6, aw 0⟩) (by unfold A_billed; exact if_neg (fun q9 => by obtain ⟨⟨q1, q2, q3⟩, q4⟩ := q9; omega)) trivial rfl dX10_billed_31
set_option maxHeartbeats 4000000 in
set_option maxRecDepth 100000 in
theorem c_X10_billed0 {l : Launch} {G : va_G} {cI cJ cO : ClassId} (N : Int → Int) (hc : Nat) (qc : Nat → Nat) (vc : Nat → Int) (ac : Nat → Int → Int) (qB : Nat → Nat) (vB : Nat → Int) (aB : Nat → Int → Int) (gB : Nat → Nat) (n y : Int)  (h1 : -2147483648 ≤ n ∧ n < 2147483648) (h2 : -2147483648 ≤ y ∧ y < 2147483648) (cL : ¬ (0 ≤ n ∧ n < vB 4)) (hv4 : vB 4 = N 2) (hWF : WF N) : zC l yX10_billed wsX10_billed { frames := 5, cells := 0, slots := 0, locals := 118 } G (tyZ cI cJ cO) (S := Unit) [.ref hc, .int (iI n), .int (iI y)] ((dO cI cJ hc qc vc ac) ++ ((bO cI cJ (qc 6) qB vB aB) ++ (gW cO (qB 1) gB))) (zI (fun _ => A_billed N n y)) (fun _ => True) (fun _ => (dO cI cJ hc qc vc ac) ++ ((bO cI cJ (qc 6) qB vB aB) ++ (gW cO (qB 1) gB))) 0 0 := by
  refine z_start (cc := cX10_billed) (maxL := 4) (ret := (some .int)) (by decide) rfl (Nat.le_of_ble_eq_true rfl) ?_
  intro p e s m below meth c A ls F hr hlk hnm hAe hA hW hl
  have hx := F.1
  have hb := F.2.1
  have hown : s.vm.findClass RX10 = some m.cls := F.2.2.2.1
  have hts := F.2.2.2.2
  have hl : lv_has ls 4 [(0, .ref hc), (1, .int (iI n)), (2, .int (iI y))] := hl
  obtain ⟨w0, w1, w2, hV, hls⟩ := id hWF
  refine lv_aload_n hx hb dX10_billed_0 rfl (lv_at hl 0 rfl) ?_
  refine z_get (v := .ref (qc 6)) hx hb hts hiX10_billed_X10 hown hW 0 6 1 rfl rfl rfl (by decide) rfl dX10_billed_1 ?_
  refine lv_iload_n hx hb dX10_billed_4 rfl (lv_at hl 1 rfl) ?_
  refine z_callV (As := [.int (iI n)]) (rest := []) F (c_X1_leaseAt  (qc 6) qB vB aB gB n  (show -2147483648 ≤ n ∧ n < 2147483648 by omega) (show 0 ≤ (vB 4) ∧ (vB 4) ≤ 6 by omega)) gX10_billed_X1_leaseAt rfl ziX1_leaseAt ⟨rfl, rfl, by decide, by decide⟩ rfl hl.1 rfl (Nat.le_of_ble_eq_true rfl) dX10_billed_5 ⟨Nat.zero_le _, Nat.zero_le _⟩ hW hA [1, 2, 3] rfl (by decide) (fun _ => rfl) (fun _ => (dO cI cJ hc qc vc ac) ++ ((bO cI cJ (qc 6) qB vB aB) ++ (gW cO (qB 1) gB))) (fun _ => rfl) (fun _ => [va_rf (if 0 ≤ n ∧ n < (vB 4) then some (gB n.toNat) else none)]) (fun _ => rfl) 1 rfl rfl rfl (fun _ H locs hp5 hW => ?_)
  rw [if_neg cL]
  refine W.eq (g2 := F0 m 8 ls [.null]) rfl ?_
  refine lv_astore_nN (lv' := [(3, .null), (0, .ref hc), (1, .int (iI n)), (2, .int (iI y))]) hx hb dX10_billed_8 rfl hl (by decide) rfl (fun ls hl => ?_)
  refine lv_aload_nN hx hb dX10_billed_9 rfl (lv_at hl 0 rfl) ?_
  refine lv_ifnullN (tgt := 30) hx hb dX10_billed_10 (by decide) ?_
  refine z_iconst (n := -1) hx hb dX10_billed_30 ?_
  exact z_iret hx hb hr hlk hW () (by unfold A_billed; exact if_neg (fun q9 => by obtain ⟨⟨q1, q2, q3⟩, q4⟩ := q9; omega)) trivial rfl dX10_billed_31
theorem hiX10_spread_X10 : ∀ w ∈ wsX100, w ∈ wsX10_spread := fun _ h => List.mem_cons_of_mem _ (List.mem_append_left _ (List.mem_append_left _ (List.mem_append_left _ (List.mem_append_left _ (List.mem_append_left _ (List.mem_append_left _ (List.mem_append_right _ h)))))))
theorem hiX10_spread_X5 : ∀ w ∈ wsX50, w ∈ wsX10_spread := fun _ h => List.mem_cons_of_mem _ (List.mem_append_left _ (List.mem_append_left _ (List.mem_append_left _ (List.mem_append_left _ (List.mem_append_left _ (List.mem_append_right _ h))))))
theorem hiX10_spread_X1 : ∀ w ∈ wsX10, w ∈ wsX10_spread := fun _ h => List.mem_cons_of_mem _ (List.mem_append_left _ (List.mem_append_left _ (List.mem_append_left _ (List.mem_append_left _ (List.mem_append_right _ h)))))
theorem hiX10_spread_X2 : ∀ w ∈ wsX20, w ∈ wsX10_spread := fun _ h => List.mem_cons_of_mem _ (List.mem_append_left _ (List.mem_append_left _ (List.mem_append_left _ (List.mem_append_right _ h))))
theorem hiX10_spread_X9 : ∀ w ∈ wsX90, w ∈ wsX10_spread := fun _ h => List.mem_cons_of_mem _ (List.mem_append_left _ (List.mem_append_left _ (List.mem_append_right _ h)))
theorem hiX10_spread_X8 : ∀ w ∈ wsX80, w ∈ wsX10_spread := fun _ h => List.mem_cons_of_mem _ (List.mem_append_left _ (List.mem_append_right _ h))
theorem hiX10_spread_X3 : ∀ w ∈ wsX30, w ∈ wsX10_spread := fun _ h => List.mem_cons_of_mem _ (List.mem_append_right _ h)
theorem ziX10_spread : yX10_spread.cls = RX10 ∧ yX10_spread.cls ≠ "java/lang/invoke/MethodHandle" ∧ yX10_spread.cls ≠ "java/lang/invoke/VarHandle" ∧ (parseMethodDescriptor yX10_spread.desc).map (fun d => d.parameters.length) = some 2 := by decide +kernel
set_option maxHeartbeats 4000000 in
set_option maxRecDepth 100000 in
theorem c_X10_spread {l : Launch} {G : va_G} {cI cJ cO : ClassId} (N : Int → Int) (hc : Nat) (qc : Nat → Nat) (vc : Nat → Int) (ac : Nat → Int → Int) (qw : Nat → Nat) (vw : Nat → Int) (aw : Nat → Int → Int) (qz : Nat → Nat) (vz : Nat → Int) (az : Nat → Int → Int) (qB : Nat → Nat) (vB : Nat → Int) (aB : Nat → Int → Int) (gB : Nat → Nat) (qv : Nat → Nat) (vv : Nat → Int) (av : Nat → Int → Int) (he : Nat) (qe : Nat → Nat) (ae : Nat → Int → Int) (n y : Int)  (h1 : -2147483648 ≤ n ∧ n < 2147483648) (h2 : -2147483648 ≤ y ∧ y < 2147483648) (hn : 0 ≤ n ∧ n < vB 4) (hg : gB n.toNat = he) (hv4 : vB 4 = N 2) (hWF : WF N) (hRV : RV N av) (hTR : TR N n ae) (hWb : WFb N n) (hNs : ∀ m : Int, LF N n 0 < m → m ≤ 239 → ¬ 0 < aB 2 m → ALLD N n m = ALLD N n (m - 1)) (hn2 : ∀ m : Int, 0 ≤ m → m < 240 → -100000 ≤ aB 2 m ∧ aB 2 m ≤ 100000) : zC l yX10_spread wsX10_spread { frames := 6, cells := 0, slots := 0, locals := 147 } G (tyZ cI cJ cO) (S := Int × Int × Int × Int × Int × Int × (Int → Int) × Int × Int) [.ref hc, .int (iI n), .int (iI y)] ((dO cI cJ hc qc vc ac) ++ ((kO cI cJ (qc 3) qw vw aw) ++ ((iW cI cJ (qc 3) qw vw aw) ++ ((pW cI cJ (qc 5) qz vz az) ++ ((bO cI cJ (qc 6) qB vB aB) ++ ((gW cO (qB 1) gB) ++ ((vW cI cJ (qB 0) qv vv av) ++ (lW cI cJ he qe (LVf N n) ae)))))))) (zI (fun _ => A_spread N n y)) (fun u => True) (fun u => (dO cI cJ hc qc vc ac) ++ ((kO cI cJ (qc 3) qw (mk6 u.1 u.2.1 u.2.2.1 u.2.2.2.1 u.2.2.2.2.1 u.2.2.2.2.2.1) (uA aw 0 u.2.2.2.2.2.2.1)) ++ ((iW cI cJ (qc 3) qw (mk6 u.1 u.2.1 u.2.2.1 u.2.2.2.1 u.2.2.2.2.1 u.2.2.2.2.2.1) (uA aw 0 u.2.2.2.2.2.2.1)) ++ ((pW cI cJ (qc 5) qz (uV (uV vz 0 u.2.2.2.2.2.2.2.1) 1 u.2.2.2.2.2.2.2.2) az) ++ ((bO cI cJ (qc 6) qB vB aB) ++ ((gW cO (qB 1) gB) ++ ((vW cI cJ (qB 0) qv vv av) ++ (lW cI cJ he qe (LVf N n) ae)))))))) 0 0 := by
  refine z_start (cc := cX10_spread) (maxL := 4) (ret := (some .int)) (by decide) rfl (Nat.le_of_ble_eq_true rfl) ?_
  intro p e s m below meth c A ls F hr hlk hnm hAe hA hW hl
  have hx := F.1
  have hb := F.2.1
  have hown : s.vm.findClass RX10 = some m.cls := F.2.2.2.1
  have hts := F.2.2.2.2
  have hl : lv_has ls 4 [(0, .ref hc), (1, .int (iI n)), (2, .int (iI y))] := hl
  obtain ⟨w0, w1, w2, hV, hls⟩ := id hWF
  obtain ⟨hL, hT⟩ := hls n (by omega) (by omega)
  obtain ⟨l0, l1, l2, l3, l4, l5, l6, l7, l8, l9, l10, l11, l12, l13, l14, l15⟩ := id hL
  refine lv_aload_n hx hb dX10_spread_0 rfl (lv_at hl 0 rfl) ?_
  refine z_get (v := .ref (qc 6)) hx hb hts hiX10_spread_X10 hown hW 0 6 1 rfl rfl rfl (by decide) rfl dX10_spread_1 ?_
  refine lv_iload_n hx hb dX10_spread_4 rfl (lv_at hl 1 rfl) ?_
  refine z_callV (As := [.int (iI n)]) (rest := []) F (c_X1_leaseAt  (qc 6) qB vB aB gB n  (show -2147483648 ≤ n ∧ n < 2147483648 by omega) (show 0 ≤ (vB 4) ∧ (vB 4) ≤ 6 by omega)) gX10_spread_X1_leaseAt rfl ziX1_leaseAt ⟨rfl, rfl, by decide, by decide⟩ rfl hl.1 rfl (Nat.le_of_ble_eq_true rfl) dX10_spread_5 ⟨Nat.zero_le _, Nat.zero_le _⟩ hW hA [4, 5, 6] rfl (by decide) (fun _ => rfl) (fun _ => (dO cI cJ hc qc vc ac) ++ ((kO cI cJ (qc 3) qw vw aw) ++ ((iW cI cJ (qc 3) qw vw aw) ++ ((pW cI cJ (qc 5) qz vz az) ++ ((bO cI cJ (qc 6) qB vB aB) ++ ((gW cO (qB 1) gB) ++ ((vW cI cJ (qB 0) qv vv av) ++ (lW cI cJ he qe (LVf N n) ae)))))))) (fun _ => rfl) (fun _ => [va_rf (if 0 ≤ n ∧ n < (vB 4) then some (gB n.toNat) else none)]) (fun _ => rfl) 4 rfl rfl rfl (fun _ H locs hp5 hW => ?_)
  rw [if_pos (show 0 ≤ n ∧ n < vB 4 by omega), hg]
  refine W.eq (g2 := F0 m 8 ls [.ref he]) rfl ?_
  refine lv_astore_n (lv' := [(3, .ref he), (0, .ref hc), (1, .int (iI n)), (2, .int (iI y))]) hx hb dX10_spread_8 rfl hl (by decide) rfl (fun ls hl => ?_)
  refine lv_aload_n hx hb dX10_spread_9 rfl (lv_at hl 0 rfl) ?_
  refine lv_ifnull hx hb dX10_spread_10 ?_
  refine lv_aload_n hx hb dX10_spread_13 rfl (lv_at hl 0 rfl) ?_
  refine lv_iload_n hx hb dX10_spread_14 rfl (lv_at hl 3 rfl) ?_
  refine z_callV (As := [.int (iI y)]) (rest := []) F (c_X2_hasMonth  he qe (LVf N n) ae y  (show -2147483648 ≤ y ∧ y < 2147483648 by omega) (show (0 ≤ (LF N n 0) ∧ (LF N n 0) ≤ 119) ∧ (0 ≤ (LF N n 1) ∧ (LF N n 1) ≤ 120) by omega)) gX10_spread_X2_hasMonth rfl ziX2_hasMonth ⟨rfl, rfl, by decide, by decide⟩ rfl hl.1 rfl (Nat.le_of_ble_eq_true rfl) dX10_spread_15 ⟨Nat.zero_le _, Nat.zero_le _⟩ hW hA [10, 11, 12, 13, 14] rfl (by decide) (fun _ => rfl) (fun _ => (dO cI cJ hc qc vc ac) ++ ((kO cI cJ (qc 3) qw vw aw) ++ ((iW cI cJ (qc 3) qw vw aw) ++ ((pW cI cJ (qc 5) qz vz az) ++ ((bO cI cJ (qc 6) qB vB aB) ++ ((gW cO (qB 1) gB) ++ ((vW cI cJ (qB 0) qv vv av) ++ (lW cI cJ he qe (LVf N n) ae)))))))) (fun _ => rfl) (fun _ => [.int (iI (bI ((LF N n 0) ≤ y ∧ y < (LF N n 0) + (LF N n 1))))]) (fun _ => rfl) 10 rfl rfl rfl (fun _ H locs hp15 hW => ?_)
  refine z_b_ne (tgt := 24) hx hb dX10_spread_18 (by decide) (fun c18 => ?_) (fun c18 => ?_)
  · refine lv_aload_n hx hb dX10_spread_24 rfl (lv_at hl 1 rfl) ?_
    refine z_get (v := .ref (qc 5)) hx hb hts hiX10_spread_X10 hown hW 0 5 3 rfl rfl rfl (by decide) rfl dX10_spread_25 ?_
    refine lv_aload_n hx hb dX10_spread_28 rfl (lv_at hl 0 rfl) ?_
    refine lv_aload_n hx hb dX10_spread_29 rfl (lv_at hl 1 rfl) ?_
    refine z_get (v := .ref (qc 6)) hx hb hts hiX10_spread_X10 hown hW 0 6 1 rfl rfl rfl (by decide) rfl dX10_spread_30 ?_
    refine lv_aload_n hx hb dX10_spread_33 rfl (lv_at hl 1 rfl) ?_
    refine z_get (v := .ref (qc 3)) hx hb hts hiX10_spread_X10 hown hW 0 3 4 rfl rfl rfl (by decide) rfl dX10_spread_34 ?_
    refine lv_iload_n hx hb dX10_spread_37 rfl (lv_at hl 3 rfl) ?_
    refine z_callV (As := [.ref he, .ref (qc 6), .ref (qc 3), .int (iI y)]) (rest := []) F (c_X5_goTo N n (qc 5) qz vz az he qe ae (qc 6) qB vB aB qv vv av (qc 3) qw vw aw y  (show LF N n 0 ≤ y ∧ y < LF N n 0 + LF N n 1 by omega) (fun m a1 a2 a3 => hNs m a1 (by omega) a3) hn2 hWb hRV hV hL hT hTR) gX10_spread_X5_goTo rfl ziX5_goTo ⟨rfl, rfl, by decide, by decide⟩ rfl hl.1 rfl (Nat.le_of_ble_eq_true rfl) dX10_spread_38 ⟨Nat.zero_le _, Nat.zero_le _⟩ hW hA [3, 10, 11, 12, 13, 14, 4, 5, 7, 8, 9, 1, 2] rfl (by decide) (fun _ => rfl) (fun u => (dO cI cJ hc qc vc ac) ++ ((kO cI cJ (qc 3) qw (mk6 u.1 u.2.1 u.2.2.1 u.2.2.2.1 u.2.2.2.2.1 u.2.2.2.2.2.1) (uA aw 0 u.2.2.2.2.2.2)) ++ ((iW cI cJ (qc 3) qw (mk6 u.1 u.2.1 u.2.2.1 u.2.2.2.1 u.2.2.2.2.1 u.2.2.2.2.2.1) (uA aw 0 u.2.2.2.2.2.2)) ++ ((pW cI cJ (qc 5) qz (uV (uV vz 0 (SPR N n y)) 1 (TOG N n (y + 1 - LF N n 0).toNat)) az) ++ ((bO cI cJ (qc 6) qB vB aB) ++ ((gW cO (qB 1) gB) ++ ((vW cI cJ (qB 0) qv vv av) ++ (lW cI cJ he qe (LVf N n) ae)))))))) (fun _ => rfl) (fun u => []) (fun _ => rfl) 3 rfl rfl rfl (fun u H locs hp38 hW => ?_)
    obtain ⟨w1_1, w2_2, w3_3, w4_4, w5_5, w6_6, g0_7⟩ := u
    have hp38 : True := hp38
    have hW : zW G (tyZ cI cJ cO) A s ((dO cI cJ hc qc vc ac) ++ ((kO cI cJ (qc 3) qw (mk6 w1_1 w2_2 w3_3 w4_4 w5_5 w6_6) (uA aw 0 g0_7)) ++ ((iW cI cJ (qc 3) qw (mk6 w1_1 w2_2 w3_3 w4_4 w5_5 w6_6) (uA aw 0 g0_7)) ++ ((pW cI cJ (qc 5) qz (uV (uV vz 0 (SPR N n y)) 1 (TOG N n (y + 1 - LF N n 0).toNat)) az) ++ ((bO cI cJ (qc 6) qB vB aB) ++ ((gW cO (qB 1) gB) ++ ((vW cI cJ (qB 0) qv vv av) ++ (lW cI cJ he qe (LVf N n) ae)))))))) H locs := hW
    refine lv_aload_n hx hb dX10_spread_41 rfl (lv_at hl 1 rfl) ?_
    refine z_get (v := .ref (qc 5)) hx hb hts hiX10_spread_X10 hown hW 0 5 3 rfl rfl rfl (by decide) rfl dX10_spread_42 ?_
    refine z_get (v := .int (iI (SPR N n y))) hx hb hts hiX10_spread_X5 hown hW 3 0 5 rfl rfl rfl (by decide) rfl dX10_spread_45 ?_
    exact z_iret hx hb hr hlk hW (⟨w1_1, w2_2, w3_3, w4_4, w5_5, w6_6, g0_7, SPR N n y, TOG N n (y + 1 - LF N n 0).toNat⟩) (by unfold A_spread; exact if_pos ⟨by omega, by omega, by omega⟩) trivial rfl dX10_spread_48
  · refine z_ldc hx hb (-100000000) hown (hts _ (List.mem_of_getElem? (i := 2) rfl)) (by decide +kernel) dX10_spread_21 ?_
    exact z_iret hx hb hr hlk hW (⟨vw 1, vw 2, vw 3, vw 4, vw 5, vw 6, aw 0, vz 0, vz 1⟩) (by unfold A_spread; exact if_neg (fun q9 => by obtain ⟨q1, q2, q3⟩ := q9; omega)) trivial rfl dX10_spread_23
set_option maxHeartbeats 4000000 in
set_option maxRecDepth 100000 in
theorem c_X10_spread0 {l : Launch} {G : va_G} {cI cJ cO : ClassId} (N : Int → Int) (hc : Nat) (qc : Nat → Nat) (vc : Nat → Int) (ac : Nat → Int → Int) (qB : Nat → Nat) (vB : Nat → Int) (aB : Nat → Int → Int) (gB : Nat → Nat) (n y : Int)  (h1 : -2147483648 ≤ n ∧ n < 2147483648) (h2 : -2147483648 ≤ y ∧ y < 2147483648) (cL : ¬ (0 ≤ n ∧ n < vB 4)) (hv4 : vB 4 = N 2) (hWF : WF N) : zC l yX10_spread wsX10_spread { frames := 6, cells := 0, slots := 0, locals := 147 } G (tyZ cI cJ cO) (S := Unit) [.ref hc, .int (iI n), .int (iI y)] ((dO cI cJ hc qc vc ac) ++ ((bO cI cJ (qc 6) qB vB aB) ++ (gW cO (qB 1) gB))) (zI (fun _ => A_spread N n y)) (fun _ => True) (fun _ => (dO cI cJ hc qc vc ac) ++ ((bO cI cJ (qc 6) qB vB aB) ++ (gW cO (qB 1) gB))) 0 0 := by
  refine z_start (cc := cX10_spread) (maxL := 4) (ret := (some .int)) (by decide) rfl (Nat.le_of_ble_eq_true rfl) ?_
  intro p e s m below meth c A ls F hr hlk hnm hAe hA hW hl
  have hx := F.1
  have hb := F.2.1
  have hown : s.vm.findClass RX10 = some m.cls := F.2.2.2.1
  have hts := F.2.2.2.2
  have hl : lv_has ls 4 [(0, .ref hc), (1, .int (iI n)), (2, .int (iI y))] := hl
  obtain ⟨w0, w1, w2, hV, hls⟩ := id hWF
  refine lv_aload_n hx hb dX10_spread_0 rfl (lv_at hl 0 rfl) ?_
  refine z_get (v := .ref (qc 6)) hx hb hts hiX10_spread_X10 hown hW 0 6 1 rfl rfl rfl (by decide) rfl dX10_spread_1 ?_
  refine lv_iload_n hx hb dX10_spread_4 rfl (lv_at hl 1 rfl) ?_
  refine z_callV (As := [.int (iI n)]) (rest := []) F (c_X1_leaseAt  (qc 6) qB vB aB gB n  (show -2147483648 ≤ n ∧ n < 2147483648 by omega) (show 0 ≤ (vB 4) ∧ (vB 4) ≤ 6 by omega)) gX10_spread_X1_leaseAt rfl ziX1_leaseAt ⟨rfl, rfl, by decide, by decide⟩ rfl hl.1 rfl (Nat.le_of_ble_eq_true rfl) dX10_spread_5 ⟨Nat.zero_le _, Nat.zero_le _⟩ hW hA [1, 2, 3] rfl (by decide) (fun _ => rfl) (fun _ => (dO cI cJ hc qc vc ac) ++ ((bO cI cJ (qc 6) qB vB aB) ++ (gW cO (qB 1) gB))) (fun _ => rfl) (fun _ => [va_rf (if 0 ≤ n ∧ n < (vB 4) then some (gB n.toNat) else none)]) (fun _ => rfl) 1 rfl rfl rfl (fun _ H locs hp5 hW => ?_)
  rw [if_neg cL]
  refine W.eq (g2 := F0 m 8 ls [.null]) rfl ?_
  refine lv_astore_nN (lv' := [(3, .null), (0, .ref hc), (1, .int (iI n)), (2, .int (iI y))]) hx hb dX10_spread_8 rfl hl (by decide) rfl (fun ls hl => ?_)
  refine lv_aload_nN hx hb dX10_spread_9 rfl (lv_at hl 0 rfl) ?_
  refine lv_ifnullN (tgt := 21) hx hb dX10_spread_10 (by decide) ?_
  refine z_ldc hx hb (-100000000) hown (hts _ (List.mem_of_getElem? (i := 2) rfl)) (by decide +kernel) dX10_spread_21 ?_
  exact z_iret hx hb hr hlk hW () (by unfold A_spread; exact if_neg (fun q9 => by obtain ⟨q1, q2, q3⟩ := q9; omega)) trivial rfl dX10_spread_23
theorem hiX10_ahead_X10 : ∀ w ∈ wsX100, w ∈ wsX10_ahead := fun _ h => List.mem_cons_of_mem _ (List.mem_append_left _ (List.mem_append_left _ (List.mem_append_left _ (List.mem_append_left _ (List.mem_append_left _ (List.mem_append_left _ (List.mem_append_right _ h)))))))
theorem hiX10_ahead_X1 : ∀ w ∈ wsX10, w ∈ wsX10_ahead := fun _ h => List.mem_cons_of_mem _ (List.mem_append_left _ (List.mem_append_left _ (List.mem_append_left _ (List.mem_append_left _ (List.mem_append_left _ (List.mem_append_right _ h))))))
theorem hiX10_ahead_X5 : ∀ w ∈ wsX50, w ∈ wsX10_ahead := fun _ h => List.mem_cons_of_mem _ (List.mem_append_left _ (List.mem_append_left _ (List.mem_append_left _ (List.mem_append_left _ (List.mem_append_right _ h)))))
theorem hiX10_ahead_X2 : ∀ w ∈ wsX20, w ∈ wsX10_ahead := fun _ h => List.mem_cons_of_mem _ (List.mem_append_left _ (List.mem_append_left _ (List.mem_append_left _ (List.mem_append_right _ h))))
theorem hiX10_ahead_X9 : ∀ w ∈ wsX90, w ∈ wsX10_ahead := fun _ h => List.mem_cons_of_mem _ (List.mem_append_left _ (List.mem_append_left _ (List.mem_append_right _ h)))
theorem hiX10_ahead_X8 : ∀ w ∈ wsX80, w ∈ wsX10_ahead := fun _ h => List.mem_cons_of_mem _ (List.mem_append_left _ (List.mem_append_right _ h))
theorem hiX10_ahead_X3 : ∀ w ∈ wsX30, w ∈ wsX10_ahead := fun _ h => List.mem_cons_of_mem _ (List.mem_append_right _ h)
theorem ziX10_ahead : yX10_ahead.cls = RX10 ∧ yX10_ahead.cls ≠ "java/lang/invoke/MethodHandle" ∧ yX10_ahead.cls ≠ "java/lang/invoke/VarHandle" ∧ (parseMethodDescriptor yX10_ahead.desc).map (fun d => d.parameters.length) = some 2 := by decide +kernel
set_option maxHeartbeats 4000000 in
set_option maxRecDepth 100000 in
theorem c_X10_ahead {l : Launch} {G : va_G} {cI cJ cO : ClassId} (N : Int → Int) (hc : Nat) (qc : Nat → Nat) (vc : Nat → Int) (ac : Nat → Int → Int) (qw : Nat → Nat) (vw : Nat → Int) (aw : Nat → Int → Int) (qz : Nat → Nat) (vz : Nat → Int) (az : Nat → Int → Int) (qB : Nat → Nat) (vB : Nat → Int) (aB : Nat → Int → Int) (gB : Nat → Nat) (qv : Nat → Nat) (vv : Nat → Int) (av : Nat → Int → Int) (he : Nat) (qe : Nat → Nat) (ae : Nat → Int → Int) (n y : Int)  (h1 : -2147483648 ≤ n ∧ n < 2147483648) (h2 : -2147483648 ≤ y ∧ y < 2147483648) (hn : 0 ≤ n ∧ n < vB 4) (hg : gB n.toNat = he) (hv4 : vB 4 = N 2) (hWF : WF N) (hRV : RV N av) (hTR : TR N n ae) (hWb : WFb N n) (hNs : ∀ m : Int, LF N n 0 < m → m ≤ 239 → ¬ 0 < aB 2 m → ALLD N n m = ALLD N n (m - 1)) (hn2 : ∀ m : Int, 0 ≤ m → m < 240 → -100000 ≤ aB 2 m ∧ aB 2 m ≤ 100000) : zC l yX10_ahead wsX10_ahead { frames := 6, cells := 0, slots := 0, locals := 147 } G (tyZ cI cJ cO) (S := Int × Int × Int × Int × Int × Int × (Int → Int) × Int × Int) [.ref hc, .int (iI n), .int (iI y)] ((dO cI cJ hc qc vc ac) ++ ((kO cI cJ (qc 3) qw vw aw) ++ ((iW cI cJ (qc 3) qw vw aw) ++ ((pW cI cJ (qc 5) qz vz az) ++ ((bO cI cJ (qc 6) qB vB aB) ++ ((gW cO (qB 1) gB) ++ ((vW cI cJ (qB 0) qv vv av) ++ (lW cI cJ he qe (LVf N n) ae)))))))) (zI (fun _ => A_ahead N n y)) (fun u => True) (fun u => (dO cI cJ hc qc vc ac) ++ ((kO cI cJ (qc 3) qw (mk6 u.1 u.2.1 u.2.2.1 u.2.2.2.1 u.2.2.2.2.1 u.2.2.2.2.2.1) (uA aw 0 u.2.2.2.2.2.2.1)) ++ ((iW cI cJ (qc 3) qw (mk6 u.1 u.2.1 u.2.2.1 u.2.2.2.1 u.2.2.2.2.1 u.2.2.2.2.2.1) (uA aw 0 u.2.2.2.2.2.2.1)) ++ ((pW cI cJ (qc 5) qz (uV (uV vz 0 u.2.2.2.2.2.2.2.1) 1 u.2.2.2.2.2.2.2.2) az) ++ ((bO cI cJ (qc 6) qB vB aB) ++ ((gW cO (qB 1) gB) ++ ((vW cI cJ (qB 0) qv vv av) ++ (lW cI cJ he qe (LVf N n) ae)))))))) 0 0 := by
  refine z_start (cc := cX10_ahead) (maxL := 5) (ret := (some .int)) (by decide) rfl (Nat.le_of_ble_eq_true rfl) ?_
  intro p e s m below meth c A ls F hr hlk hnm hAe hA hW hl
  have hx := F.1
  have hb := F.2.1
  have hown : s.vm.findClass RX10 = some m.cls := F.2.2.2.1
  have hts := F.2.2.2.2
  have hl : lv_has ls 5 [(0, .ref hc), (1, .int (iI n)), (2, .int (iI y))] := hl
  obtain ⟨w0, w1, w2, hV, hls⟩ := id hWF
  obtain ⟨hL, hT⟩ := hls n (by omega) (by omega)
  obtain ⟨l0, l1, l2, l3, l4, l5, l6, l7, l8, l9, l10, l11, l12, l13, l14, l15⟩ := id hL
  refine lv_aload_n hx hb dX10_ahead_0 rfl (lv_at hl 0 rfl) ?_
  refine z_get (v := .ref (qc 6)) hx hb hts hiX10_ahead_X10 hown hW 0 6 1 rfl rfl rfl (by decide) rfl dX10_ahead_1 ?_
  refine lv_iload_n hx hb dX10_ahead_4 rfl (lv_at hl 1 rfl) ?_
  refine z_callV (As := [.int (iI n)]) (rest := []) F (c_X1_leaseAt  (qc 6) qB vB aB gB n  (show -2147483648 ≤ n ∧ n < 2147483648 by omega) (show 0 ≤ (vB 4) ∧ (vB 4) ≤ 6 by omega)) gX10_ahead_X1_leaseAt rfl ziX1_leaseAt ⟨rfl, rfl, by decide, by decide⟩ rfl hl.1 rfl (Nat.le_of_ble_eq_true rfl) dX10_ahead_5 ⟨Nat.zero_le _, Nat.zero_le _⟩ hW hA [4, 5, 6] rfl (by decide) (fun _ => rfl) (fun _ => (dO cI cJ hc qc vc ac) ++ ((kO cI cJ (qc 3) qw vw aw) ++ ((iW cI cJ (qc 3) qw vw aw) ++ ((pW cI cJ (qc 5) qz vz az) ++ ((bO cI cJ (qc 6) qB vB aB) ++ ((gW cO (qB 1) gB) ++ ((vW cI cJ (qB 0) qv vv av) ++ (lW cI cJ he qe (LVf N n) ae)))))))) (fun _ => rfl) (fun _ => [va_rf (if 0 ≤ n ∧ n < (vB 4) then some (gB n.toNat) else none)]) (fun _ => rfl) 4 rfl rfl rfl (fun _ H locs hp5 hW => ?_)
  rw [if_pos (show 0 ≤ n ∧ n < vB 4 by omega), hg]
  refine W.eq (g2 := F0 m 8 ls [.ref he]) rfl ?_
  refine lv_astore_n (lv' := [(3, .ref he), (0, .ref hc), (1, .int (iI n)), (2, .int (iI y))]) hx hb dX10_ahead_8 rfl hl (by decide) rfl (fun ls hl => ?_)
  refine lv_aload_n hx hb dX10_ahead_9 rfl (lv_at hl 0 rfl) ?_
  refine lv_ifnull hx hb dX10_ahead_10 ?_
  refine lv_aload_n hx hb dX10_ahead_13 rfl (lv_at hl 0 rfl) ?_
  refine lv_iload_n hx hb dX10_ahead_14 rfl (lv_at hl 3 rfl) ?_
  refine z_callV (As := [.int (iI y)]) (rest := []) F (c_X2_hasMonth  he qe (LVf N n) ae y  (show -2147483648 ≤ y ∧ y < 2147483648 by omega) (show (0 ≤ (LF N n 0) ∧ (LF N n 0) ≤ 119) ∧ (0 ≤ (LF N n 1) ∧ (LF N n 1) ≤ 120) by omega)) gX10_ahead_X2_hasMonth rfl ziX2_hasMonth ⟨rfl, rfl, by decide, by decide⟩ rfl hl.1 rfl (Nat.le_of_ble_eq_true rfl) dX10_ahead_15 ⟨Nat.zero_le _, Nat.zero_le _⟩ hW hA [10, 11, 12, 13, 14] rfl (by decide) (fun _ => rfl) (fun _ => (dO cI cJ hc qc vc ac) ++ ((kO cI cJ (qc 3) qw vw aw) ++ ((iW cI cJ (qc 3) qw vw aw) ++ ((pW cI cJ (qc 5) qz vz az) ++ ((bO cI cJ (qc 6) qB vB aB) ++ ((gW cO (qB 1) gB) ++ ((vW cI cJ (qB 0) qv vv av) ++ (lW cI cJ he qe (LVf N n) ae)))))))) (fun _ => rfl) (fun _ => [.int (iI (bI ((LF N n 0) ≤ y ∧ y < (LF N n 0) + (LF N n 1))))]) (fun _ => rfl) 10 rfl rfl rfl (fun _ H locs hp15 hW => ?_)
  refine z_b_ne (tgt := 24) hx hb dX10_ahead_18 (by decide) (fun c18 => ?_) (fun c18 => ?_)
  · have l13b : 0 ≤ (if 0 < LF N n 13 then LF N n 13 - 1 else 240) ∧ (if 0 < LF N n 13 then LF N n 13 - 1 else 240) ≤ 240 := by split <;> omega
    have hE := END_R (k := y) hL
    have zi := zmin_is y (END N n y - 1)
    refine lv_iload_n hx hb dX10_ahead_24 rfl (lv_at hl 3 rfl) ?_
    refine lv_aload_n hx hb dX10_ahead_25 rfl (lv_at hl 0 rfl) ?_
    refine lv_iload_n hx hb dX10_ahead_26 rfl (lv_at hl 3 rfl) ?_
    refine z_callV (As := [.int (iI y)]) (rest := [.int (iI y)]) F (c_X2_endKnownIn  he qe (LVf N n) ae y  (show -2147483648 ≤ y ∧ y < 2147483648 by omega) (show 0 ≤ (if 0 < LF N n 13 then LF N n 13 - 1 else 240) ∧ (if 0 < LF N n 13 then LF N n 13 - 1 else 240) ≤ 240 by omega)) gX10_ahead_X2_endKnownIn rfl ziX2_endKnownIn ⟨rfl, rfl, by decide, by decide⟩ rfl hl.1 rfl (Nat.le_of_ble_eq_true rfl) dX10_ahead_27 ⟨Nat.zero_le _, Nat.zero_le _⟩ hW hA [10, 11, 12, 13, 14] rfl (by decide) (fun _ => rfl) (fun _ => (dO cI cJ hc qc vc ac) ++ ((kO cI cJ (qc 3) qw vw aw) ++ ((iW cI cJ (qc 3) qw vw aw) ++ ((pW cI cJ (qc 5) qz vz az) ++ ((bO cI cJ (qc 6) qB vB aB) ++ ((gW cO (qB 1) gB) ++ ((vW cI cJ (qB 0) qv vv av) ++ (lW cI cJ he qe (LVf N n) ae)))))))) (fun _ => rfl) (fun _ => [.int (iI (if (if 0 < LF N n 13 then LF N n 13 - 1 else 240) ≤ y then (if zand (LF N n 7) 16 ≠ 0 then LF N n 12 else -1) else (LF N n 0) + (LF N n 1))), .int (iI y)]) (fun _ => rfl) 10 rfl rfl rfl (fun _ H locs hp27 hW => ?_)
    rw [ENDc hWb hL (show y ≤ 239 by omega)]
    refine z_iconst (n := 1) hx hb dX10_ahead_30 ?_
    refine z_isub hx hb dX10_ahead_31 ?_
    refine z_mmin F hl.1 3 4 5 6 rfl rfl rfl rfl (by decide) (Nat.le_of_ble_eq_true rfl) ⟨Nat.zero_le _, Nat.zero_le _⟩ ⟨by omega, by omega⟩ ⟨by omega, by omega⟩ dX10_ahead_32 ?_
    refine lv_istore (lv' := [(4, .int (iI (zmin y ((END N n y) - 1)))), (3, .ref he), (0, .ref hc), (1, .int (iI n)), (2, .int (iI y))]) hx hb dX10_ahead_35 hl (by decide) rfl (fun ls hl => ?_)
    refine lv_aload_n hx hb dX10_ahead_37 rfl (lv_at hl 2 rfl) ?_
    refine z_get (v := .ref (qc 5)) hx hb hts hiX10_ahead_X10 hown hW 0 5 7 rfl rfl rfl (by decide) rfl dX10_ahead_38 ?_
    refine lv_aload_n hx hb dX10_ahead_41 rfl (lv_at hl 1 rfl) ?_
    refine lv_aload_n hx hb dX10_ahead_42 rfl (lv_at hl 2 rfl) ?_
    refine z_get (v := .ref (qc 6)) hx hb hts hiX10_ahead_X10 hown hW 0 6 1 rfl rfl rfl (by decide) rfl dX10_ahead_43 ?_
    refine lv_aload_n hx hb dX10_ahead_46 rfl (lv_at hl 2 rfl) ?_
    refine z_get (v := .ref (qc 3)) hx hb hts hiX10_ahead_X10 hown hW 0 3 8 rfl rfl rfl (by decide) rfl dX10_ahead_47 ?_
    refine lv_iload hx hb dX10_ahead_50 (lv_at hl 0 rfl) ?_
    refine z_callV (As := [.ref he, .ref (qc 6), .ref (qc 3), .int (iI (zmin y ((END N n y) - 1)))]) (rest := []) F (c_X5_goTo N n (qc 5) qz vz az he qe ae (qc 6) qB vB aB qv vv av (qc 3) qw vw aw (zmin y ((END N n y) - 1))  (show LF N n 0 ≤ (zmin y ((END N n y) - 1)) ∧ (zmin y ((END N n y) - 1)) < LF N n 0 + LF N n 1 by omega) (fun m a1 a2 a3 => hNs m a1 (by omega) a3) hn2 hWb hRV hV hL hT hTR) gX10_ahead_X5_goTo rfl ziX5_goTo ⟨rfl, rfl, by decide, by decide⟩ rfl hl.1 rfl (Nat.le_of_ble_eq_true rfl) dX10_ahead_52 ⟨Nat.zero_le _, Nat.zero_le _⟩ hW hA [3, 10, 11, 12, 13, 14, 4, 5, 7, 8, 9, 1, 2] rfl (by decide) (fun _ => rfl) (fun u => (dO cI cJ hc qc vc ac) ++ ((kO cI cJ (qc 3) qw (mk6 u.1 u.2.1 u.2.2.1 u.2.2.2.1 u.2.2.2.2.1 u.2.2.2.2.2.1) (uA aw 0 u.2.2.2.2.2.2)) ++ ((iW cI cJ (qc 3) qw (mk6 u.1 u.2.1 u.2.2.1 u.2.2.2.1 u.2.2.2.2.1 u.2.2.2.2.2.1) (uA aw 0 u.2.2.2.2.2.2)) ++ ((pW cI cJ (qc 5) qz (uV (uV vz 0 (SPR N n (zmin y ((END N n y) - 1)))) 1 (TOG N n ((zmin y ((END N n y) - 1)) + 1 - LF N n 0).toNat)) az) ++ ((bO cI cJ (qc 6) qB vB aB) ++ ((gW cO (qB 1) gB) ++ ((vW cI cJ (qB 0) qv vv av) ++ (lW cI cJ he qe (LVf N n) ae)))))))) (fun _ => rfl) (fun u => []) (fun _ => rfl) 3 rfl rfl rfl (fun u H locs hp52 hW => ?_)
    obtain ⟨w1_2, w2_3, w3_4, w4_5, w5_6, w6_7, g0_8⟩ := u
    have hp52 : True := hp52
    have hW : zW G (tyZ cI cJ cO) A s ((dO cI cJ hc qc vc ac) ++ ((kO cI cJ (qc 3) qw (mk6 w1_2 w2_3 w3_4 w4_5 w5_6 w6_7) (uA aw 0 g0_8)) ++ ((iW cI cJ (qc 3) qw (mk6 w1_2 w2_3 w3_4 w4_5 w5_6 w6_7) (uA aw 0 g0_8)) ++ ((pW cI cJ (qc 5) qz (uV (uV vz 0 (SPR N n (zmin y ((END N n y) - 1)))) 1 (TOG N n ((zmin y ((END N n y) - 1)) + 1 - LF N n 0).toNat)) az) ++ ((bO cI cJ (qc 6) qB vB aB) ++ ((gW cO (qB 1) gB) ++ ((vW cI cJ (qB 0) qv vv av) ++ (lW cI cJ he qe (LVf N n) ae)))))))) H locs := hW
    refine lv_aload_n hx hb dX10_ahead_55 rfl (lv_at hl 2 rfl) ?_
    refine z_get (v := .ref (qc 3)) hx hb hts hiX10_ahead_X10 hown hW 0 3 8 rfl rfl rfl (by decide) rfl dX10_ahead_56 ?_
    refine lv_aload_n hx hb dX10_ahead_59 rfl (lv_at hl 1 rfl) ?_
    refine lv_aload_n hx hb dX10_ahead_60 rfl (lv_at hl 2 rfl) ?_
    refine z_get (v := .ref (qc 6)) hx hb hts hiX10_ahead_X10 hown hW 0 6 1 rfl rfl rfl (by decide) rfl dX10_ahead_61 ?_
    refine z_get (v := .ref (qB 0)) hx hb hts hiX10_ahead_X1 hown hW 4 0 9 rfl rfl rfl (by decide) rfl dX10_ahead_64 ?_
    refine lv_iload_n hx hb dX10_ahead_67 rfl (lv_at hl 4 rfl) ?_
    refine z_callV (As := [.ref he, .ref (qB 0), .int (iI y)]) (rest := []) F (c_X9_begin N n (qc 3) qw (mk6 w1_2 w2_3 w3_4 w4_5 w5_6 w6_7) (uA aw 0 g0_8) he qe ae (qB 0) qv vv av y  (show -2147483648 ≤ y ∧ y < 2147483648 by omega) hV hL hRV) gX10_ahead_X9_begin rfl ziX9_begin ⟨rfl, rfl, by decide, by decide⟩ rfl hl.1 rfl (Nat.le_of_ble_eq_true rfl) dX10_ahead_68 ⟨Nat.zero_le _, Nat.zero_le _⟩ hW hA [1, 2, 10, 11, 12, 13, 14, 7, 8, 9] rfl (by decide) (fun _ => rfl) (fun u => (dO cI cJ hc qc vc ac) ++ ((kO cI cJ (qc 3) qw (mk6 y 0 (LF N n 2) (-1) (LF N n 2) (LF N n 2)) (uA aw 0 u)) ++ ((iW cI cJ (qc 3) qw (mk6 y 0 (LF N n 2) (-1) (LF N n 2) (LF N n 2)) (uA aw 0 u)) ++ ((pW cI cJ (qc 5) qz (uV (uV vz 0 (SPR N n (zmin y ((END N n y) - 1)))) 1 (TOG N n ((zmin y ((END N n y) - 1)) + 1 - LF N n 0).toNat)) az) ++ ((bO cI cJ (qc 6) qB vB aB) ++ ((gW cO (qB 1) gB) ++ ((vW cI cJ (qB 0) qv vv av) ++ (lW cI cJ he qe (LVf N n) ae)))))))) (fun _ => rfl) (fun u => []) (fun _ => rfl) 1 rfl rfl rfl (fun u H locs hp68 hW => ?_)
    obtain ⟨g_9, rfl⟩ : ∃ z, z = u := ⟨_, rfl⟩
    have hp68 : rowI N n y g_9 := hp68
    have hW : zW G (tyZ cI cJ cO) A s ((dO cI cJ hc qc vc ac) ++ ((kO cI cJ (qc 3) qw (mk6 y 0 (LF N n 2) (-1) (LF N n 2) (LF N n 2)) (uA aw 0 g_9)) ++ ((iW cI cJ (qc 3) qw (mk6 y 0 (LF N n 2) (-1) (LF N n 2) (LF N n 2)) (uA aw 0 g_9)) ++ ((pW cI cJ (qc 5) qz (uV (uV vz 0 (SPR N n (zmin y ((END N n y) - 1)))) 1 (TOG N n ((zmin y ((END N n y) - 1)) + 1 - LF N n 0).toNat)) az) ++ ((bO cI cJ (qc 6) qB vB aB) ++ ((gW cO (qB 1) gB) ++ ((vW cI cJ (qB 0) qv vv av) ++ (lW cI cJ he qe (LVf N n) ae)))))))) H locs := hW
    refine lv_aload_n hx hb dX10_ahead_71 rfl (lv_at hl 2 rfl) ?_
    refine z_get (v := .ref (qc 5)) hx hb hts hiX10_ahead_X10 hown hW 0 5 7 rfl rfl rfl (by decide) rfl dX10_ahead_72 ?_
    refine z_get (v := .int (iI (TOG N n ((zmin y ((END N n y) - 1)) + 1 - LF N n 0).toNat))) hx hb hts hiX10_ahead_X5 hown hW 3 1 10 rfl rfl rfl (by decide) rfl dX10_ahead_75 ?_
    refine lv_aload_n hx hb dX10_ahead_78 rfl (lv_at hl 2 rfl) ?_
    refine z_get (v := .ref (qc 3)) hx hb hts hiX10_ahead_X10 hown hW 0 3 8 rfl rfl rfl (by decide) rfl dX10_ahead_79 ?_
    refine lv_aload_n hx hb dX10_ahead_82 rfl (lv_at hl 1 rfl) ?_
    refine lv_iload hx hb dX10_ahead_83 (lv_at hl 0 rfl) ?_
    refine z_iconst (n := 1) hx hb dX10_ahead_85 ?_
    refine z_iadd hx hb dX10_ahead_86 ?_
    refine z_callV (As := [.ref he, .int (iI ((zmin y ((END N n y) - 1)) + 1))]) (rest := [.int (iI (TOG N n ((zmin y ((END N n y) - 1)) + 1 - LF N n 0).toNat))]) F (c_X9_dueBelow N n (qc 3) qw (mk6 y 0 (LF N n 2) (-1) (LF N n 2) (LF N n 2)) (uA aw 0 g_9) he qe ae ((zmin y ((END N n y) - 1)) + 1) y (show LF N n 0 ≤ ((zmin y ((END N n y) - 1)) + 1) ∧ ((zmin y ((END N n y) - 1)) + 1) ≤ LF N n 0 + 240 by omega) (show 0 ≤ y ∧ y ≤ 239 by omega) ⟨rfl, rfl, rfl, rfl, rfl, fun q9 => by omega⟩ hp68 hV hL hT hTR) gX10_ahead_X9_dueBelow rfl ziX9_dueBelow ⟨rfl, rfl, by decide, by decide⟩ rfl hl.1 rfl (Nat.le_of_ble_eq_true rfl) dX10_ahead_87 ⟨Nat.zero_le _, Nat.zero_le _⟩ hW hA [1, 2, 10, 11, 12, 13, 14] rfl (by decide) (fun _ => rfl) (fun u => (dO cI cJ hc qc vc ac) ++ ((kO cI cJ (qc 3) qw (mk6 y u.1 u.2.1 u.2.2.1 u.2.2.2.1 u.2.2.2.2) (uA aw 0 g_9)) ++ ((iW cI cJ (qc 3) qw (mk6 y u.1 u.2.1 u.2.2.1 u.2.2.2.1 u.2.2.2.2) (uA aw 0 g_9)) ++ ((pW cI cJ (qc 5) qz (uV (uV vz 0 (SPR N n (zmin y ((END N n y) - 1)))) 1 (TOG N n ((zmin y ((END N n y) - 1)) + 1 - LF N n 0).toNat)) az) ++ ((bO cI cJ (qc 6) qB vB aB) ++ ((gW cO (qB 1) gB) ++ ((vW cI cJ (qB 0) qv vv av) ++ (lW cI cJ he qe (LVf N n) ae)))))))) (fun _ => rfl) (fun u => [.int (iI (SUM (DUE N n y) (LF N n 0) (((zmin y ((END N n y) - 1)) + 1) - LF N n 0).toNat)), .int (iI (TOG N n ((zmin y ((END N n y) - 1)) + 1 - LF N n 0).toNat))]) (fun _ => rfl) 1 rfl rfl rfl (fun u H locs hp87 hW => ?_)
    obtain ⟨d2_10, d3_11, d4_12, d5_13, d6_14⟩ := u
    have hp87 : True := hp87
    have hW : zW G (tyZ cI cJ cO) A s ((dO cI cJ hc qc vc ac) ++ ((kO cI cJ (qc 3) qw (mk6 y d2_10 d3_11 d4_12 d5_13 d6_14) (uA aw 0 g_9)) ++ ((iW cI cJ (qc 3) qw (mk6 y d2_10 d3_11 d4_12 d5_13 d6_14) (uA aw 0 g_9)) ++ ((pW cI cJ (qc 5) qz (uV (uV vz 0 (SPR N n (zmin y ((END N n y) - 1)))) 1 (TOG N n ((zmin y ((END N n y) - 1)) + 1 - LF N n 0).toNat)) az) ++ ((bO cI cJ (qc 6) qB vB aB) ++ ((gW cO (qB 1) gB) ++ ((vW cI cJ (qB 0) qv vv av) ++ (lW cI cJ he qe (LVf N n) ae)))))))) H locs := hW
    refine z_isub hx hb dX10_ahead_90 ?_
    exact z_iret hx hb hr hlk hW (⟨y, d2_10, d3_11, d4_12, d5_13, d6_14, g_9, SPR N n (zmin y ((END N n y) - 1)), TOG N n ((zmin y ((END N n y) - 1)) + 1 - LF N n 0).toNat⟩) (by unfold A_ahead; rw [if_pos ⟨by omega, by omega, by omega⟩, SUM_sub, TOG_SUM]; have eA : AHE N n y = zmin y (END N n y - 1) + 1 := (by unfold AHE; split <;> omega); rw [eA]) trivial rfl dX10_ahead_91
  · refine z_ldc hx hb (-100000000) hown (hts _ (List.mem_of_getElem? (i := 2) rfl)) (by decide +kernel) dX10_ahead_21 ?_
    exact z_iret hx hb hr hlk hW (⟨vw 1, vw 2, vw 3, vw 4, vw 5, vw 6, aw 0, vz 0, vz 1⟩) (by unfold A_ahead; exact if_neg (fun q9 => by obtain ⟨q1, q2, q3⟩ := q9; omega)) trivial rfl dX10_ahead_23
set_option maxHeartbeats 4000000 in
set_option maxRecDepth 100000 in
theorem c_X10_ahead0 {l : Launch} {G : va_G} {cI cJ cO : ClassId} (N : Int → Int) (hc : Nat) (qc : Nat → Nat) (vc : Nat → Int) (ac : Nat → Int → Int) (qB : Nat → Nat) (vB : Nat → Int) (aB : Nat → Int → Int) (gB : Nat → Nat) (n y : Int)  (h1 : -2147483648 ≤ n ∧ n < 2147483648) (h2 : -2147483648 ≤ y ∧ y < 2147483648) (cL : ¬ (0 ≤ n ∧ n < vB 4)) (hv4 : vB 4 = N 2) (hWF : WF N) : zC l yX10_ahead wsX10_ahead { frames := 6, cells := 0, slots := 0, locals := 147 } G (tyZ cI cJ cO) (S := Unit) [.ref hc, .int (iI n), .int (iI y)] ((dO cI cJ hc qc vc ac) ++ ((bO cI cJ (qc 6) qB vB aB) ++ (gW cO (qB 1) gB))) (zI (fun _ => A_ahead N n y)) (fun _ => True) (fun _ => (dO cI cJ hc qc vc ac) ++ ((bO cI cJ (qc 6) qB vB aB) ++ (gW cO (qB 1) gB))) 0 0 := by
  refine z_start (cc := cX10_ahead) (maxL := 5) (ret := (some .int)) (by decide) rfl (Nat.le_of_ble_eq_true rfl) ?_
  intro p e s m below meth c A ls F hr hlk hnm hAe hA hW hl
  have hx := F.1
  have hb := F.2.1
  have hown : s.vm.findClass RX10 = some m.cls := F.2.2.2.1
  have hts := F.2.2.2.2
  have hl : lv_has ls 5 [(0, .ref hc), (1, .int (iI n)), (2, .int (iI y))] := hl
  obtain ⟨w0, w1, w2, hV, hls⟩ := id hWF
  refine lv_aload_n hx hb dX10_ahead_0 rfl (lv_at hl 0 rfl) ?_
  refine z_get (v := .ref (qc 6)) hx hb hts hiX10_ahead_X10 hown hW 0 6 1 rfl rfl rfl (by decide) rfl dX10_ahead_1 ?_
  refine lv_iload_n hx hb dX10_ahead_4 rfl (lv_at hl 1 rfl) ?_
  refine z_callV (As := [.int (iI n)]) (rest := []) F (c_X1_leaseAt  (qc 6) qB vB aB gB n  (show -2147483648 ≤ n ∧ n < 2147483648 by omega) (show 0 ≤ (vB 4) ∧ (vB 4) ≤ 6 by omega)) gX10_ahead_X1_leaseAt rfl ziX1_leaseAt ⟨rfl, rfl, by decide, by decide⟩ rfl hl.1 rfl (Nat.le_of_ble_eq_true rfl) dX10_ahead_5 ⟨Nat.zero_le _, Nat.zero_le _⟩ hW hA [1, 2, 3] rfl (by decide) (fun _ => rfl) (fun _ => (dO cI cJ hc qc vc ac) ++ ((bO cI cJ (qc 6) qB vB aB) ++ (gW cO (qB 1) gB))) (fun _ => rfl) (fun _ => [va_rf (if 0 ≤ n ∧ n < (vB 4) then some (gB n.toNat) else none)]) (fun _ => rfl) 1 rfl rfl rfl (fun _ H locs hp5 hW => ?_)
  rw [if_neg cL]
  refine W.eq (g2 := F0 m 8 ls [.null]) rfl ?_
  refine lv_astore_nN (lv' := [(3, .null), (0, .ref hc), (1, .int (iI n)), (2, .int (iI y))]) hx hb dX10_ahead_8 rfl hl (by decide) rfl (fun ls hl => ?_)
  refine lv_aload_nN hx hb dX10_ahead_9 rfl (lv_at hl 0 rfl) ?_
  refine lv_ifnullN (tgt := 21) hx hb dX10_ahead_10 (by decide) ?_
  refine z_ldc hx hb (-100000000) hown (hts _ (List.mem_of_getElem? (i := 2) rfl)) (by decide +kernel) dX10_ahead_21 ?_
  exact z_iret hx hb hr hlk hW () (by unfold A_ahead; exact if_neg (fun q9 => by obtain ⟨q1, q2, q3⟩ := q9; omega)) trivial rfl dX10_ahead_23
