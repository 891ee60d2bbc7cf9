/-! the class: the book, spreads -/
def bO (cI cJ : ClassId) (h : Nat) (q : Nat → Nat) (v : Nat → Int) (a : Nat → Int → Int) : va_W := [(h, .inr (1, [.ref (q 0), .ref (q 1), .ref (q 2), .int (iI (v 3)), .int (iI (v 4))])), (q 2, .inl (cI, 240, .inl (aI (a 2))))]
abbrev WFb (N : Int → Int) (x : Int) : Prop := 0 < LF N x 13 → zand (LF N x 7) 16 ≠ 0
theorem ENDc {N : Int → Int} {x k : Int} (hb : WFb N x) (hL : WFl N x) (hk : k ≤ 239) : (if (if 0 < LF N x 13 then LF N x 13 - 1 else 240) ≤ k then (if zand (LF N x 7) 16 ≠ 0 then LF N x 12 else -1) else LF N x 0 + LF N x 1) = END N x k := by
  unfold END
  by_cases h : 0 < LF N x 13
  · rw [if_pos h, if_pos (hb h)]
    by_cases h2 : LF N x 13 - 1 ≤ k
    · rw [if_pos h2, if_pos ⟨h, h2⟩]
    · rw [if_neg h2, if_neg (fun q => h2 q.2)]
  · rw [if_neg h, if_neg (by omega), if_neg (fun q => h q.1)]
theorem hiX1_hasNews_X1 : ∀ w ∈ wsX10, w ∈ wsX1_hasNews := fun _ h => List.mem_cons_of_mem _ (List.mem_append_right _ h)
theorem ziX1_hasNews : yX1_hasNews.cls = RX1 ∧ yX1_hasNews.cls ≠ "java/lang/invoke/MethodHandle" ∧ yX1_hasNews.cls ≠ "java/lang/invoke/VarHandle" ∧ (parseMethodDescriptor yX1_hasNews.desc).map (fun d => d.parameters.length) = some 1 := by decide +kernel
set_option maxHeartbeats 4000000 in
set_option maxRecDepth 100000 in
theorem c_X1_hasNews {l : Launch} {G : va_G} {cI cJ cO : ClassId}  (hB : Nat) (qB : Nat → Nat) (vB : Nat → Int) (aB : Nat → Int → Int) (y : Int)  (h1 : -2147483648 ≤ y ∧ y < 2147483648) (h2 : 0 ≤ y → y < 240 → -100000 ≤ aB 2 y ∧ aB 2 y ≤ 100000) : zC l yX1_hasNews wsX1_hasNews { frames := 0, cells := 0, slots := 0, locals := 0 } G (tyZ cI cJ cO) (S := Unit) [.ref hB, .int (iI y)] (bO cI cJ hB qB vB aB) (zI (fun _ => bI ((0 ≤ y ∧ y < 240) ∧ 0 < aB 2 y))) (fun _ => True) (fun _ => bO cI cJ hB qB vB aB) 0 0 := by
  refine z_start (cc := cX1_hasNews) (maxL := 2) (ret := (some .boolean)) (by decide) rfl (Nat.le_of_ble_eq_true rfl) ?_
  intro p e s m below meth c A ls F hr hlk hnm hAe hA hW hl
  have hx := F.1
  have hb := F.2.1
  have hown : s.vm.findClass RX1 = some m.cls := F.2.2.2.1
  have hts := F.2.2.2.2
  have hl : lv_has ls 2 [(0, .ref hB), (1, .int (iI y))] := hl
  refine lv_iload_n hx hb dX1_hasNews_0 rfl (lv_at hl 1 rfl) ?_
  refine z_if_lt (tgt := 26) hx hb dX1_hasNews_1 (by decide) ⟨by omega, by omega⟩ (fun c1 => ?_) (fun c1 => ?_)
  · refine z_iconst (n := 0) hx hb dX1_hasNews_26 ?_
    exact z_zret hx hb hr hlk (by first | exact Or.inl rfl | exact Or.inr rfl | omega) hW () (by first | exact bI_t ⟨by omega, by omega⟩ | exact bI_f (fun hq => by obtain ⟨q1, q2⟩ := hq; omega)) trivial rfl dX1_hasNews_27
  · refine lv_iload_n hx hb dX1_hasNews_4 rfl (lv_at hl 1 rfl) ?_
    refine lv_aload_n hx hb dX1_hasNews_5 rfl (lv_at hl 0 rfl) ?_
    refine z_get (v := .ref (qB 2)) hx hb hts hiX1_hasNews_X1 hown hW 0 2 1 rfl rfl rfl (by decide) rfl dX1_hasNews_6 ?_
    refine z_alen hx hb hW 1 0 rfl rfl dX1_hasNews_9 ?_
    refine W.eq (g2 := F0 m 10 ls [.int (iI 240), .int (iI y)]) rfl ?_
    refine z_icmp_ge (tgt := 26) hx hb dX1_hasNews_10 (by decide) ⟨by omega, by omega⟩ (by decide) (fun c10 => ?_) (fun c10 => ?_)
    · refine z_iconst (n := 0) hx hb dX1_hasNews_26 ?_
      exact z_zret hx hb hr hlk (by first | exact Or.inl rfl | exact Or.inr rfl | omega) hW () (by first | exact bI_t ⟨by omega, by omega⟩ | exact bI_f (fun hq => by obtain ⟨q1, q2⟩ := hq; omega)) trivial rfl dX1_hasNews_27
    · have h9 := h2 (by omega) (by omega)
      refine lv_aload_n hx hb dX1_hasNews_13 rfl (lv_at hl 0 rfl) ?_
      refine z_get (v := .ref (qB 2)) hx hb hts hiX1_hasNews_X1 hown hW 0 2 1 rfl rfl rfl (by decide) rfl dX1_hasNews_14 ?_
      refine lv_iload_n hx hb dX1_hasNews_17 rfl (lv_at hl 1 rfl) ?_
      refine z_iald (f := aB 2) (i := y) hx hb hW 1 0 rfl rfl (by decide) ⟨by omega, by omega⟩ dX1_hasNews_18 ?_
      refine z_if_le (tgt := 26) hx hb dX1_hasNews_19 (by decide) ⟨by omega, by omega⟩ (fun c19 => ?_) (fun c19 => ?_)
      · refine z_iconst (n := 0) hx hb dX1_hasNews_26 ?_
        exact z_zret hx hb hr hlk (by first | exact Or.inl rfl | exact Or.inr rfl | omega) hW () (by first | exact bI_t ⟨by omega, by omega⟩ | exact bI_f (fun hq => by obtain ⟨q1, q2⟩ := hq; omega)) trivial rfl dX1_hasNews_27
      · refine z_iconst (n := 1) hx hb dX1_hasNews_22 ?_
        refine lv_goto (tgt := 27) hx hb dX1_hasNews_23 (by decide) ?_
        exact z_zret hx hb hr hlk (by first | exact Or.inl rfl | exact Or.inr rfl | omega) hW () (by first | exact bI_t ⟨by omega, by omega⟩ | exact bI_f (fun hq => by obtain ⟨q1, q2⟩ := hq; omega)) trivial rfl dX1_hasNews_27
theorem hiX1_addNews_X1 : ∀ w ∈ wsX10, w ∈ wsX1_addNews := fun _ h => List.mem_cons_of_mem _ (List.mem_append_right _ h)
theorem ziX1_addNews : yX1_addNews.cls = RX1 ∧ yX1_addNews.cls ≠ "java/lang/invoke/MethodHandle" ∧ yX1_addNews.cls ≠ "java/lang/invoke/VarHandle" ∧ (parseMethodDescriptor yX1_addNews.desc).map (fun d => d.parameters.length) = some 2 := by decide +kernel
set_option maxHeartbeats 4000000 in
set_option maxRecDepth 100000 in
theorem c_X1_addNews {l : Launch} {G : va_G} {cI cJ cO : ClassId}  (hB : Nat) (qB : Nat → Nat) (vB : Nat → Int) (aB : Nat → Int → Int) (y z : Int)  (h1 : 0 ≤ y ∧ y < 240) : zC l yX1_addNews wsX1_addNews { frames := 0, cells := 0, slots := 0, locals := 0 } G (tyZ cI cJ cO) (S := Unit) [.ref hB, .int (iI y), .int (iI z)] (bO cI cJ hB qB vB aB) (zN) (fun _ => True) (fun _ => bO cI cJ hB qB vB (uA aB 2 (uI (aB 2) y (aB 2 y + z)))) 0 0 := by
  refine z_start (cc := cX1_addNews) (maxL := 3) (ret := none) (by decide) rfl (Nat.le_of_ble_eq_true rfl) ?_
  intro p e s m below meth c A ls F hr hlk hnm hAe hA hW hl
  have hx := F.1
  have hb := F.2.1
  have hown : s.vm.findClass RX1 = some m.cls := F.2.2.2.1
  have hts := F.2.2.2.2
  have hl : lv_has ls 3 [(0, .ref hB), (1, .int (iI y)), (2, .int (iI z))] := hl
  refine lv_iload_n hx hb dX1_addNews_0 rfl (lv_at hl 1 rfl) ?_
  refine z_if_lt (tgt := 23) hx hb dX1_addNews_1 (by decide) ⟨by omega, by omega⟩ (fun c1 => ?_) (fun c1 => ?_)
  · exfalso; omega
  · refine lv_iload_n hx hb dX1_addNews_4 rfl (lv_at hl 1 rfl) ?_
    refine lv_aload_n hx hb dX1_addNews_5 rfl (lv_at hl 0 rfl) ?_
    refine z_get (v := .ref (qB 2)) hx hb hts hiX1_addNews_X1 hown hW 0 2 1 rfl rfl rfl (by decide) rfl dX1_addNews_6 ?_
    refine z_alen hx hb hW 1 0 rfl rfl dX1_addNews_9 ?_
    refine W.eq (g2 := F0 m 10 ls [.int (iI 240), .int (iI y)]) rfl ?_
    refine z_icmp_ge (tgt := 23) hx hb dX1_addNews_10 (by decide) ⟨by omega, by omega⟩ (by decide) (fun c10 => ?_) (fun c10 => ?_)
    · exfalso; omega
    · refine lv_aload_n hx hb dX1_addNews_13 rfl (lv_at hl 0 rfl) ?_
      refine z_get (v := .ref (qB 2)) hx hb hts hiX1_addNews_X1 hown hW 0 2 1 rfl rfl rfl (by decide) rfl dX1_addNews_14 ?_
      refine lv_iload_n hx hb dX1_addNews_17 rfl (lv_at hl 1 rfl) ?_
      refine lv_dup2_11 hx hb dX1_addNews_18 rfl rfl ?_
      refine z_iald (f := aB 2) (i := y) hx hb hW 1 0 rfl rfl (by decide) ⟨by omega, by omega⟩ dX1_addNews_19 ?_
      refine lv_iload_n hx hb dX1_addNews_20 rfl (lv_at hl 2 rfl) ?_
      refine z_iadd hx hb dX1_addNews_21 ?_
      refine z_iast (f := aB 2) (i := y) (z := ((aB 2) y) + z) hx hb hW 1 0 rfl rfl (by decide) ⟨by omega, by omega⟩ dX1_addNews_22 (fun H locs hW => ?_)
      have hW : zW G (tyZ cI cJ cO) A s (bO cI cJ hB qB vB (uA aB 2 (uI (aB 2) y (((aB 2) y) + z)))) H locs := hW
      exact z_vret hx hb hr hlk hW () trivial rfl dX1_addNews_23
theorem hiX1_leaseAt_X1 : ∀ w ∈ wsX10, w ∈ wsX1_leaseAt := fun _ h => List.mem_cons_of_mem _ (List.mem_append_right _ h)
theorem ziX1_leaseAt : yX1_leaseAt.cls = RX1 ∧ yX1_leaseAt.cls ≠ "java/lang/invoke/MethodHandle" ∧ yX1_leaseAt.cls ≠ "java/lang/invoke/VarHandle" ∧ (parseMethodDescriptor yX1_leaseAt.desc).map (fun d => d.parameters.length) = some 1 := by decide +kernel
set_option maxHeartbeats 4000000 in
set_option maxRecDepth 100000 in
theorem c_X1_leaseAt {l : Launch} {G : va_G} {cI cJ cO : ClassId}  (hB : Nat) (qB : Nat → Nat) (vB : Nat → Int) (aB : Nat → Int → Int) (gB : Nat → Nat) (n : Int)  (h1 : -2147483648 ≤ n ∧ n < 2147483648) (h2 : 0 ≤ vB 4 ∧ vB 4 ≤ 6) : zC l yX1_leaseAt wsX1_leaseAt { frames := 0, cells := 0, slots := 0, locals := 0 } G (tyZ cI cJ cO) (S := Unit) [.ref hB, .int (iI n)] ((bO cI cJ hB qB vB aB) ++ (gW cO (qB 1) gB)) (zO (fun _ => if 0 ≤ n ∧ n < vB 4 then some (gB n.toNat) else none)) (fun _ => True) (fun _ => (bO cI cJ hB qB vB aB) ++ (gW cO (qB 1) gB)) 0 0 := by
  refine z_start (cc := cX1_leaseAt) (maxL := 2) (ret := (some (.object "RentReview$Lease"))) (by decide) rfl (Nat.le_of_ble_eq_true rfl) ?_
  intro p e s m below meth c A ls F hr hlk hnm hAe hA hW hl
  have hx := F.1
  have hb := F.2.1
  have hown : s.vm.findClass RX1 = some m.cls := F.2.2.2.1
  have hts := F.2.2.2.2
  have hl : lv_has ls 2 [(0, .ref hB), (1, .int (iI n))] := hl
  refine lv_iload_n hx hb dX1_leaseAt_0 rfl (lv_at hl 1 rfl) ?_
  refine z_if_lt (tgt := 30) hx hb dX1_leaseAt_1 (by decide) ⟨by omega, by omega⟩ (fun c1 => ?_) (fun c1 => ?_)
  · refine lv_null hx hb dX1_leaseAt_30 ?_
    exact z_oret (o := none) hx hb hr hlk hW () (show (if 0 ≤ n ∧ n < vB 4 then some (gB n.toNat) else none) = none by first | exact if_pos (by omega) | exact if_neg (by omega)) trivial rfl dX1_leaseAt_31
  · refine lv_iload_n hx hb dX1_leaseAt_4 rfl (lv_at hl 1 rfl) ?_
    refine lv_aload_n hx hb dX1_leaseAt_5 rfl (lv_at hl 0 rfl) ?_
    refine z_get (v := .int (iI (vB 4))) hx hb hts hiX1_leaseAt_X1 hown hW 0 4 1 rfl rfl rfl (by decide) rfl dX1_leaseAt_6 ?_
    refine z_icmp_ge (tgt := 30) hx hb dX1_leaseAt_9 (by decide) ⟨by omega, by omega⟩ ⟨by omega, by omega⟩ (fun c9 => ?_) (fun c9 => ?_)
    · refine lv_null hx hb dX1_leaseAt_30 ?_
      exact z_oret (o := none) hx hb hr hlk hW () (show (if 0 ≤ n ∧ n < vB 4 then some (gB n.toNat) else none) = none by first | exact if_pos (by omega) | exact if_neg (by omega)) trivial rfl dX1_leaseAt_31
    · refine lv_iload_n hx hb dX1_leaseAt_12 rfl (lv_at hl 1 rfl) ?_
      refine lv_aload_n hx hb dX1_leaseAt_13 rfl (lv_at hl 0 rfl) ?_
      refine z_get (v := .ref (qB 1)) hx hb hts hiX1_leaseAt_X1 hown hW 0 1 2 rfl rfl rfl (by decide) rfl dX1_leaseAt_14 ?_
      refine z_alen hx hb hW 2 2 rfl rfl dX1_leaseAt_17 ?_
      refine W.eq (g2 := F0 m 18 ls [.int (iI 6), .int (iI n)]) rfl ?_
      refine z_icmp_ge (tgt := 30) hx hb dX1_leaseAt_18 (by decide) ⟨by omega, by omega⟩ (by decide) (fun c18 => ?_) (fun c18 => ?_)
      · refine lv_null hx hb dX1_leaseAt_30 ?_
        exact z_oret (o := none) hx hb hr hlk hW () (show (if 0 ≤ n ∧ n < vB 4 then some (gB n.toNat) else none) = none by first | exact if_pos (by omega) | exact if_neg (by omega)) trivial rfl dX1_leaseAt_31
      · refine lv_aload_n hx hb dX1_leaseAt_21 rfl (lv_at hl 0 rfl) ?_
        refine z_get (v := .ref (qB 1)) hx hb hts hiX1_leaseAt_X1 hown hW 0 1 2 rfl rfl rfl (by decide) rfl dX1_leaseAt_22 ?_
        refine lv_iload_n hx hb dX1_leaseAt_25 rfl (lv_at hl 1 rfl) ?_
        refine z_aald (g := gB) (i := n) hx hb hW 2 2 rfl rfl (by decide) ⟨by omega, by omega⟩ dX1_leaseAt_26 ?_
        refine lv_goto (tgt := 31) hx hb dX1_leaseAt_27 (by decide) ?_
        exact z_oret (o := some (gB n.toNat)) hx hb hr hlk hW () (show (if 0 ≤ n ∧ n < vB 4 then some (gB n.toNat) else none) = some (gB n.toNat) by first | exact if_pos (by omega) | exact if_neg (by omega)) trivial rfl dX1_leaseAt_31
theorem hiX5_goTo_X5 : ∀ w ∈ wsX50, w ∈ wsX5_goTo := fun _ h => List.mem_cons_of_mem _ (List.mem_append_left _ (List.mem_append_left _ (List.mem_append_left _ (List.mem_append_left _ (List.mem_append_left _ (List.mem_append_right _ h))))))
theorem hiX5_goTo_X2 : ∀ w ∈ wsX20, w ∈ wsX5_goTo := fun _ h => List.mem_cons_of_mem _ (List.mem_append_left _ (List.mem_append_left _ (List.mem_append_left _ (List.mem_append_left _ (List.mem_append_right _ h)))))
theorem hiX5_goTo_X1 : ∀ w ∈ wsX10, w ∈ wsX5_goTo := fun _ h => List.mem_cons_of_mem _ (List.mem_append_left _ (List.mem_append_left _ (List.mem_append_left _ (List.mem_append_right _ h))))
theorem hiX5_goTo_X9 : ∀ w ∈ wsX90, w ∈ wsX5_goTo := fun _ h => List.mem_cons_of_mem _ (List.mem_append_left _ (List.mem_append_left _ (List.mem_append_right _ h)))
theorem hiX5_goTo_X8 : ∀ w ∈ wsX80, w ∈ wsX5_goTo := fun _ h => List.mem_cons_of_mem _ (List.mem_append_left _ (List.mem_append_right _ h))
theorem hiX5_goTo_X3 : ∀ w ∈ wsX30, w ∈ wsX5_goTo := fun _ h => List.mem_cons_of_mem _ (List.mem_append_right _ h)
theorem ziX5_goTo : yX5_goTo.cls = RX5 ∧ yX5_goTo.cls ≠ "java/lang/invoke/MethodHandle" ∧ yX5_goTo.cls ≠ "java/lang/invoke/VarHandle" ∧ (parseMethodDescriptor yX5_goTo.desc).map (fun d => d.parameters.length) = some 4 := by decide +kernel
set_option maxHeartbeats 4000000 in
set_option maxRecDepth 100000 in
theorem c_X5_goTo {l : Launch} {G : va_G} {cI cJ cO : ClassId} (N : Int → Int) (x : Int) (hz : Nat) (qz : Nat → Nat) (vz : Nat → Int) (az : Nat → Int → Int) (he : Nat) (qe : Nat → Nat) (ae : Nat → Int → Int) (hB : Nat) (qB : Nat → Nat) (vB : Nat → Int) (aB : Nat → Int → Int) (qv : Nat → Nat) (vv : Nat → Int) (av : Nat → Int → Int) (hw : Nat) (qw : Nat → Nat) (vw : Nat → Int) (aw : Nat → Int → Int) (y : Int)  (h1 : LF N x 0 ≤ y ∧ y < LF N x 0 + LF N x 1) (hNw : ∀ m : Int, LF N x 0 < m → m ≤ y → ¬ 0 < aB 2 m → ALLD N x m = ALLD N x (m - 1)) (hn2 : ∀ m : Int, 0 ≤ m → m < 240 → -100000 ≤ aB 2 m ∧ aB 2 m ≤ 100000) (hWb : WFb N x) (hRV : RV N av) (hV : WFv N) (hL : WFl N x) (hT : WFt N x) (hTR : TR N x ae) : zC l yX5_goTo wsX5_goTo { frames := 5, cells := 0, slots := 0, locals := 120 } G (tyZ cI cJ cO) (S := Int × Int × Int × Int × Int × Int × (Int → Int)) [.ref hz, .ref he, .ref hB, .ref hw, .int (iI y)] ((pW cI cJ hz qz vz az) ++ ((lW cI cJ he qe (LVf N x) ae) ++ ((bO cI cJ hB qB vB aB) ++ ((vW cI cJ (qB 0) qv vv av) ++ ((kO cI cJ hw qw vw aw) ++ (iW cI cJ hw qw vw aw)))))) (zN) (fun u => True) (fun u => (pW cI cJ hz qz (uV (uV vz 0 (SPR N x y)) 1 (TOG N x (y + 1 - LF N x 0).toNat)) az) ++ ((lW cI cJ he qe (LVf N x) ae) ++ ((bO cI cJ hB qB vB aB) ++ ((vW cI cJ (qB 0) qv vv av) ++ ((kO cI cJ hw qw (mk6 u.1 u.2.1 u.2.2.1 u.2.2.2.1 u.2.2.2.2.1 u.2.2.2.2.2.1) (uA aw 0 u.2.2.2.2.2.2)) ++ (iW cI cJ hw qw (mk6 u.1 u.2.1 u.2.2.1 u.2.2.2.1 u.2.2.2.2.1 u.2.2.2.2.2.1) (uA aw 0 u.2.2.2.2.2.2))))))) 0 0 := by
  refine z_start (cc := cX5_goTo) (maxL := 8) (ret := none) (by decide) rfl (Nat.le_of_ble_eq_true rfl) ?_
  intro p e s m below meth c A ls F hr hlk hnm hAe hA hW hl
  have hx := F.1
  have hb := F.2.1
  have hown : s.vm.findClass RX5 = some m.cls := F.2.2.2.1
  have hts := F.2.2.2.2
  have hl : lv_has ls 8 [(0, .ref hz), (1, .ref he), (2, .ref hB), (3, .ref hw), (4, .int (iI y))] := hl
  obtain ⟨l0, l1, l2, l3, l4, l5, l6, l7, l8, l9, l10, l11, l12, l13, l14, l15⟩ := id hL
  refine z_iconst (n := 0) hx hb dX5_goTo_0 ?_
  refine lv_istore (lv' := [(5, .int (iI 0)), (0, .ref hz), (1, .ref he), (2, .ref hB), (3, .ref hw), (4, .int (iI y))]) hx hb dX5_goTo_1 hl (by decide) rfl (fun ls hl => ?_)
  refine lv_aload_n hx hb dX5_goTo_3 rfl (lv_at hl 1 rfl) ?_
  refine z_iconst (n := 0) hx hb dX5_goTo_4 ?_
  refine z_put hx hb hts hiX5_goTo_X5 tyX5 tyX5_ok nmX5 hown hW 0 0 1 rfl rfl (by decide) (Nat.le_of_ble_eq_true rfl) rfl rfl rfl rfl dX5_goTo_5 (fun H locs hW => ?_)
  have hW : zW G (tyZ cI cJ cO) A s ((pW cI cJ hz qz (uV vz 0 0) az) ++ ((lW cI cJ he qe (LVf N x) ae) ++ ((bO cI cJ hB qB vB aB) ++ ((vW cI cJ (qB 0) qv vv av) ++ ((kO cI cJ hw qw vw aw) ++ (iW cI cJ hw qw vw aw)))))) H locs := hW
  refine lv_aload_n hx hb dX5_goTo_8 rfl (lv_at hl 1 rfl) ?_
  refine z_iconst (n := 0) hx hb dX5_goTo_9 ?_
  refine z_put hx hb hts hiX5_goTo_X5 tyX5 tyX5_ok nmX5 hown hW 0 1 2 rfl rfl (by decide) (Nat.le_of_ble_eq_true rfl) rfl rfl rfl rfl dX5_goTo_10 (fun H locs hW => ?_)
  have hW : zW G (tyZ cI cJ cO) A s ((pW cI cJ hz qz (uV (uV vz 0 0) 1 0) az) ++ ((lW cI cJ he qe (LVf N x) ae) ++ ((bO cI cJ hB qB vB aB) ++ ((vW cI cJ (qB 0) qv vv av) ++ ((kO cI cJ hw qw vw aw) ++ (iW cI cJ hw qw vw aw)))))) H locs := hW
  refine lv_aload_n hx hb dX5_goTo_13 rfl (lv_at hl 2 rfl) ?_
  refine z_get (v := .int (iI (LF N x 0))) hx hb hts hiX5_goTo_X2 hown hW 1 4 3 rfl rfl rfl (by decide) rfl dX5_goTo_14 ?_
  refine lv_istore (lv' := [(6, .int (iI (LF N x 0))), (5, .int (iI 0)), (0, .ref hz), (1, .ref he), (2, .ref hB), (3, .ref hw), (4, .int (iI y))]) hx hb dX5_goTo_17 hl (by decide) rfl (fun ls hl => ?_)
  refine z_loop11 (fun (t5 : Int) (m6 : Int) (z0 : Int) (z1 : Int) (w1 : Int) (w2 : Int) (w3 : Int) (w4 : Int) (w5 : Int) (w6 : Int) (g0 : Int → Int) (ls : Array Slot) (H : Heap) (locs : List Loc) => (LF N x 0 ≤ m6 ∧ m6 ≤ y + 1) ∧ (LF N x 0 < m6 → t5 = ALLD N x (m6 - 1)) ∧ (z1 = TOG N x (m6 - LF N x 0).toNat) ∧ (LF N x 0 < m6 → z0 = SPR N x (m6 - 1)) ∧ zW G (tyZ cI cJ cO) A s ((pW cI cJ hz qz (uV (uV vz 0 z0) 1 z1) az) ++ ((lW cI cJ he qe (LVf N x) ae) ++ ((bO cI cJ hB qB vB aB) ++ ((vW cI cJ (qB 0) qv vv av) ++ ((kO cI cJ hw qw (mk6 w1 w2 w3 w4 w5 w6) aw) ++ (iW cI cJ hw qw vw (uA aw 0 g0))))))) H locs ∧ lv_has ls 8 [(6, .int (iI m6)), (5, .int (iI t5)), (0, .ref hz), (1, .ref he), (2, .ref hB), (3, .ref hw), (4, .int (iI y))]) (fun t5 m6 z0 z1 w1 w2 w3 w4 w5 w6 g0 => (y + 1 - m6).toNat) ?_ 0 (LF N x 0) 0 0 (vw 1) (vw 2) (vw 3) (vw 4) (vw 5) (vw 6) (aw 0) _ _ _ ⟨(by omega), (fun q9 => by omega), (by rw [show (LF N x 0 - LF N x 0).toNat = 0 by omega]; rfl), (fun q9 => by omega), hW, (lv_sub hl [0, 1, 2, 3, 4, 5, 6] rfl)⟩
  intro t5 m6 z0 z1 w1 w2 w3 w4 w5 w6 g0 ls H locs hI ih
  obtain ⟨i1, i2, i3, i4, hW, hl⟩ := hI
  refine lv_iload hx hb dX5_goTo_19 (lv_at hl 0 rfl) ?_
  refine lv_iload hx hb dX5_goTo_21 (lv_at hl 6 rfl) ?_
  refine z_icmp_gt (tgt := 119) hx hb dX5_goTo_23 (by decide) ⟨by omega, by omega⟩ ⟨by omega, by omega⟩ (fun c23 => ?_) (fun c23 => ?_)
  · have f0 : z0 = SPR N x y := by rw [i4 (by omega), show m6 - 1 = y by omega]
    have f1 : z1 = TOG N x (y + 1 - LF N x 0).toNat := by rw [i3, show m6 = y + 1 by omega]
    subst f0; subst f1
    exact z_vret hx hb hr hlk hW (⟨w1, w2, w3, w4, w5, w6, g0⟩) trivial rfl dX5_goTo_119
  · have hE := END_R (k := m6) hL
    have hAl := ALLD_R (m := m6) hL
    have hT2 := TOG_R hL (m6 - LF N x 0).toNat
    have l13b : 0 ≤ (if 0 < LF N x 13 then LF N x 13 - 1 else 240) ∧ (if 0 < LF N x 13 then LF N x 13 - 1 else 240) ≤ 240 := by split <;> omega
    refine lv_aload_n hx hb dX5_goTo_26 rfl (lv_at hl 3 rfl) ?_
    refine lv_iload hx hb dX5_goTo_27 (lv_at hl 0 rfl) ?_
    refine z_callV (As := [.int (iI m6)]) (rest := []) F (c_X2_endKnownIn  he qe (LVf N x) ae m6  (show -2147483648 ≤ m6 ∧ m6 < 2147483648 by omega) (show 0 ≤ (if 0 < LF N x 13 then LF N x 13 - 1 else 240) ∧ (if 0 < LF N x 13 then LF N x 13 - 1 else 240) ≤ 240 by omega)) gX5_goTo_X2_endKnownIn rfl ziX2_endKnownIn ⟨rfl, rfl, by decide, by decide⟩ rfl hl.1 rfl (Nat.le_of_ble_eq_true rfl) dX5_goTo_29 ⟨Nat.zero_le _, Nat.zero_le _⟩ hW hA [1, 2, 3, 4, 5] rfl (by decide) (fun _ => rfl) (fun _ => (pW cI cJ hz qz (uV (uV vz 0 z0) 1 z1) az) ++ ((lW cI cJ he qe (LVf N x) ae) ++ ((bO cI cJ hB qB vB aB) ++ ((vW cI cJ (qB 0) qv vv av) ++ ((kO cI cJ hw qw (mk6 w1 w2 w3 w4 w5 w6) aw) ++ (iW cI cJ hw qw vw (uA aw 0 g0))))))) (fun _ => rfl) (fun _ => [.int (iI (if (if 0 < LF N x 13 then LF N x 13 - 1 else 240) ≤ m6 then (if zand (LF N x 7) 16 ≠ 0 then LF N x 12 else -1) else (LF N x 0) + (LF N x 1)))]) (fun _ => rfl) 1 rfl rfl rfl (fun _ H locs hp29 hW => ?_)
    rw [ENDc hWb hL (show m6 ≤ 239 by omega)]
    refine lv_istore (lv' := [(7, .int (iI (END N x m6))), (6, .int (iI m6)), (5, .int (iI t5)), (0, .ref hz), (1, .ref he), (2, .ref hB), (3, .ref hw), (4, .int (iI y))]) hx hb dX5_goTo_32 hl (by decide) rfl (fun ls hl => ?_)
    refine z_join8 (fun (t6 : Int) (w1 : Int) (w2 : Int) (w3 : Int) (w4 : Int) (w5 : Int) (w6 : Int) (g0 : Int → Int) (ls : Array Slot) (H : Heap) (locs : List Loc) => (t6 = ALLD N x m6) ∧ zW G (tyZ cI cJ cO) A s ((pW cI cJ hz qz (uV (uV vz 0 z0) 1 z1) az) ++ ((lW cI cJ he qe (LVf N x) ae) ++ ((bO cI cJ hB qB vB aB) ++ ((vW cI cJ (qB 0) qv vv av) ++ ((kO cI cJ hw qw (mk6 w1 w2 w3 w4 w5 w6) aw) ++ (iW cI cJ hw qw vw (uA aw 0 g0))))))) H locs ∧ lv_has ls 8 [(7, .int (iI (END N x m6))), (6, .int (iI m6)), (5, .int (iI t6)), (0, .ref hz), (1, .ref he), (2, .ref hB), (3, .ref hw), (4, .int (iI y))]) 72 (fun t6 w1 w2 w3 w4 w5 w6 g0 => []) ?_ ?_
    · intro t6 w1 w2 w3 w4 w5 w6 g0 ls H locs hJ
      obtain ⟨td, hW, hl⟩ := hJ
      refine lv_aload_n hx hb dX5_goTo_72 rfl (lv_at hl 3 rfl) ?_
      refine z_join1 (fun (s9 : Int) (ls : Array Slot) (H : Heap) (locs : List Loc) => (s9 = SPR1 N x m6 z1) ∧ zW G (tyZ cI cJ cO) A s ((pW cI cJ hz qz (uV (uV vz 0 z0) 1 z1) az) ++ ((lW cI cJ he qe (LVf N x) ae) ++ ((bO cI cJ hB qB vB aB) ++ ((vW cI cJ (qB 0) qv vv av) ++ ((kO cI cJ hw qw (mk6 w1 w2 w3 w4 w5 w6) aw) ++ (iW cI cJ hw qw vw (uA aw 0 g0))))))) H locs ∧ lv_has ls 8 [(7, .int (iI (END N x m6))), (6, .int (iI m6)), (5, .int (iI t6)), (0, .ref hz), (1, .ref he), (2, .ref hB), (3, .ref hw), (4, .int (iI y))]) 97 (fun s9 => [.int (iI s9), .ref hz]) ?_ ?_
      · intro s9 ls H locs hJ
        obtain ⟨es, hW, hl⟩ := hJ
        refine z_put hx hb hts hiX5_goTo_X5 tyX5 tyX5_ok nmX5 hown hW 0 0 1 rfl rfl (by decide) (Nat.le_of_ble_eq_true rfl) rfl rfl rfl rfl dX5_goTo_97 (fun H locs hW => ?_)
        have hW : zW G (tyZ cI cJ cO) A s ((pW cI cJ hz qz (uV (uV vz 1 z1) 0 s9) az) ++ ((lW cI cJ he qe (LVf N x) ae) ++ ((bO cI cJ hB qB vB aB) ++ ((vW cI cJ (qB 0) qv vv av) ++ ((kO cI cJ hw qw (mk6 w1 w2 w3 w4 w5 w6) aw) ++ (iW cI cJ hw qw vw (uA aw 0 g0))))))) H locs := hW
        refine lv_aload_n hx hb dX5_goTo_100 rfl (lv_at hl 3 rfl) ?_
        refine lv_dup hx hb dX5_goTo_101 rfl ?_
        refine z_get (v := .int (iI z1)) hx hb hts hiX5_goTo_X5 hown hW 0 1 2 rfl rfl rfl (by decide) rfl dX5_goTo_102 ?_
        refine lv_aload_n hx hb dX5_goTo_105 rfl (lv_at hl 3 rfl) ?_
        refine z_get (v := .int (iI s9)) hx hb hts hiX5_goTo_X5 hown hW 0 0 1 rfl rfl rfl (by decide) rfl dX5_goTo_106 ?_
        refine z_iadd hx hb dX5_goTo_109 ?_
        refine z_put hx hb hts hiX5_goTo_X5 tyX5 tyX5_ok nmX5 hown hW 0 1 2 rfl rfl (by decide) (Nat.le_of_ble_eq_true rfl) rfl rfl rfl rfl dX5_goTo_110 (fun H locs hW => ?_)
        have hW : zW G (tyZ cI cJ cO) A s ((pW cI cJ hz qz (uV (uV vz 0 s9) 1 (z1 + s9)) az) ++ ((lW cI cJ he qe (LVf N x) ae) ++ ((bO cI cJ hB qB vB aB) ++ ((vW cI cJ (qB 0) qv vv av) ++ ((kO cI cJ hw qw (mk6 w1 w2 w3 w4 w5 w6) aw) ++ (iW cI cJ hw qw vw (uA aw 0 g0))))))) H locs := hW
        refine z_iinc (k := 1) (lv' := [(6, .int (iI (m6 + 1))), (7, .int (iI (END N x m6))), (5, .int (iI t6)), (0, .ref hz), (1, .ref he), (2, .ref hB), (3, .ref hw), (4, .int (iI y))]) hx hb dX5_goTo_113 hl rfl (by decide) rfl (fun ls hl => ?_)
        refine lv_goto (tgt := 19) hx hb dX5_goTo_116 (by decide) ?_
        exact ih t6 (m6 + 1) s9 (z1 + s9) w1 w2 w3 w4 w5 w6 g0 _ _ _ ⟨(by omega), (fun _ => by rw [show m6 + 1 - 1 = m6 by omega]; exact td), (by rw [show (m6 + 1 - LF N x 0).toNat = (m6 - LF N x 0).toNat + 1 by omega]; show _ = TOG N x (m6 - LF N x 0).toNat + SPR1 N x (LF N x 0 + ((m6 - LF N x 0).toNat : Int)) (TOG N x (m6 - LF N x 0).toNat); rw [show LF N x 0 + ((m6 - LF N x 0).toNat : Int) = m6 by omega, ← i3, es]), (fun _ => by rw [show m6 + 1 - 1 = m6 by omega, es]; unfold SPR; rw [← i3]), hW, (lv_sub hl [0, 2, 3, 4, 5, 6, 7] rfl)⟩ (by omega)
      · intro J1
        refine lv_iload hx hb dX5_goTo_73 (lv_at hl 1 rfl) ?_
        refine lv_iload hx hb dX5_goTo_75 (lv_at hl 0 rfl) ?_
        refine z_icmp_ge (tgt := 96) hx hb dX5_goTo_77 (by decide) ⟨by omega, by omega⟩ ⟨by omega, by omega⟩ (fun c77 => ?_) (fun c77 => ?_)
        · refine z_iconst (n := 0) hx hb dX5_goTo_96 ?_
          exact J1 0 _ _ _ ⟨(by unfold SPR1; first | (rw [if_pos (by omega), td]; done) | exact (if_neg (by omega)).symm), hW, (lv_sub hl [0, 1, 2, 3, 4, 5, 6, 7] rfl)⟩
        · refine lv_iload hx hb dX5_goTo_80 (lv_at hl 2 rfl) ?_
          refine lv_aload_n hx hb dX5_goTo_82 rfl (lv_at hl 3 rfl) ?_
          refine z_get (v := .int (iI z1)) hx hb hts hiX5_goTo_X5 hown hW 0 1 2 rfl rfl rfl (by decide) rfl dX5_goTo_83 ?_
          refine z_isub hx hb dX5_goTo_86 ?_
          refine lv_iload hx hb dX5_goTo_87 (lv_at hl 0 rfl) ?_
          refine lv_iload hx hb dX5_goTo_89 (lv_at hl 1 rfl) ?_
          refine z_isub hx hb dX5_goTo_91 ?_
          refine z_idiv hx hb dX5_goTo_92 ⟨by omega, by omega⟩ ⟨by omega, by omega⟩ (by omega) (by omega) ?_
          refine lv_goto (tgt := 97) hx hb dX5_goTo_93 (by decide) ?_
          exact J1 ((t6 - z1).tdiv ((END N x m6) - m6)) _ _ _ ⟨(by unfold SPR1; first | (rw [if_pos (by omega), td]; done) | exact (if_neg (by omega)).symm), hW, (lv_sub hl [0, 1, 2, 3, 4, 5, 6, 7] rfl)⟩
    · intro J2
      refine lv_iload hx hb dX5_goTo_34 (lv_at hl 1 rfl) ?_
      refine lv_aload_n hx hb dX5_goTo_36 rfl (lv_at hl 4 rfl) ?_
      refine z_get (v := .int (iI (LF N x 0))) hx hb hts hiX5_goTo_X2 hown hW 1 4 3 rfl rfl rfl (by decide) rfl dX5_goTo_37 ?_
      refine z_icmp_eq (tgt := 52) hx hb dX5_goTo_40 (by decide) ⟨by omega, by omega⟩ ⟨by omega, by omega⟩ (fun c40 => ?_) (fun c40 => ?_)
      · refine lv_aload_n hx hb dX5_goTo_52 rfl (lv_at hl 6 rfl) ?_
        refine lv_aload_n hx hb dX5_goTo_53 rfl (lv_at hl 4 rfl) ?_
        refine lv_aload_n hx hb dX5_goTo_54 rfl (lv_at hl 5 rfl) ?_
        refine z_get (v := .ref (qB 0)) hx hb hts hiX5_goTo_X1 hown hW 6 0 4 rfl rfl rfl (by decide) rfl dX5_goTo_55 ?_
        refine lv_iload hx hb dX5_goTo_58 (lv_at hl 1 rfl) ?_
        refine z_callV (As := [.ref he, .ref (qB 0), .int (iI m6)]) (rest := []) F (c_X9_begin N x hw qw (mk6 w1 w2 w3 w4 w5 w6) (uA aw 0 g0) he qe ae (qB 0) qv vv av m6  (show -2147483648 ≤ m6 ∧ m6 < 2147483648 by omega) hV hL hRV) gX5_goTo_X9_begin rfl ziX9_begin ⟨rfl, rfl, by decide, by decide⟩ rfl hl.1 rfl (Nat.le_of_ble_eq_true rfl) dX5_goTo_60 ⟨Nat.zero_le _, Nat.zero_le _⟩ hW hA [11, 12, 1, 2, 3, 4, 5, 8, 9, 10] rfl (by decide) (fun _ => rfl) (fun u => (pW cI cJ hz qz (uV (uV vz 0 z0) 1 z1) az) ++ ((lW cI cJ he qe (LVf N x) ae) ++ ((bO cI cJ hB qB vB aB) ++ ((vW cI cJ (qB 0) qv vv av) ++ ((kO cI cJ hw qw (mk6 m6 0 (LF N x 2) (-1) (LF N x 2) (LF N x 2)) (uA aw 0 u)) ++ (iW cI cJ hw qw (mk6 m6 0 (LF N x 2) (-1) (LF N x 2) (LF N x 2)) (uA aw 0 u))))))) (fun _ => rfl) (fun u => []) (fun _ => rfl) 11 rfl rfl rfl (fun u H locs hp60 hW => ?_)
        obtain ⟨g_3, rfl⟩ : ∃ z, z = u := ⟨_, rfl⟩
        have hp60 : rowI N x m6 g_3 := hp60
        have hW : zW G (tyZ cI cJ cO) A s ((pW cI cJ hz qz (uV (uV vz 0 z0) 1 z1) az) ++ ((lW cI cJ he qe (LVf N x) ae) ++ ((bO cI cJ hB qB vB aB) ++ ((vW cI cJ (qB 0) qv vv av) ++ ((kO cI cJ hw qw (mk6 m6 0 (LF N x 2) (-1) (LF N x 2) (LF N x 2)) (uA aw 0 g_3)) ++ (iW cI cJ hw qw (mk6 m6 0 (LF N x 2) (-1) (LF N x 2) (LF N x 2)) (uA aw 0 g_3))))))) H locs := hW
        refine lv_aload_n hx hb dX5_goTo_63 rfl (lv_at hl 6 rfl) ?_
        refine lv_aload_n hx hb dX5_goTo_64 rfl (lv_at hl 4 rfl) ?_
        refine lv_iload hx hb dX5_goTo_65 (lv_at hl 0 rfl) ?_
        refine z_callV (As := [.ref he, .int (iI (END N x m6))]) (rest := []) F (c_X9_dueBelow N x hw qw (mk6 m6 0 (LF N x 2) (-1) (LF N x 2) (LF N x 2)) (uA aw 0 g_3) he qe ae (END N x m6) m6 (show LF N x 0 ≤ (END N x m6) ∧ (END N x m6) ≤ LF N x 0 + 240 by omega) (show 0 ≤ m6 ∧ m6 ≤ 239 by omega) ⟨rfl, rfl, rfl, rfl, rfl, fun q9 => by omega⟩ hp60 hV hL hT hTR) gX5_goTo_X9_dueBelow rfl ziX9_dueBelow ⟨rfl, rfl, by decide, by decide⟩ rfl hl.1 rfl (Nat.le_of_ble_eq_true rfl) dX5_goTo_67 ⟨Nat.zero_le _, Nat.zero_le _⟩ hW hA [11, 12, 1, 2, 3, 4, 5] rfl (by decide) (fun _ => rfl) (fun u => (pW cI cJ hz qz (uV (uV vz 0 z0) 1 z1) az) ++ ((lW cI cJ he qe (LVf N x) ae) ++ ((bO cI cJ hB qB vB aB) ++ ((vW cI cJ (qB 0) qv vv av) ++ ((kO cI cJ hw qw (mk6 m6 u.1 u.2.1 u.2.2.1 u.2.2.2.1 u.2.2.2.2) (uA aw 0 g_3)) ++ (iW cI cJ hw qw (mk6 m6 u.1 u.2.1 u.2.2.1 u.2.2.2.1 u.2.2.2.2) (uA aw 0 g_3))))))) (fun _ => rfl) (fun u => [.int (iI (SUM (DUE N x m6) (LF N x 0) ((END N x m6) - LF N x 0).toNat))]) (fun _ => rfl) 11 rfl rfl rfl (fun u H locs hp67 hW => ?_)
        obtain ⟨d2_4, d3_5, d4_6, d5_7, d6_8⟩ := u
        have hp67 : True := hp67
        have hW : zW G (tyZ cI cJ cO) A s ((pW cI cJ hz qz (uV (uV vz 0 z0) 1 z1) az) ++ ((lW cI cJ he qe (LVf N x) ae) ++ ((bO cI cJ hB qB vB aB) ++ ((vW cI cJ (qB 0) qv vv av) ++ ((kO cI cJ hw qw (mk6 m6 d2_4 d3_5 d4_6 d5_7 d6_8) (uA aw 0 g_3)) ++ (iW cI cJ hw qw (mk6 m6 d2_4 d3_5 d4_6 d5_7 d6_8) (uA aw 0 g_3))))))) H locs := hW
        refine lv_istore (lv' := [(5, .int (iI (SUM (DUE N x m6) (LF N x 0) ((END N x m6) - LF N x 0).toNat))), (7, .int (iI (END N x m6))), (6, .int (iI m6)), (0, .ref hz), (1, .ref he), (2, .ref hB), (3, .ref hw), (4, .int (iI y))]) hx hb dX5_goTo_70 hl (by decide) rfl (fun ls hl => ?_)
        exact J2 (SUM (DUE N x m6) (LF N x 0) ((END N x m6) - LF N x 0).toNat) m6 d2_4 d3_5 d4_6 d5_7 d6_8 g_3 _ _ _ ⟨rfl, hW, (lv_sub hl [1, 2, 0, 3, 4, 5, 6, 7] rfl)⟩
      · refine lv_aload_n hx hb dX5_goTo_43 rfl (lv_at hl 5 rfl) ?_
        refine lv_iload hx hb dX5_goTo_44 (lv_at hl 1 rfl) ?_
        refine z_callV (As := [.int (iI m6)]) (rest := []) F (c_X1_hasNews  hB qB vB aB m6  (show -2147483648 ≤ m6 ∧ m6 < 2147483648 by omega) (fun a1 a2 => hn2 _ a1 a2)) gX5_goTo_X1_hasNews rfl ziX1_hasNews ⟨rfl, rfl, by decide, by decide⟩ rfl hl.1 rfl (Nat.le_of_ble_eq_true rfl) dX5_goTo_46 ⟨Nat.zero_le _, Nat.zero_le _⟩ hW hA [6, 7] rfl (by decide) (fun _ => rfl) (fun _ => (pW cI cJ hz qz (uV (uV vz 0 z0) 1 z1) az) ++ ((lW cI cJ he qe (LVf N x) ae) ++ ((bO cI cJ hB qB vB aB) ++ ((vW cI cJ (qB 0) qv vv av) ++ ((kO cI cJ hw qw (mk6 w1 w2 w3 w4 w5 w6) aw) ++ (iW cI cJ hw qw vw (uA aw 0 g0))))))) (fun _ => rfl) (fun _ => [.int (iI (bI ((0 ≤ m6 ∧ m6 < 240) ∧ 0 < (aB 2) m6)))]) (fun _ => rfl) 6 rfl rfl rfl (fun _ H locs hp46 hW => ?_)
        refine z_b_eq (tgt := 72) hx hb dX5_goTo_49 (by decide) (fun c49 => ?_) (fun c49 => ?_)
        · exact J2 t5 w1 w2 w3 w4 w5 w6 g0 _ _ _ ⟨(by rw [i2 (by omega)]; exact (hNw m6 (by omega) (by omega) (by omega)).symm), hW, (lv_sub hl [0, 1, 2, 3, 4, 5, 6, 7] rfl)⟩
        · refine lv_aload_n hx hb dX5_goTo_52 rfl (lv_at hl 6 rfl) ?_
          refine lv_aload_n hx hb dX5_goTo_53 rfl (lv_at hl 4 rfl) ?_
          refine lv_aload_n hx hb dX5_goTo_54 rfl (lv_at hl 5 rfl) ?_
          refine z_get (v := .ref (qB 0)) hx hb hts hiX5_goTo_X1 hown hW 6 0 4 rfl rfl rfl (by decide) rfl dX5_goTo_55 ?_
          refine lv_iload hx hb dX5_goTo_58 (lv_at hl 1 rfl) ?_
          refine z_callV (As := [.ref he, .ref (qB 0), .int (iI m6)]) (rest := []) F (c_X9_begin N x hw qw (mk6 w1 w2 w3 w4 w5 w6) (uA aw 0 g0) he qe ae (qB 0) qv vv av m6  (show -2147483648 ≤ m6 ∧ m6 < 2147483648 by omega) hV hL hRV) gX5_goTo_X9_begin rfl ziX9_begin ⟨rfl, rfl, by decide, by decide⟩ rfl hl.1 rfl (Nat.le_of_ble_eq_true rfl) dX5_goTo_60 ⟨Nat.zero_le _, Nat.zero_le _⟩ hW hA [11, 12, 1, 2, 3, 4, 5, 8, 9, 10] rfl (by decide) (fun _ => rfl) (fun u => (pW cI cJ hz qz (uV (uV vz 0 z0) 1 z1) az) ++ ((lW cI cJ he qe (LVf N x) ae) ++ ((bO cI cJ hB qB vB aB) ++ ((vW cI cJ (qB 0) qv vv av) ++ ((kO cI cJ hw qw (mk6 m6 0 (LF N x 2) (-1) (LF N x 2) (LF N x 2)) (uA aw 0 u)) ++ (iW cI cJ hw qw (mk6 m6 0 (LF N x 2) (-1) (LF N x 2) (LF N x 2)) (uA aw 0 u))))))) (fun _ => rfl) (fun u => []) (fun _ => rfl) 11 rfl rfl rfl (fun u H locs hp60 hW => ?_)
          obtain ⟨g_9, rfl⟩ : ∃ z, z = u := ⟨_, rfl⟩
          have hp60 : rowI N x m6 g_9 := hp60
          have hW : zW G (tyZ cI cJ cO) A s ((pW cI cJ hz qz (uV (uV vz 0 z0) 1 z1) az) ++ ((lW cI cJ he qe (LVf N x) ae) ++ ((bO cI cJ hB qB vB aB) ++ ((vW cI cJ (qB 0) qv vv av) ++ ((kO cI cJ hw qw (mk6 m6 0 (LF N x 2) (-1) (LF N x 2) (LF N x 2)) (uA aw 0 g_9)) ++ (iW cI cJ hw qw (mk6 m6 0 (LF N x 2) (-1) (LF N x 2) (LF N x 2)) (uA aw 0 g_9))))))) H locs := hW
          refine lv_aload_n hx hb dX5_goTo_63 rfl (lv_at hl 6 rfl) ?_
          refine lv_aload_n hx hb dX5_goTo_64 rfl (lv_at hl 4 rfl) ?_
          refine lv_iload hx hb dX5_goTo_65 (lv_at hl 0 rfl) ?_
          refine z_callV (As := [.ref he, .int (iI (END N x m6))]) (rest := []) F (c_X9_dueBelow N x hw qw (mk6 m6 0 (LF N x 2) (-1) (LF N x 2) (LF N x 2)) (uA aw 0 g_9) he qe ae (END N x m6) m6 (show LF N x 0 ≤ (END N x m6) ∧ (END N x m6) ≤ LF N x 0 + 240 by omega) (show 0 ≤ m6 ∧ m6 ≤ 239 by omega) ⟨rfl, rfl, rfl, rfl, rfl, fun q9 => by omega⟩ hp60 hV hL hT hTR) gX5_goTo_X9_dueBelow rfl ziX9_dueBelow ⟨rfl, rfl, by decide, by decide⟩ rfl hl.1 rfl (Nat.le_of_ble_eq_true rfl) dX5_goTo_67 ⟨Nat.zero_le _, Nat.zero_le _⟩ hW hA [11, 12, 1, 2, 3, 4, 5] rfl (by decide) (fun _ => rfl) (fun u => (pW cI cJ hz qz (uV (uV vz 0 z0) 1 z1) az) ++ ((lW cI cJ he qe (LVf N x) ae) ++ ((bO cI cJ hB qB vB aB) ++ ((vW cI cJ (qB 0) qv vv av) ++ ((kO cI cJ hw qw (mk6 m6 u.1 u.2.1 u.2.2.1 u.2.2.2.1 u.2.2.2.2) (uA aw 0 g_9)) ++ (iW cI cJ hw qw (mk6 m6 u.1 u.2.1 u.2.2.1 u.2.2.2.1 u.2.2.2.2) (uA aw 0 g_9))))))) (fun _ => rfl) (fun u => [.int (iI (SUM (DUE N x m6) (LF N x 0) ((END N x m6) - LF N x 0).toNat))]) (fun _ => rfl) 11 rfl rfl rfl (fun u H locs hp67 hW => ?_)
          obtain ⟨d2_10, d3_11, d4_12, d5_13, d6_14⟩ := u
          have hp67 : True := hp67
          have hW : zW G (tyZ cI cJ cO) A s ((pW cI cJ hz qz (uV (uV vz 0 z0) 1 z1) az) ++ ((lW cI cJ he qe (LVf N x) ae) ++ ((bO cI cJ hB qB vB aB) ++ ((vW cI cJ (qB 0) qv vv av) ++ ((kO cI cJ hw qw (mk6 m6 d2_10 d3_11 d4_12 d5_13 d6_14) (uA aw 0 g_9)) ++ (iW cI cJ hw qw (mk6 m6 d2_10 d3_11 d4_12 d5_13 d6_14) (uA aw 0 g_9))))))) H locs := hW
          refine lv_istore (lv' := [(5, .int (iI (SUM (DUE N x m6) (LF N x 0) ((END N x m6) - LF N x 0).toNat))), (7, .int (iI (END N x m6))), (6, .int (iI m6)), (0, .ref hz), (1, .ref he), (2, .ref hB), (3, .ref hw), (4, .int (iI y))]) hx hb dX5_goTo_70 hl (by decide) rfl (fun ls hl => ?_)
          exact J2 (SUM (DUE N x m6) (LF N x 0) ((END N x m6) - LF N x 0).toNat) m6 d2_10 d3_11 d4_12 d5_13 d6_14 g_9 _ _ _ ⟨rfl, hW, (lv_sub hl [1, 2, 0, 3, 4, 5, 6, 7] rfl)⟩
