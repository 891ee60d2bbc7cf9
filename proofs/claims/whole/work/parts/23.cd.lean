/-! the class: the walk goes, dues -/
theorem RVW_iff {N : Int → Int} {x y r : Int} (hL : WFl N x) (hy : LF N x 0 ≤ y) : r ≤ RVW N x y ↔ (r ≤ REV N x ∧ LF N x 0 + r * LF N x 3 ≤ y) := by
  obtain ⟨l0, l1, l2, l3, -⟩ := hL
  have hd := tdiv_P (a := y - LF N x 0) (b := LF N x 3) (by omega) (by omega)
  have hk : r ≤ (y - LF N x 0) / LF N x 3 ↔ r * LF N x 3 ≤ y - LF N x 0 := Int.le_ediv_iff_mul_le (by omega)
  unfold RVW
  split <;> (constructor <;> intro h)
  · have := hk.mp (by omega); omega
  · omega
  · have := hk.mp (by omega); omega
  · have := hk.mpr (by omega); omega
theorem RVW_mono {N : Int → Int} {x y z : Int} (hL : WFl N x) (hy : LF N x 0 ≤ y) (hz : y ≤ z) : RVW N x y ≤ RVW N x z := by
  have h := (RVW_iff (r := RVW N x y) hL hy).mp (Int.le_refl _)
  exact (RVW_iff hL (by omega)).mpr ⟨h.1, by omega⟩
theorem RVW_0 {N : Int → Int} {x y : Int} (hL : WFl N x) (hy : LF N x 0 ≤ y) : 0 ≤ RVW N x y := by
  have hR := REV_R hL
  exact (RVW_iff hL hy).mpr ⟨hR.1, by omega⟩
/-- the walk stands behind review r -/
def WKs (N : Int → Int) (x k r : Int) (v : Nat → Int) : Prop := v 1 = k ∧ v 2 = r ∧ v 3 = RNT N x k r.toNat ∧ v 5 = LST N x r.toNat ∧ v 6 = MST N x r.toNat ∧ (1 ≤ r → v 4 = WNT N x k (RNT N x k (r - 1).toNat) r)
theorem REV_by {N : Int → Int} {x r : Int} (hL : WFl N x) (h1 : 1 ≤ r) (h2 : r ≤ REV N x) : 1 ≤ LF N x 5 := by
  obtain ⟨l0, l1, l2, l3, l4, l5, -⟩ := hL
  by_cases h : LF N x 5 = 0
  · unfold REV at h2; rw [if_pos h] at h2; omega
  · omega
theorem REVc {N : Int → Int} {x : Int} (hL : WFl N x) : (if LF N x 5 = 0 ∨ LF N x 3 < 1 then 0 else (LF N x 1 - 1).tdiv (LF N x 3)) = REV N x := by
  obtain ⟨l0, l1, l2, l3, l4, l5, -⟩ := hL
  unfold REV
  by_cases h : LF N x 5 = 0
  · rw [if_pos (Or.inl h), if_pos h]
  · rw [if_neg (by omega), if_neg h]
theorem gt_lm {N : Int → Int} {x r4 d5 d6 : Int} (h : 1 ≤ r4) (h5 : d5 = LST N x (r4 - 1).toNat) (h6 : d6 = MST N x (r4 - 1).toNat) : (d5 * (1000 - LF N x 10)).tdiv 1000 = LST N x r4.toNat ∧ zmin ((d6 * (1000 + LF N x 11)).tdiv 1000) 999999 = MST N x r4.toNat := by
  have en : r4.toNat = (r4 - 1).toNat + 1 := by omega
  refine ⟨by rw [h5, en]; rfl, ?_⟩
  rw [h6, en]
  show zmin _ _ = (if 999999 < (MST N x (r4 - 1).toNat * (1000 + LF N x 11)).tdiv 1000 then 999999 else (MST N x (r4 - 1).toNat * (1000 + LF N x 11)).tdiv 1000)
  rfl
theorem gt_step1 {N : Int → Int} {x k r4 d3 d5 d6 e3 e5 e6 : Int} (h : 1 ≤ r4) (h3 : d3 = RNT N x k (r4 - 1).toNat) (h5 : d5 = LST N x (r4 - 1).toNat) (h6 : d6 = MST N x (r4 - 1).toNat) (q5 : e5 = (d5 * (1000 - LF N x 10)).tdiv 1000) (q6 : e6 = zmin ((d6 * (1000 + LF N x 11)).tdiv 1000) 999999) (q3 : (WNT N x k d3 r4 = -1 ∧ e3 = d3) ∨ (¬ WNT N x k d3 r4 = -1 ∧ e3 = HLD N x (WNT N x k d3 r4) d3 e5 e6)) : r4 = r4 + 1 - 1 ∧ e3 = RNT N x k (r4 + 1 - 1).toNat ∧ e5 = LST N x (r4 + 1 - 1).toNat ∧ e6 = MST N x (r4 + 1 - 1).toNat := by
  have hlm := gt_lm h h5 h6
  rw [show r4 + 1 - 1 = r4 by omega]
  have en : r4.toNat = (r4 - 1).toNat + 1 := by omega
  have ec : (((r4 - 1).toNat + 1 : Nat) : Int) = r4 := by omega
  refine ⟨rfl, ?_, by rw [q5]; exact hlm.1, by rw [q6]; exact hlm.2⟩
  rw [q5, hlm.1, q6, hlm.2] at q3
  rw [en] at q3 ⊢
  show e3 = (if WNT N x k (RNT N x k (r4 - 1).toNat) (((r4 - 1).toNat + 1 : Nat) : Int) = -1 then RNT N x k (r4 - 1).toNat else HLD N x (WNT N x k (RNT N x k (r4 - 1).toNat) (((r4 - 1).toNat + 1 : Nat) : Int)) (RNT N x k (r4 - 1).toNat) (LST N x ((r4 - 1).toNat + 1)) (MST N x ((r4 - 1).toNat + 1)))
  rw [ec, ← h3]
  rcases q3 with ⟨a1, a2⟩ | ⟨a1, a2⟩
  · rw [if_pos a1, a2]
  · rw [if_neg a1, a2]
theorem hiX9_goTo_X9 : ∀ w ∈ wsX90, w ∈ wsX9_goTo := fun _ h => List.mem_cons_of_mem _ (List.mem_append_left _ (List.mem_append_left _ (List.mem_append_right _ h)))
theorem hiX9_goTo_X2 : ∀ w ∈ wsX20, w ∈ wsX9_goTo := fun _ h => List.mem_cons_of_mem _ (List.mem_append_left _ (List.mem_append_right _ h))
theorem hiX9_goTo_X3 : ∀ w ∈ wsX30, w ∈ wsX9_goTo := fun _ h => List.mem_cons_of_mem _ (List.mem_append_right _ h)
theorem ziX9_goTo : yX9_goTo.cls = RX9 ∧ yX9_goTo.cls ≠ "java/lang/invoke/MethodHandle" ∧ yX9_goTo.cls ≠ "java/lang/invoke/VarHandle" ∧ (parseMethodDescriptor yX9_goTo.desc).map (fun d => d.parameters.length) = some 2 := by decide +kernel
set_option maxHeartbeats 4000000 in
set_option maxRecDepth 100000 in
theorem c_X9_goTo {l : Launch} {G : va_G} {cI cJ cO : ClassId} (N : Int → Int) (x : Int) (hw : Nat) (qw : Nat → Nat) (vw : Nat → Int) (aw : Nat → Int → Int) (he : Nat) (qe : Nat → Nat) (ae : Nat → Int → Int) (y : Int) (k : Int) (r0 : Int) (h1 : LF N x 0 ≤ y ∧ y ≤ LF N x 0 + 239) (hk1 : 0 ≤ k ∧ k ≤ 239) (h2 : 0 ≤ r0 ∧ r0 ≤ RVW N x y) (hS : WKs N x k r0 vw) (hI : rowI N x k (aw 0)) (hV : WFv N) (hL : WFl N x) (hT : WFt N x) (hTR : TR N x ae) : zC l yX9_goTo wsX9_goTo { frames := 3, cells := 0, slots := 0, locals := 72 } G (tyZ cI cJ cO) (S := Int) [.ref hw, .ref he, .int (iI y)] ((kO cI cJ hw qw vw aw) ++ ((iW cI cJ hw qw vw aw) ++ (lW cI cJ he qe (LVf N x) ae))) (zN) (fun u => 1 ≤ RVW N x y → u = WNT N x k (RNT N x k (RVW N x y - 1).toNat) (RVW N x y)) (fun u => (kO cI cJ hw qw (uV (uV (uV (uV (uV vw 2 (RVW N x y)) 3 (RNT N x k (RVW N x y).toNat)) 5 (LST N x (RVW N x y).toNat)) 6 (MST N x (RVW N x y).toNat)) 4 u) aw) ++ ((iW cI cJ hw qw (uV (uV (uV (uV (uV vw 2 (RVW N x y)) 3 (RNT N x k (RVW N x y).toNat)) 5 (LST N x (RVW N x y).toNat)) 6 (MST N x (RVW N x y).toNat)) 4 u) aw) ++ (lW cI cJ he qe (LVf N x) ae))) 0 0 := by
  refine z_start (cc := cX9_goTo) (maxL := 5) (ret := none) (by decide) rfl (Nat.le_of_ble_eq_true rfl) ?_
  intro p e s m below meth c A ls F hr hlk hnm hAe hA hW hl
  have hx := F.1
  have hb := F.2.1
  have hown : s.vm.findClass RX9 = some m.cls := F.2.2.2.1
  have hts := F.2.2.2.2
  have hl : lv_has ls 5 [(0, .ref hw), (1, .ref he), (2, .int (iI y))] := hl
  obtain ⟨l0, l1, l2, l3, l4, l5, l6, l7, l8, l9, l10, l11, l12, l13, l14, l15⟩ := id hL
  obtain ⟨s1, s2, s3, s5, s6, s4⟩ := id hS
  have hR := REV_R hL
  have hrv := (RVW_iff (r := RVW N x y) hL h1.1).mp (Int.le_refl _)
  refine lv_aload_n hx hb dX9_goTo_0 rfl (lv_at hl 1 rfl) ?_
  refine z_callV (As := []) (rest := []) F (c_X2_reviews  he qe (LVf N x) ae   (show 0 ≤ (LF N x 5) ∧ (LF N x 5) ≤ 4 by omega) (show 0 ≤ (LF N x 3) ∧ (LF N x 3) ≤ 60 by omega) (show 0 ≤ (LF N x 1) ∧ (LF N x 1) ≤ 120 by omega)) gX9_goTo_X2_reviews rfl ziX2_reviews ⟨rfl, rfl, by decide, by decide⟩ rfl hl.1 rfl (Nat.le_of_ble_eq_true rfl) dX9_goTo_1 ⟨Nat.zero_le _, Nat.zero_le _⟩ hW hA [2, 3, 4, 5, 6] rfl (by decide) (fun _ => rfl) (fun _ => (kO cI cJ hw qw vw aw) ++ ((iW cI cJ hw qw vw aw) ++ (lW cI cJ he qe (LVf N x) ae))) (fun _ => rfl) (fun _ => [.int (iI (if (LF N x 5) = 0 ∨ (LF N x 3) < 1 then 0 else ((LF N x 1) - 1).tdiv ((LF N x 3))))]) (fun _ => rfl) 2 rfl rfl rfl (fun _ H locs hp1 hW => ?_)
  rw [REVc hL]
  refine lv_istore_n (lv' := [(3, .int (iI (REV N x))), (0, .ref hw), (1, .ref he), (2, .int (iI y))]) hx hb dX9_goTo_4 rfl hl (by decide) rfl (fun ls hl => ?_)
  refine lv_aload_n hx hb dX9_goTo_5 rfl (lv_at hl 1 rfl) ?_
  refine z_get (v := .int (iI (vw 2))) hx hb hts hiX9_goTo_X9 hown hW 0 2 1 rfl rfl rfl (by decide) rfl dX9_goTo_6 ?_
  refine z_iconst (n := 1) hx hb dX9_goTo_9 ?_
  refine z_iadd hx hb dX9_goTo_10 ?_
  refine lv_istore (lv' := [(4, .int (iI ((vw 2) + 1))), (3, .int (iI (REV N x))), (0, .ref hw), (1, .ref he), (2, .int (iI y))]) hx hb dX9_goTo_11 hl (by decide) rfl (fun ls hl => ?_)
  refine z_loop6 (fun (r4 : Int) (d2 : Int) (d3 : Int) (d4 : Int) (d5 : Int) (d6 : Int) (ls : Array Slot) (H : Heap) (locs : List Loc) => (1 ≤ r4 ∧ r4 - 1 ≤ RVW N x y) ∧ (d2 = r4 - 1 ∧ d3 = RNT N x k (r4 - 1).toNat ∧ d5 = LST N x (r4 - 1).toNat ∧ d6 = MST N x (r4 - 1).toNat) ∧ (1 ≤ r4 - 1 → d4 = WNT N x k (RNT N x k (r4 - 2).toNat) (r4 - 1)) ∧ zW G (tyZ cI cJ cO) A s ((kO cI cJ hw qw (uV (uV (uV (uV (uV vw 2 d2) 3 d3) 4 d4) 5 d5) 6 d6) aw) ++ ((iW cI cJ hw qw vw aw) ++ (lW cI cJ he qe (LVf N x) ae))) H locs ∧ lv_has ls 5 [(4, .int (iI r4)), (3, .int (iI (REV N x))), (0, .ref hw), (1, .ref he), (2, .int (iI y))]) (fun r4 d2 d3 d4 d5 d6 => (REV N x + 1 - r4).toNat) ?_ ((vw 2) + 1) (vw 2) (vw 3) (vw 4) (vw 5) (vw 6) _ _ _ ⟨(by omega), (by rw [show vw 2 + 1 - 1 = r0 by omega]; exact ⟨s2, s3, s5, s6⟩), (fun q9 => by rw [show vw 2 + 1 - 1 = r0 by omega, show vw 2 + 1 - 2 = r0 - 1 by omega]; exact s4 (by omega)), hW, (lv_sub hl [0, 1, 2, 3, 4] rfl)⟩
  intro r4 d2 d3 d4 d5 d6 ls H locs hI ih
  obtain ⟨i1, i2, i3, hW, hl⟩ := hI
  refine lv_iload hx hb dX9_goTo_13 (lv_at hl 0 rfl) ?_
  refine lv_iload_n hx hb dX9_goTo_15 rfl (lv_at hl 1 rfl) ?_
  refine z_icmp_gt (tgt := 120) hx hb dX9_goTo_16 (by decide) ⟨by omega, by omega⟩ ⟨by omega, by omega⟩ (fun c16 => ?_) (fun c16 => ?_)
  · have er : r4 - 1 = RVW N x y := by rcases Int.lt_or_le (RVW N x y) r4 with q7 | q7; omega; (have q6 := (RVW_iff hL h1.1).mp q7; omega)
    rw [er] at i2
    obtain ⟨f2, f3, f5, f6⟩ := i2
    subst f2; subst f3; subst f5; subst f6
    exact z_vret hx hb hr hlk hW d4 (fun q9 => by have q8 := i3 (by omega); rw [show r4 - 2 = RVW N x y - 1 by omega, er] at q8; exact q8) rfl dX9_goTo_120
  · have hre : r4 * LF N x 3 ≤ REV N x * LF N x 3 := Int.mul_le_mul_of_nonneg_right (by omega) (by omega)
    have hre0 : 0 ≤ r4 * LF N x 3 := Int.mul_nonneg (by omega) (by omega)
    refine lv_aload_n hx hb dX9_goTo_19 rfl (lv_at hl 3 rfl) ?_
    refine lv_iload hx hb dX9_goTo_20 (lv_at hl 0 rfl) ?_
    refine z_callV (As := [.int (iI r4)]) (rest := []) F (c_X2_reviewMonth  he qe (LVf N x) ae r4  ) gX9_goTo_X2_reviewMonth rfl ziX2_reviewMonth ⟨rfl, rfl, by decide, by decide⟩ rfl hl.1 rfl (Nat.le_of_ble_eq_true rfl) dX9_goTo_22 ⟨Nat.zero_le _, Nat.zero_le _⟩ hW hA [2, 3, 4, 5, 6] rfl (by decide) (fun _ => rfl) (fun _ => (kO cI cJ hw qw (uV (uV (uV (uV (uV vw 2 d2) 3 d3) 4 d4) 5 d5) 6 d6) aw) ++ ((iW cI cJ hw qw vw aw) ++ (lW cI cJ he qe (LVf N x) ae))) (fun _ => rfl) (fun _ => [.int (iI ((LF N x 0) + r4 * (LF N x 3)))]) (fun _ => rfl) 2 rfl rfl rfl (fun _ H locs hp22 hW => ?_)
    refine lv_iload_n hx hb dX9_goTo_25 rfl (lv_at hl 4 rfl) ?_
    refine z_icmp_gt (tgt := 120) hx hb dX9_goTo_26 (by decide) ⟨by omega, by omega⟩ ⟨by omega, by omega⟩ (fun c26 => ?_) (fun c26 => ?_)
    · have er : r4 - 1 = RVW N x y := by rcases Int.lt_or_le (RVW N x y) r4 with q7 | q7; omega; (have q6 := (RVW_iff hL h1.1).mp q7; omega)
      rw [er] at i2
      obtain ⟨f2, f3, f5, f6⟩ := i2
      subst f2; subst f3; subst f5; subst f6
      exact z_vret hx hb hr hlk hW d4 (fun q9 => by have q8 := i3 (by omega); rw [show r4 - 2 = RVW N x y - 1 by omega, er] at q8; exact q8) rfl dX9_goTo_120
    · have hle : r4 ≤ RVW N x y := (RVW_iff hL h1.1).mpr ⟨by omega, by omega⟩
      have hby := REV_by hL (by omega) (show r4 ≤ REV N x by omega)
      have b3 := RNT_R (k := k) hL (r4 - 1).toNat
      have b5 := LST_R hL (r4 - 1).toNat
      have b6 := MST_R hL (r4 - 1).toNat
      rw [← i2.2.1] at b3
      rw [← i2.2.2.1] at b5
      rw [← i2.2.2.2] at b6
      have t5 := thou_P (a := d5) (f := 1000 - LF N x 10) (by omega) (by omega)
      have t6 := thou_P (a := d6) (f := 1000 + LF N x 11) (by omega) (by omega)
      have wr := WNT_R (k := k) (was := d3) (r := r4) hV hL hT (by omega) (by omega) (by omega)
      have b5s := LST_R hL r4.toNat
      have b6s := MST_R hL r4.toNat
      refine lv_aload_n hx hb dX9_goTo_29 rfl (lv_at hl 2 rfl) ?_
      refine lv_iload hx hb dX9_goTo_30 (lv_at hl 0 rfl) ?_
      refine z_put hx hb hts hiX9_goTo_X9 tyX9 tyX9_ok nmX9 hown hW 0 2 1 rfl rfl (by decide) (Nat.le_of_ble_eq_true rfl) rfl rfl rfl rfl dX9_goTo_32 (fun H locs hW => ?_)
      have hW : zW G (tyZ cI cJ cO) A s ((kO cI cJ hw qw (uV (uV (uV (uV (uV vw 3 d3) 4 d4) 5 d5) 6 d6) 2 r4) aw) ++ ((iW cI cJ hw qw vw aw) ++ (lW cI cJ he qe (LVf N x) ae))) H locs := hW
      refine lv_aload_n hx hb dX9_goTo_35 rfl (lv_at hl 2 rfl) ?_
      refine lv_aload_n hx hb dX9_goTo_36 rfl (lv_at hl 2 rfl) ?_
      refine lv_aload_n hx hb dX9_goTo_37 rfl (lv_at hl 3 rfl) ?_
      refine lv_iload hx hb dX9_goTo_38 (lv_at hl 0 rfl) ?_
      refine z_callV (As := [.ref he, .int (iI r4)]) (rest := [.ref hw]) F (c_X9_wantedBy N x hw qw (uV (uV (uV (uV (uV vw 3 d3) 4 d4) 5 d5) 6 d6) 2 r4) aw he qe ae r4 k (show 1 ≤ r4 ∧ r4 ≤ 119 ∧ 0 ≤ r4 * LF N x 3 ∧ r4 * LF N x 3 ≤ 119 by omega) (show (vw 1) = k by omega) (show 1 ≤ d3 ∧ d3 ≤ 999999 by omega) (show 1 ≤ LF N x 5 by omega) (show 0 ≤ k ∧ k ≤ 239 by omega) hI hV hL hT hTR) gX9_goTo_X9_wantedBy rfl ziX9_wantedBy ⟨rfl, rfl, by decide, by decide⟩ rfl hl.1 rfl (Nat.le_of_ble_eq_true rfl) dX9_goTo_40 ⟨Nat.zero_le _, Nat.zero_le _⟩ hW hA [0, 1, 2, 3, 4, 5, 6] rfl (by decide) (fun _ => rfl) (fun _ => (kO cI cJ hw qw (uV (uV (uV (uV (uV vw 3 d3) 4 d4) 5 d5) 6 d6) 2 r4) aw) ++ ((iW cI cJ hw qw vw aw) ++ (lW cI cJ he qe (LVf N x) ae))) (fun _ => rfl) (fun _ => [.int (iI (WNT N x k (d3) r4)), .ref hw]) (fun _ => rfl) 0 rfl rfl rfl (fun _ H locs hp40 hW => ?_)
      refine z_put hx hb hts hiX9_goTo_X9 tyX9 tyX9_ok nmX9 hown hW 0 4 2 rfl rfl (by decide) (Nat.le_of_ble_eq_true rfl) rfl rfl rfl rfl dX9_goTo_43 (fun H locs hW => ?_)
      have hW : zW G (tyZ cI cJ cO) A s ((kO cI cJ hw qw (uV (uV (uV (uV (uV vw 3 d3) 5 d5) 6 d6) 2 r4) 4 (WNT N x k (d3) r4)) aw) ++ ((iW cI cJ hw qw vw aw) ++ (lW cI cJ he qe (LVf N x) ae))) H locs := hW
      refine lv_aload_n hx hb dX9_goTo_46 rfl (lv_at hl 2 rfl) ?_
      refine lv_aload_n hx hb dX9_goTo_47 rfl (lv_at hl 2 rfl) ?_
      refine z_get (v := .int (iI d5)) hx hb hts hiX9_goTo_X9 hown hW 0 5 3 rfl rfl rfl (by decide) rfl dX9_goTo_48 ?_
      refine z_i2l hx hb dX9_goTo_51 ⟨by omega, by omega⟩ ?_
      refine z_sipush hx hb dX9_goTo_52 (by decide +kernel) ?_
      refine lv_aload_n hx hb dX9_goTo_55 rfl (lv_at hl 3 rfl) ?_
      refine z_get (v := .ref (qe 1)) hx hb hts hiX9_goTo_X2 hown hW 2 1 4 rfl rfl rfl (by decide) rfl dX9_goTo_56 ?_
      refine z_get (v := .int (iI (LF N x 10))) hx hb hts hiX9_goTo_X3 hown hW 4 1 5 rfl rfl rfl (by decide) rfl dX9_goTo_59 ?_
      refine z_isub hx hb dX9_goTo_62 ?_
      refine z_callS (As := [.long (lI d5), .int (iI (1000 - (LF N x 10)))]) (rest := [.ref hw]) F (c_X9_thousandths   d5 (1000 - (LF N x 10))  (show 0 ≤ d5 ∧ d5 ≤ 999999 by omega) (show 0 ≤ (1000 - (LF N x 10)) ∧ (1000 - (LF N x 10)) ≤ 1999 by omega)) gX9_goTo_X9_thousandths rfl ziX9_thousandths ⟨rfl, rfl, by decide, by decide⟩ rfl hl.1 rfl (Nat.le_of_ble_eq_true rfl) dX9_goTo_63 ⟨Nat.zero_le _, Nat.zero_le _⟩ hW hA [] rfl (by decide) (fun _ => rfl) (fun _ => (kO cI cJ hw qw (uV (uV (uV (uV (uV vw 3 d3) 5 d5) 6 d6) 2 r4) 4 (WNT N x k (d3) r4)) aw) ++ ((iW cI cJ hw qw vw aw) ++ (lW cI cJ he qe (LVf N x) ae))) (fun _ => rfl) (fun _ => [.int (iI ((d5 * (1000 - (LF N x 10))).tdiv 1000)), .ref hw]) (fun _ => rfl) (fun _ H locs hp63 hW => ?_)
      refine z_put hx hb hts hiX9_goTo_X9 tyX9 tyX9_ok nmX9 hown hW 0 5 3 rfl rfl (by decide) (Nat.le_of_ble_eq_true rfl) rfl rfl rfl rfl dX9_goTo_66 (fun H locs hW => ?_)
      have hW : zW G (tyZ cI cJ cO) A s ((kO cI cJ hw qw (uV (uV (uV (uV (uV vw 3 d3) 6 d6) 2 r4) 4 (WNT N x k (d3) r4)) 5 ((d5 * (1000 - (LF N x 10))).tdiv 1000)) aw) ++ ((iW cI cJ hw qw vw aw) ++ (lW cI cJ he qe (LVf N x) ae))) H locs := hW
      refine lv_aload_n hx hb dX9_goTo_69 rfl (lv_at hl 2 rfl) ?_
      refine lv_aload_n hx hb dX9_goTo_70 rfl (lv_at hl 2 rfl) ?_
      refine z_get (v := .int (iI d6)) hx hb hts hiX9_goTo_X9 hown hW 0 6 6 rfl rfl rfl (by decide) rfl dX9_goTo_71 ?_
      refine z_i2l hx hb dX9_goTo_74 ⟨by omega, by omega⟩ ?_
      refine z_sipush hx hb dX9_goTo_75 (by decide +kernel) ?_
      refine lv_aload_n hx hb dX9_goTo_78 rfl (lv_at hl 3 rfl) ?_
      refine z_get (v := .ref (qe 1)) hx hb hts hiX9_goTo_X2 hown hW 2 1 4 rfl rfl rfl (by decide) rfl dX9_goTo_79 ?_
      refine z_get (v := .int (iI (LF N x 11))) hx hb hts hiX9_goTo_X3 hown hW 4 2 7 rfl rfl rfl (by decide) rfl dX9_goTo_82 ?_
      refine z_iadd hx hb dX9_goTo_85 ?_
      refine z_callS (As := [.long (lI d6), .int (iI (1000 + (LF N x 11)))]) (rest := [.ref hw]) F (c_X9_thousandths   d6 (1000 + (LF N x 11))  (show 0 ≤ d6 ∧ d6 ≤ 999999 by omega) (show 0 ≤ (1000 + (LF N x 11)) ∧ (1000 + (LF N x 11)) ≤ 1999 by omega)) gX9_goTo_X9_thousandths rfl ziX9_thousandths ⟨rfl, rfl, by decide, by decide⟩ rfl hl.1 rfl (Nat.le_of_ble_eq_true rfl) dX9_goTo_86 ⟨Nat.zero_le _, Nat.zero_le _⟩ hW hA [] rfl (by decide) (fun _ => rfl) (fun _ => (kO cI cJ hw qw (uV (uV (uV (uV (uV vw 3 d3) 6 d6) 2 r4) 4 (WNT N x k (d3) r4)) 5 ((d5 * (1000 - (LF N x 10))).tdiv 1000)) aw) ++ ((iW cI cJ hw qw vw aw) ++ (lW cI cJ he qe (LVf N x) ae))) (fun _ => rfl) (fun _ => [.int (iI ((d6 * (1000 + (LF N x 11))).tdiv 1000)), .ref hw]) (fun _ => rfl) (fun _ H locs hp86 hW => ?_)
      refine z_ldc hx hb (999999) hown (hts _ (List.mem_of_getElem? (i := 8) rfl)) (by decide +kernel) dX9_goTo_89 ?_
      refine z_mmin F hl.1 9 10 11 12 rfl rfl rfl rfl (by decide) (Nat.le_of_ble_eq_true rfl) ⟨Nat.zero_le _, Nat.zero_le _⟩ ⟨by omega, by omega⟩ (by decide) dX9_goTo_91 ?_
      refine z_put hx hb hts hiX9_goTo_X9 tyX9 tyX9_ok nmX9 hown hW 0 6 6 rfl rfl (by decide) (Nat.le_of_ble_eq_true rfl) rfl rfl rfl rfl dX9_goTo_94 (fun H locs hW => ?_)
      have hW : zW G (tyZ cI cJ cO) A s ((kO cI cJ hw qw (uV (uV (uV (uV (uV vw 3 d3) 2 r4) 4 (WNT N x k (d3) r4)) 5 ((d5 * (1000 - (LF N x 10))).tdiv 1000)) 6 (zmin ((d6 * (1000 + (LF N x 11))).tdiv 1000) 999999)) aw) ++ ((iW cI cJ hw qw vw aw) ++ (lW cI cJ he qe (LVf N x) ae))) H locs := hW
      have ee := gt_lm (x := x) (N := N) (r4 := r4) (by omega) i2.2.2.1 i2.2.2.2
      refine lv_aload_n hx hb dX9_goTo_97 rfl (lv_at hl 2 rfl) ?_
      refine z_get (v := .int (iI (WNT N x k (d3) r4))) hx hb hts hiX9_goTo_X9 hown hW 0 4 2 rfl rfl rfl (by decide) rfl dX9_goTo_98 ?_
      refine z_iconst (n := -1) hx hb dX9_goTo_101 ?_
      refine z_icmp_eq (tgt := 114) hx hb dX9_goTo_102 (by decide) ⟨by omega, by omega⟩ (by decide) (fun c102 => ?_) (fun c102 => ?_)
      · refine z_iinc (k := 0) (lv' := [(4, .int (iI (r4 + 1))), (3, .int (iI (REV N x))), (0, .ref hw), (1, .ref he), (2, .int (iI y))]) hx hb dX9_goTo_114 hl rfl (by decide) rfl (fun ls hl => ?_)
        refine lv_goto (tgt := 13) hx hb dX9_goTo_117 (by decide) ?_
        exact ih (r4 + 1) r4 d3 (WNT N x k (d3) r4) ((d5 * (1000 - (LF N x 10))).tdiv 1000) (zmin ((d6 * (1000 + (LF N x 11))).tdiv 1000) 999999) _ _ _ ⟨⟨by omega, by rw [show r4 + 1 - 1 = r4 by omega]; exact hle⟩, (gt_step1 (by omega) i2.2.1 i2.2.2.1 i2.2.2.2 rfl rfl (Or.inl ⟨c102, rfl⟩)), (fun _ => by rw [show r4 + 1 - 2 = r4 - 1 by omega, show r4 + 1 - 1 = r4 by omega, ← i2.2.1]), hW, (lv_sub hl [0, 1, 2, 3, 4] rfl)⟩ (by omega)
      · refine lv_aload_n hx hb dX9_goTo_105 rfl (lv_at hl 2 rfl) ?_
        refine lv_aload_n hx hb dX9_goTo_106 rfl (lv_at hl 2 rfl) ?_
        refine lv_aload_n hx hb dX9_goTo_107 rfl (lv_at hl 3 rfl) ?_
        refine z_callV (As := [.ref he]) (rest := [.ref hw]) F (c_X9_held N x hw qw (uV (uV (uV (uV (uV vw 3 d3) 2 r4) 4 (WNT N x k (d3) r4)) 5 ((d5 * (1000 - (LF N x 10))).tdiv 1000)) 6 (zmin ((d6 * (1000 + (LF N x 11))).tdiv 1000) 999999)) aw he qe ae   (show 0 ≤ (WNT N x k (d3) r4) ∧ (WNT N x k (d3) r4) ≤ 999890001 by omega) (show 1 ≤ d3 ∧ d3 ≤ 999999 by omega) (show 0 ≤ ((d5 * (1000 - (LF N x 10))).tdiv 1000) ∧ ((d5 * (1000 - (LF N x 10))).tdiv 1000) ≤ (zmin ((d6 * (1000 + (LF N x 11))).tdiv 1000) 999999) ∧ (zmin ((d6 * (1000 + (LF N x 11))).tdiv 1000) 999999) ≤ 999999 by omega) hL) gX9_goTo_X9_held rfl ziX9_held ⟨rfl, rfl, by decide, by decide⟩ rfl hl.1 rfl (Nat.le_of_ble_eq_true rfl) dX9_goTo_108 ⟨Nat.zero_le _, Nat.zero_le _⟩ hW hA [0, 1, 2, 3, 4, 5, 6] rfl (by decide) (fun _ => rfl) (fun _ => (kO cI cJ hw qw (uV (uV (uV (uV (uV vw 3 d3) 2 r4) 4 (WNT N x k (d3) r4)) 5 ((d5 * (1000 - (LF N x 10))).tdiv 1000)) 6 (zmin ((d6 * (1000 + (LF N x 11))).tdiv 1000) 999999)) aw) ++ ((iW cI cJ hw qw vw aw) ++ (lW cI cJ he qe (LVf N x) ae))) (fun _ => rfl) (fun _ => [.int (iI (HLD N x ((WNT N x k (d3) r4)) (d3) (((d5 * (1000 - (LF N x 10))).tdiv 1000)) ((zmin ((d6 * (1000 + (LF N x 11))).tdiv 1000) 999999)))), .ref hw]) (fun _ => rfl) 0 rfl rfl rfl (fun _ H locs hp108 hW => ?_)
        refine z_put hx hb hts hiX9_goTo_X9 tyX9 tyX9_ok nmX9 hown hW 0 3 13 rfl rfl (by decide) (Nat.le_of_ble_eq_true rfl) rfl rfl rfl rfl dX9_goTo_111 (fun H locs hW => ?_)
        have hW : zW G (tyZ cI cJ cO) A s ((kO cI cJ hw qw (uV (uV (uV (uV (uV vw 2 r4) 4 (WNT N x k (d3) r4)) 5 ((d5 * (1000 - (LF N x 10))).tdiv 1000)) 6 (zmin ((d6 * (1000 + (LF N x 11))).tdiv 1000) 999999)) 3 (HLD N x ((WNT N x k (d3) r4)) (d3) (((d5 * (1000 - (LF N x 10))).tdiv 1000)) ((zmin ((d6 * (1000 + (LF N x 11))).tdiv 1000) 999999)))) aw) ++ ((iW cI cJ hw qw vw aw) ++ (lW cI cJ he qe (LVf N x) ae))) H locs := hW
        refine z_iinc (k := 0) (lv' := [(4, .int (iI (r4 + 1))), (3, .int (iI (REV N x))), (0, .ref hw), (1, .ref he), (2, .int (iI y))]) hx hb dX9_goTo_114 hl rfl (by decide) rfl (fun ls hl => ?_)
        refine lv_goto (tgt := 13) hx hb dX9_goTo_117 (by decide) ?_
        exact ih (r4 + 1) r4 (HLD N x ((WNT N x k (d3) r4)) (d3) (((d5 * (1000 - (LF N x 10))).tdiv 1000)) ((zmin ((d6 * (1000 + (LF N x 11))).tdiv 1000) 999999))) (WNT N x k (d3) r4) ((d5 * (1000 - (LF N x 10))).tdiv 1000) (zmin ((d6 * (1000 + (LF N x 11))).tdiv 1000) 999999) _ _ _ ⟨⟨by omega, by rw [show r4 + 1 - 1 = r4 by omega]; exact hle⟩, (gt_step1 (by omega) i2.2.1 i2.2.2.1 i2.2.2.2 rfl rfl (Or.inr ⟨c102, rfl⟩)), (fun _ => by rw [show r4 + 1 - 2 = r4 - 1 by omega, show r4 + 1 - 1 = r4 by omega, ← i2.2.1]), hW, (lv_sub hl [0, 1, 2, 3, 4] rfl)⟩ (by omega)
theorem hiX9_dueIn_X9 : ∀ w ∈ wsX90, w ∈ wsX9_dueIn := fun _ h => List.mem_cons_of_mem _ (List.mem_append_left _ (List.mem_append_left _ (List.mem_append_right _ h)))
theorem hiX9_dueIn_X2 : ∀ w ∈ wsX20, w ∈ wsX9_dueIn := fun _ h => List.mem_cons_of_mem _ (List.mem_append_left _ (List.mem_append_right _ h))
theorem hiX9_dueIn_X3 : ∀ w ∈ wsX30, w ∈ wsX9_dueIn := fun _ h => List.mem_cons_of_mem _ (List.mem_append_right _ h)
theorem ziX9_dueIn : yX9_dueIn.cls = RX9 ∧ yX9_dueIn.cls ≠ "java/lang/invoke/MethodHandle" ∧ yX9_dueIn.cls ≠ "java/lang/invoke/VarHandle" ∧ (parseMethodDescriptor yX9_dueIn.desc).map (fun d => d.parameters.length) = some 2 := by decide +kernel
set_option maxHeartbeats 4000000 in
set_option maxRecDepth 100000 in
theorem c_X9_dueIn {l : Launch} {G : va_G} {cI cJ cO : ClassId} (N : Int → Int) (x : Int) (hw : Nat) (qw : Nat → Nat) (vw : Nat → Int) (aw : Nat → Int → Int) (he : Nat) (qe : Nat → Nat) (ae : Nat → Int → Int) (y : Int) (k : Int) (r0 : Int) (h1 : LF N x 0 ≤ y ∧ y ≤ LF N x 0 + 239) (hk1 : 0 ≤ k ∧ k ≤ 239) (h2 : 0 ≤ r0 ∧ r0 ≤ RVW N x y) (hS : WKs N x k r0 vw) (hI : rowI N x k (aw 0)) (hV : WFv N) (hL : WFl N x) (hT : WFt N x) (hTR : TR N x ae) : zC l yX9_dueIn wsX9_dueIn { frames := 4, cells := 0, slots := 0, locals := 96 } G (tyZ cI cJ cO) (S := Int) [.ref hw, .ref he, .int (iI y)] ((kO cI cJ hw qw vw aw) ++ ((iW cI cJ hw qw vw aw) ++ (lW cI cJ he qe (LVf N x) ae))) (zI (fun _ => DUE N x k y)) (fun u => 1 ≤ RVW N x y → u = WNT N x k (RNT N x k (RVW N x y - 1).toNat) (RVW N x y)) (fun u => (kO cI cJ hw qw (uV (uV (uV (uV (uV vw 2 (RVW N x y)) 3 (RNT N x k (RVW N x y).toNat)) 5 (LST N x (RVW N x y).toNat)) 6 (MST N x (RVW N x y).toNat)) 4 u) aw) ++ ((iW cI cJ hw qw (uV (uV (uV (uV (uV vw 2 (RVW N x y)) 3 (RNT N x k (RVW N x y).toNat)) 5 (LST N x (RVW N x y).toNat)) 6 (MST N x (RVW N x y).toNat)) 4 u) aw) ++ (lW cI cJ he qe (LVf N x) ae))) 0 0 := by
  refine z_start (cc := cX9_dueIn) (maxL := 3) (ret := (some .int)) (by decide) rfl (Nat.le_of_ble_eq_true rfl) ?_
  intro p e s m below meth c A ls F hr hlk hnm hAe hA hW hl
  have hx := F.1
  have hb := F.2.1
  have hown : s.vm.findClass RX9 = some m.cls := F.2.2.2.1
  have hts := F.2.2.2.2
  have hl : lv_has ls 3 [(0, .ref hw), (1, .ref he), (2, .int (iI y))] := hl
  obtain ⟨l0, l1, l2, l3, l4, l5, l6, l7, l8, l9, l10, l11, l12, l13, l14, l15⟩ := id hL
  refine lv_aload_n hx hb dX9_dueIn_0 rfl (lv_at hl 0 rfl) ?_
  refine lv_aload_n hx hb dX9_dueIn_1 rfl (lv_at hl 1 rfl) ?_
  refine lv_iload_n hx hb dX9_dueIn_2 rfl (lv_at hl 2 rfl) ?_
  refine z_callV (As := [.ref he, .int (iI y)]) (rest := []) F (c_X9_goTo N x hw qw vw aw he qe ae y k r0 (show LF N x 0 ≤ y ∧ y ≤ LF N x 0 + 239 by omega) (show 0 ≤ k ∧ k ≤ 239 by omega) (show 0 ≤ r0 ∧ r0 ≤ RVW N x y by omega) hS hI hV hL hT hTR) gX9_dueIn_X9_goTo rfl ziX9_goTo ⟨rfl, rfl, by decide, by decide⟩ rfl hl.1 rfl (Nat.le_of_ble_eq_true rfl) dX9_dueIn_3 ⟨Nat.zero_le _, Nat.zero_le _⟩ hW hA [0, 1, 2, 3, 4, 5, 6] rfl (by decide) (fun _ => rfl) (fun u => (kO cI cJ hw qw (uV (uV (uV (uV (uV vw 2 (RVW N x y)) 3 (RNT N x k (RVW N x y).toNat)) 5 (LST N x (RVW N x y).toNat)) 6 (MST N x (RVW N x y).toNat)) 4 u) aw) ++ ((iW cI cJ hw qw (uV (uV (uV (uV (uV vw 2 (RVW N x y)) 3 (RNT N x k (RVW N x y).toNat)) 5 (LST N x (RVW N x y).toNat)) 6 (MST N x (RVW N x y).toNat)) 4 u) aw) ++ (lW cI cJ he qe (LVf N x) ae))) (fun _ => rfl) (fun u => []) (fun _ => rfl) 0 rfl rfl rfl (fun u H locs hp3 hW => ?_)
  obtain ⟨w4_1, rfl⟩ : ∃ z, z = u := ⟨_, rfl⟩
  have hp3 : 1 ≤ RVW N x y → w4_1 = WNT N x k (RNT N x k (RVW N x y - 1).toNat) (RVW N x y) := hp3
  have hW : zW G (tyZ cI cJ cO) A s ((kO cI cJ hw qw (uV (uV (uV (uV (uV vw 2 (RVW N x y)) 3 (RNT N x k (RVW N x y).toNat)) 5 (LST N x (RVW N x y).toNat)) 6 (MST N x (RVW N x y).toNat)) 4 w4_1) aw) ++ ((iW cI cJ hw qw (uV (uV (uV (uV (uV vw 2 (RVW N x y)) 3 (RNT N x k (RVW N x y).toNat)) 5 (LST N x (RVW N x y).toNat)) 6 (MST N x (RVW N x y).toNat)) 4 w4_1) aw) ++ (lW cI cJ he qe (LVf N x) ae))) H locs := hW
  refine lv_aload_n hx hb dX9_dueIn_6 rfl (lv_at hl 1 rfl) ?_
  refine lv_iload_n hx hb dX9_dueIn_7 rfl (lv_at hl 2 rfl) ?_
  refine z_callV (As := [.int (iI y)]) (rest := []) F (c_X2_isFree  he qe (LVf N x) ae y  (show -2147483648 ≤ y ∧ y < 2147483648 by omega) (show (0 ≤ (LF N x 0) ∧ (LF N x 0) ≤ 119) ∧ (0 ≤ (LF N x 4) ∧ (LF N x 4) ≤ 120) by omega)) gX9_dueIn_X2_isFree rfl ziX2_isFree ⟨rfl, rfl, by decide, by decide⟩ rfl hl.1 rfl (Nat.le_of_ble_eq_true rfl) dX9_dueIn_8 ⟨Nat.zero_le _, Nat.zero_le _⟩ hW hA [2, 3, 4, 5, 6] rfl (by decide) (fun _ => rfl) (fun _ => (kO cI cJ hw qw (uV (uV (uV (uV (uV vw 2 (RVW N x y)) 3 (RNT N x k (RVW N x y).toNat)) 5 (LST N x (RVW N x y).toNat)) 6 (MST N x (RVW N x y).toNat)) 4 w4_1) aw) ++ ((iW cI cJ hw qw (uV (uV (uV (uV (uV vw 2 (RVW N x y)) 3 (RNT N x k (RVW N x y).toNat)) 5 (LST N x (RVW N x y).toNat)) 6 (MST N x (RVW N x y).toNat)) 4 w4_1) aw) ++ (lW cI cJ he qe (LVf N x) ae))) (fun _ => rfl) (fun _ => [.int (iI (bI (y < (LF N x 0) + (LF N x 4))))]) (fun _ => rfl) 2 rfl rfl rfl (fun _ H locs hp8 hW => ?_)
  refine z_b_eq (tgt := 18) hx hb dX9_dueIn_11 (by decide) (fun c11 => ?_) (fun c11 => ?_)
  · refine lv_aload_n hx hb dX9_dueIn_18 rfl (lv_at hl 0 rfl) ?_
    refine z_get (v := .int (iI (RNT N x k (RVW N x y).toNat))) hx hb hts hiX9_dueIn_X9 hown hW 0 3 1 rfl rfl rfl (by decide) rfl dX9_dueIn_19 ?_
    exact z_iret hx hb hr hlk hW w4_1 (by unfold DUE; first | exact if_pos c11 | exact if_neg c11) hp3 rfl dX9_dueIn_22
  · refine z_iconst (n := 0) hx hb dX9_dueIn_14 ?_
    refine lv_goto (tgt := 22) hx hb dX9_dueIn_15 (by decide) ?_
    exact z_iret hx hb hr hlk hW w4_1 (by unfold DUE; first | exact if_pos c11 | exact if_neg c11) hp3 rfl dX9_dueIn_22
theorem hiX9_dueBelow_X2 : ∀ w ∈ wsX20, w ∈ wsX9_dueBelow := fun _ h => List.mem_cons_of_mem _ (List.mem_append_left _ (List.mem_append_left _ (List.mem_append_right _ h)))
theorem hiX9_dueBelow_X9 : ∀ w ∈ wsX90, w ∈ wsX9_dueBelow := fun _ h => List.mem_cons_of_mem _ (List.mem_append_left _ (List.mem_append_right _ h))
theorem hiX9_dueBelow_X3 : ∀ w ∈ wsX30, w ∈ wsX9_dueBelow := fun _ h => List.mem_cons_of_mem _ (List.mem_append_right _ h)
theorem ziX9_dueBelow : yX9_dueBelow.cls = RX9 ∧ yX9_dueBelow.cls ≠ "java/lang/invoke/MethodHandle" ∧ yX9_dueBelow.cls ≠ "java/lang/invoke/VarHandle" ∧ (parseMethodDescriptor yX9_dueBelow.desc).map (fun d => d.parameters.length) = some 2 := by decide +kernel
set_option maxHeartbeats 4000000 in
set_option maxRecDepth 100000 in
theorem c_X9_dueBelow {l : Launch} {G : va_G} {cI cJ cO : ClassId} (N : Int → Int) (x : Int) (hw : Nat) (qw : Nat → Nat) (vw : Nat → Int) (aw : Nat → Int → Int) (he : Nat) (qe : Nat → Nat) (ae : Nat → Int → Int) (y : Int) (k : Int) (h1 : LF N x 0 ≤ y ∧ y ≤ LF N x 0 + 240) (hk1 : 0 ≤ k ∧ k ≤ 239) (hS : WKs N x k 0 vw) (hI : rowI N x k (aw 0)) (hV : WFv N) (hL : WFl N x) (hT : WFt N x) (hTR : TR N x ae) : zC l yX9_dueBelow wsX9_dueBelow { frames := 4, cells := 0, slots := 0, locals := 96 } G (tyZ cI cJ cO) (S := Int × Int × Int × Int × Int) [.ref hw, .ref he, .int (iI y)] ((kO cI cJ hw qw vw aw) ++ ((iW cI cJ hw qw vw aw) ++ (lW cI cJ he qe (LVf N x) ae))) (zI (fun _ => SUM (DUE N x k) (LF N x 0) (y - LF N x 0).toNat)) (fun u => True) (fun u => (kO cI cJ hw qw (uV (uV (uV (uV (uV vw 2 u.1) 3 u.2.1) 4 u.2.2.1) 5 u.2.2.2.1) 6 u.2.2.2.2) aw) ++ ((iW cI cJ hw qw (uV (uV (uV (uV (uV vw 2 u.1) 3 u.2.1) 4 u.2.2.1) 5 u.2.2.2.1) 6 u.2.2.2.2) aw) ++ (lW cI cJ he qe (LVf N x) ae))) 0 0 := by
  refine z_start (cc := cX9_dueBelow) (maxL := 5) (ret := (some .int)) (by decide) rfl (Nat.le_of_ble_eq_true rfl) ?_
  intro p e s m below meth c A ls F hr hlk hnm hAe hA hW hl
  have hx := F.1
  have hb := F.2.1
  have hown : s.vm.findClass RX9 = some m.cls := F.2.2.2.1
  have hts := F.2.2.2.2
  have hl : lv_has ls 5 [(0, .ref hw), (1, .ref he), (2, .int (iI y))] := hl
  obtain ⟨l0, l1, l2, l3, l4, l5, l6, l7, l8, l9, l10, l11, l12, l13, l14, l15⟩ := id hL
  refine z_iconst (n := 0) hx hb dX9_dueBelow_0 ?_
  refine lv_istore_n (lv' := [(3, .int (iI 0)), (0, .ref hw), (1, .ref he), (2, .int (iI y))]) hx hb dX9_dueBelow_1 rfl hl (by decide) rfl (fun ls hl => ?_)
  refine lv_aload_n hx hb dX9_dueBelow_2 rfl (lv_at hl 2 rfl) ?_
  refine z_get (v := .int (iI (LF N x 0))) hx hb hts hiX9_dueBelow_X2 hown hW 2 4 1 rfl rfl rfl (by decide) rfl dX9_dueBelow_3 ?_
  refine lv_istore (lv' := [(4, .int (iI (LF N x 0))), (3, .int (iI 0)), (0, .ref hw), (1, .ref he), (2, .int (iI y))]) hx hb dX9_dueBelow_6 hl (by decide) rfl (fun ls hl => ?_)
  refine z_loop7 (fun (s3 : Int) (m4 : Int) (d2 : Int) (d3 : Int) (d4 : Int) (d5 : Int) (d6 : Int) (ls : Array Slot) (H : Heap) (locs : List Loc) => (LF N x 0 ≤ m4 ∧ m4 ≤ y) ∧ (s3 = SUM (DUE N x k) (LF N x 0) (m4 - LF N x 0).toNat) ∧ (0 ≤ d2 ∧ d2 ≤ RVW N x m4 ∧ d3 = RNT N x k d2.toNat ∧ d5 = LST N x d2.toNat ∧ d6 = MST N x d2.toNat ∧ (1 ≤ d2 → d4 = WNT N x k (RNT N x k (d2 - 1).toNat) d2)) ∧ zW G (tyZ cI cJ cO) A s ((kO cI cJ hw qw (uV (uV (uV (uV (uV vw 2 d2) 3 d3) 4 d4) 5 d5) 6 d6) aw) ++ ((iW cI cJ hw qw vw aw) ++ (lW cI cJ he qe (LVf N x) ae))) H locs ∧ lv_has ls 5 [(4, .int (iI m4)), (3, .int (iI s3)), (0, .ref hw), (1, .ref he), (2, .int (iI y))]) (fun s3 m4 d2 d3 d4 d5 d6 => (y - m4).toNat) ?_ 0 (LF N x 0) (vw 2) (vw 3) (vw 4) (vw 5) (vw 6) _ _ _ ⟨(by omega), (by rw [show (LF N x 0 - LF N x 0).toNat = 0 by omega]; rfl), (by obtain ⟨s1, s2, s3, s5, s6, s4⟩ := id hS; rw [s2]; exact ⟨Int.le_refl _, RVW_0 hL (by omega), s3, s5, s6, s4⟩), hW, (lv_sub hl [0, 1, 2, 3, 4] rfl)⟩
  intro s3 m4 d2 d3 d4 d5 d6 ls H locs hI ih
  obtain ⟨i1, i2, i3, hW, hl⟩ := hI
  refine lv_iload hx hb dX9_dueBelow_8 (lv_at hl 0 rfl) ?_
  refine lv_iload_n hx hb dX9_dueBelow_10 rfl (lv_at hl 4 rfl) ?_
  refine z_icmp_ge (tgt := 47) hx hb dX9_dueBelow_11 (by decide) ⟨by omega, by omega⟩ ⟨by omega, by omega⟩ (fun c11 => ?_) (fun c11 => ?_)
  · refine lv_iload_n hx hb dX9_dueBelow_47 rfl (lv_at hl 1 rfl) ?_
    exact z_iret hx hb hr hlk hW (⟨d2, d3, d4, d5, d6⟩) (by rw [i2, show m4 = y by omega]) trivial rfl dX9_dueBelow_48
  · refine lv_aload_n hx hb dX9_dueBelow_14 rfl (lv_at hl 2 rfl) ?_
    refine lv_aload_n hx hb dX9_dueBelow_15 rfl (lv_at hl 3 rfl) ?_
    refine lv_iload hx hb dX9_dueBelow_16 (lv_at hl 0 rfl) ?_
    refine z_callV (As := [.ref he, .int (iI m4)]) (rest := []) F (c_X9_goTo N x hw qw (uV (uV (uV (uV (uV vw 2 d2) 3 d3) 4 d4) 5 d5) 6 d6) aw he qe ae m4 k d2 (show LF N x 0 ≤ m4 ∧ m4 ≤ LF N x 0 + 239 by omega) (show 0 ≤ k ∧ k ≤ 239 by omega) (show 0 ≤ d2 ∧ d2 ≤ RVW N x m4 by omega) ⟨hS.1, rfl, i3.2.2.1, i3.2.2.2.1, i3.2.2.2.2.1, i3.2.2.2.2.2⟩ hI hV hL hT hTR) gX9_dueBelow_X9_goTo rfl ziX9_goTo ⟨rfl, rfl, by decide, by decide⟩ rfl hl.1 rfl (Nat.le_of_ble_eq_true rfl) dX9_dueBelow_18 ⟨Nat.zero_le _, Nat.zero_le _⟩ hW hA [0, 1, 2, 3, 4, 5, 6] rfl (by decide) (fun _ => rfl) (fun u => (kO cI cJ hw qw (uV (uV (uV (uV (uV vw 2 (RVW N x m4)) 3 (RNT N x k (RVW N x m4).toNat)) 5 (LST N x (RVW N x m4).toNat)) 6 (MST N x (RVW N x m4).toNat)) 4 u) aw) ++ ((iW cI cJ hw qw (uV (uV (uV (uV (uV vw 2 (RVW N x m4)) 3 (RNT N x k (RVW N x m4).toNat)) 5 (LST N x (RVW N x m4).toNat)) 6 (MST N x (RVW N x m4).toNat)) 4 u) aw) ++ (lW cI cJ he qe (LVf N x) ae))) (fun _ => rfl) (fun u => []) (fun _ => rfl) 0 rfl rfl rfl (fun u H locs hp18 hW => ?_)
    obtain ⟨w4_1, rfl⟩ : ∃ z, z = u := ⟨_, rfl⟩
    have hp18 : 1 ≤ RVW N x m4 → w4_1 = WNT N x k (RNT N x k (RVW N x m4 - 1).toNat) (RVW N x m4) := hp18
    have hW : zW G (tyZ cI cJ cO) A s ((kO cI cJ hw qw (uV (uV (uV (uV (uV vw 2 (RVW N x m4)) 3 (RNT N x k (RVW N x m4).toNat)) 5 (LST N x (RVW N x m4).toNat)) 6 (MST N x (RVW N x m4).toNat)) 4 w4_1) aw) ++ ((iW cI cJ hw qw (uV (uV (uV (uV (uV vw 2 (RVW N x m4)) 3 (RNT N x k (RVW N x m4).toNat)) 5 (LST N x (RVW N x m4).toNat)) 6 (MST N x (RVW N x m4).toNat)) 4 w4_1) aw) ++ (lW cI cJ he qe (LVf N x) ae))) H locs := hW
    refine lv_iload_n hx hb dX9_dueBelow_21 rfl (lv_at hl 1 rfl) ?_
    refine lv_aload_n hx hb dX9_dueBelow_22 rfl (lv_at hl 3 rfl) ?_
    refine lv_iload hx hb dX9_dueBelow_23 (lv_at hl 0 rfl) ?_
    refine z_callV (As := [.int (iI m4)]) (rest := [.int (iI s3)]) F (c_X2_isFree  he qe (LVf N x) ae m4  (show -2147483648 ≤ m4 ∧ m4 < 2147483648 by omega) (show (0 ≤ (LF N x 0) ∧ (LF N x 0) ≤ 119) ∧ (0 ≤ (LF N x 4) ∧ (LF N x 4) ≤ 120) by omega)) gX9_dueBelow_X2_isFree rfl ziX2_isFree ⟨rfl, rfl, by decide, by decide⟩ rfl hl.1 rfl (Nat.le_of_ble_eq_true rfl) dX9_dueBelow_25 ⟨Nat.zero_le _, Nat.zero_le _⟩ hW hA [2, 3, 4, 5, 6] rfl (by decide) (fun _ => rfl) (fun _ => (kO cI cJ hw qw (uV (uV (uV (uV (uV vw 2 (RVW N x m4)) 3 (RNT N x k (RVW N x m4).toNat)) 5 (LST N x (RVW N x m4).toNat)) 6 (MST N x (RVW N x m4).toNat)) 4 w4_1) aw) ++ ((iW cI cJ hw qw (uV (uV (uV (uV (uV vw 2 (RVW N x m4)) 3 (RNT N x k (RVW N x m4).toNat)) 5 (LST N x (RVW N x m4).toNat)) 6 (MST N x (RVW N x m4).toNat)) 4 w4_1) aw) ++ (lW cI cJ he qe (LVf N x) ae))) (fun _ => rfl) (fun _ => [.int (iI (bI (m4 < (LF N x 0) + (LF N x 4)))), .int (iI s3)]) (fun _ => rfl) 2 rfl rfl rfl (fun _ H locs hp25 hW => ?_)
    refine z_b_eq (tgt := 35) hx hb dX9_dueBelow_28 (by decide) (fun c28 => ?_) (fun c28 => ?_)
    · refine lv_aload_n hx hb dX9_dueBelow_35 rfl (lv_at hl 2 rfl) ?_
      refine z_get (v := .int (iI (RNT N x k (RVW N x m4).toNat))) hx hb hts hiX9_dueBelow_X9 hown hW 0 3 2 rfl rfl rfl (by decide) rfl dX9_dueBelow_36 ?_
      refine z_iadd hx hb dX9_dueBelow_39 ?_
      refine lv_istore_n (lv' := [(3, .int (iI (s3 + (RNT N x k (RVW N x m4).toNat)))), (4, .int (iI m4)), (0, .ref hw), (1, .ref he), (2, .int (iI y))]) hx hb dX9_dueBelow_40 rfl hl (by decide) rfl (fun ls hl => ?_)
      refine z_iinc (k := 1) (lv' := [(4, .int (iI (m4 + 1))), (3, .int (iI (s3 + (RNT N x k (RVW N x m4).toNat)))), (0, .ref hw), (1, .ref he), (2, .int (iI y))]) hx hb dX9_dueBelow_41 hl rfl (by decide) rfl (fun ls hl => ?_)
      refine lv_goto (tgt := 8) hx hb dX9_dueBelow_44 (by decide) ?_
      exact ih (s3 + (RNT N x k (RVW N x m4).toNat)) (m4 + 1) (RVW N x m4) (RNT N x k (RVW N x m4).toNat) w4_1 (LST N x (RVW N x m4).toNat) (MST N x (RVW N x m4).toNat) _ _ _ ⟨(by omega), (by rw [SUM_succ (by omega), ← i2]; unfold DUE RNTm; first | (rw [if_pos c28]; done) | (rw [if_neg c28]; done)), ⟨RVW_0 hL (by omega), RVW_mono hL (by omega) (by omega), rfl, rfl, rfl, hp18⟩, hW, (lv_sub hl [0, 1, 2, 3, 4] rfl)⟩ (by omega)
    · refine z_iconst (n := 0) hx hb dX9_dueBelow_31 ?_
      refine lv_goto (tgt := 39) hx hb dX9_dueBelow_32 (by decide) ?_
      refine z_iadd hx hb dX9_dueBelow_39 ?_
      refine lv_istore_n (lv' := [(3, .int (iI (s3 + 0))), (4, .int (iI m4)), (0, .ref hw), (1, .ref he), (2, .int (iI y))]) hx hb dX9_dueBelow_40 rfl hl (by decide) rfl (fun ls hl => ?_)
      refine z_iinc (k := 1) (lv' := [(4, .int (iI (m4 + 1))), (3, .int (iI (s3 + 0))), (0, .ref hw), (1, .ref he), (2, .int (iI y))]) hx hb dX9_dueBelow_41 hl rfl (by decide) rfl (fun ls hl => ?_)
      refine lv_goto (tgt := 8) hx hb dX9_dueBelow_44 (by decide) ?_
      exact ih (s3 + 0) (m4 + 1) (RVW N x m4) (RNT N x k (RVW N x m4).toNat) w4_1 (LST N x (RVW N x m4).toNat) (MST N x (RVW N x m4).toNat) _ _ _ ⟨(by omega), (by rw [SUM_succ (by omega), ← i2]; unfold DUE RNTm; first | (rw [if_pos c28]; done) | (rw [if_neg c28]; done)), ⟨RVW_0 hL (by omega), RVW_mono hL (by omega) (by omega), rfl, rfl, rfl, hp18⟩, hW, (lv_sub hl [0, 1, 2, 3, 4] rfl)⟩ (by omega)
