/-! the model: rents laid, and what is asked of them -/
/-! ===== rows that are laid ===== -/
/-- the rows hold what the reviews below r make -/
def LD (N : Int → Int) (x k r : Int) (f16 f17 f18 f19 : Int → Int) : Prop := ∀ j : Int, 0 ≤ j → j < r → f17 j = RNT N x k j.toNat ∧ f18 j = LST N x j.toNat ∧ f19 j = MST N x j.toNat ∧ (1 ≤ j → f16 j = WNT N x k (RNT N x k (j - 1).toNat) j)
theorem LD_first {N : Int → Int} {x k : Int} {f16 f17 f18 f19 : Int → Int} (h1 : f17 0 = LF N x 2) (h2 : f18 0 = LF N x 2) (h3 : f19 0 = LF N x 2) : LD N x k 1 f16 f17 f18 f19 := by
  intro j j0 j1
  have e : j = 0 := by omega
  subst e
  exact ⟨h1, h2, h3, fun h => by omega⟩
theorem LD_step {N : Int → Int} {x k r : Int} {f16 f17 f18 f19 g16 g17 g18 g19 : Int → Int} (hr : 1 ≤ r) (h : LD N x k r f16 f17 f18 f19) (o16 : ∀ j, j ≠ r → g16 j = f16 j) (o17 : ∀ j, j ≠ r → g17 j = f17 j) (o18 : ∀ j, j ≠ r → g18 j = f18 j) (o19 : ∀ j, j ≠ r → g19 j = f19 j)
    (e16 : g16 r = WNT N x k (f17 (r - 1)) r) (e18 : g18 r = (f18 (r - 1) * (1000 - LF N x 10)).tdiv 1000) (e19 : g19 r = if 999999 < (f19 (r - 1) * (1000 + LF N x 11)).tdiv 1000 then 999999 else (f19 (r - 1) * (1000 + LF N x 11)).tdiv 1000) (e17 : g17 r = if g16 r = -1 then f17 (r - 1) else HLD N x (g16 r) (f17 (r - 1)) (g18 r) (g19 r)) : LD N x k (r + 1) g16 g17 g18 g19 := by
  intro j j0 j1
  by_cases hj : j = r
  · subst hj
    obtain ⟨p1, p2, p3, -⟩ := h (j - 1) (by omega) (by omega)
    have en : j.toNat = (j - 1).toNat + 1 := by omega
    have ec : (((j - 1).toNat + 1 : Nat) : Int) = j := by omega
    have q18 : g18 j = LST N x j.toNat := by rw [e18, p2, en]; rfl
    have q19 : g19 j = MST N x j.toNat := by rw [e19, p3, en]; rfl
    have q16 : g16 j = WNT N x k (RNT N x k (j - 1).toNat) j := by rw [e16, p1]
    refine ⟨?_, q18, q19, fun _ => q16⟩
    rw [e17, q16, q18, q19, p1, en]
    show _ = (if WNT N x k (RNT N x k (j - 1).toNat) (((j - 1).toNat + 1 : Nat) : Int) = -1 then RNT N x k (j - 1).toNat else HLD N x (WNT N x k (RNT N x k (j - 1).toNat) (((j - 1).toNat + 1 : Nat) : Int)) (RNT N x k (j - 1).toNat) (LST N x ((j - 1).toNat + 1)) (MST N x ((j - 1).toNat + 1)))
    rw [ec]
  · rw [o16 j hj, o17 j hj, o18 j hj, o19 j hj]
    exact h j j0 (by omega)
theorem RVW_R {N : Int → Int} {x y : Int} (hL : WFl N x) (hy : LF N x 0 ≤ y) (hy2 : y ≤ LF N x 0 + 239) : 0 ≤ RVW N x y ∧ RVW N x y ≤ REV N x ∧ 0 ≤ (y - LF N x 0).tdiv (LF N x 3) ∧ (y - LF N x 0).tdiv (LF N x 3) ≤ 239 := by
  have hR := REV_R hL
  obtain ⟨l0, l1, l2, l3, -⟩ := hL
  have hd := tdiv_P (a := y - LF N x 0) (b := LF N x 3) (by omega) (by omega)
  unfold RVW
  split <;> omega
theorem DUE_R {N : Int → Int} {x k y : Int} (hL : WFl N x) : 0 ≤ DUE N x k y ∧ DUE N x k y ≤ 999999 := by
  unfold DUE RNTm
  split
  · decide
  · have := RNT_R (k := k) hL (RVW N x y).toNat
    omega
theorem END_R {N : Int → Int} {x k : Int} (hL : WFl N x) : LF N x 0 < END N x k ∧ END N x k ≤ LF N x 0 + LF N x 1 := by
  obtain ⟨l0, l1, l2, l3, l4, l5, l6, l7, l8, l9, l10, l11, l12, l13, l14, l15⟩ := hL
  unfold END
  split
  · have := l14 (by omega); omega
  · omega
theorem SUM_R {f : Int → Int} {i M : Int} (h : ∀ j, 0 ≤ f j ∧ f j ≤ M) : ∀ n : Nat, 0 ≤ SUM f i n ∧ SUM f i n ≤ M * (n : Int) := by
  intro n
  induction n with
  | zero => show 0 ≤ (0 : Int) ∧ (0 : Int) ≤ _; omega
  | succ n ih =>
    show 0 ≤ SUM f i n + f (i + (n : Int)) ∧ SUM f i n + f (i + (n : Int)) ≤ M * ((n + 1 : Nat) : Int)
    have := h (i + (n : Int))
    have e : M * ((n + 1 : Nat) : Int) = M * (n : Int) + M := by rw [Int.natCast_succ, Int.mul_add, Int.mul_one]
    omega
theorem ALLD_R {N : Int → Int} {x m : Int} (hL : WFl N x) : 0 ≤ ALLD N x m ∧ ALLD N x m ≤ 119999880 := by
  have hE := END_R (k := m) hL
  have h := SUM_R (f := DUE N x m) (i := LF N x 0) (M := 999999) (fun j => DUE_R hL) (END N x m - LF N x 0).toNat
  have h1 := hL.2.1
  unfold ALLD
  omega
/-- a part of what is left: between 0 and it -/
theorem part_R {a b : Int} (hb : 0 < b) : (0 ≤ a → 0 ≤ a.tdiv b ∧ a.tdiv b ≤ a) ∧ (a ≤ 0 → a ≤ a.tdiv b ∧ a.tdiv b ≤ 0) := by
  refine ⟨fun h => ?_, fun h => ?_⟩
  · have := tdiv_P h hb; omega
  · have h2 := tdiv_P (a := -a) (by omega) hb
    have e : a.tdiv b = -((-a).tdiv b) := by rw [Int.neg_tdiv, Int.neg_neg]
    omega
theorem TOG_R {N : Int → Int} {x : Int} (hL : WFl N x) : ∀ i : Nat, 0 ≤ TOG N x i ∧ TOG N x i ≤ 119999880 := by
  intro i
  induction i with
  | zero => show 0 ≤ (0 : Int) ∧ (0 : Int) ≤ 119999880; decide
  | succ i ih =>
    show 0 ≤ TOG N x i + SPR1 N x (LF N x 0 + (i : Int)) (TOG N x i) ∧ TOG N x i + SPR1 N x (LF N x 0 + (i : Int)) (TOG N x i) ≤ 119999880
    have hA := ALLD_R (m := LF N x 0 + (i : Int)) hL
    unfold SPR1
    split
    · rename_i h
      have hp := part_R (a := ALLD N x (LF N x 0 + (i : Int)) - TOG N x i) (b := END N x (LF N x 0 + (i : Int)) - (LF N x 0 + (i : Int))) (by omega)
      by_cases hs : 0 ≤ ALLD N x (LF N x 0 + (i : Int)) - TOG N x i
      · have := hp.1 hs; omega
      · have := hp.2 (by omega); omega
    · omega
theorem SPR1_R {N : Int → Int} {x m g : Int} (hL : WFl N x) (hg : 0 ≤ g ∧ g ≤ 119999880) : -119999880 ≤ SPR1 N x m g ∧ SPR1 N x m g ≤ 119999880 := by
  have hA := ALLD_R (m := m) hL
  unfold SPR1
  split
  · rename_i h
    have hp := part_R (a := ALLD N x m - g) (b := END N x m - m) (by omega)
    by_cases hs : 0 ≤ ALLD N x m - g
    · have := hp.1 hs; omega
    · have := hp.2 (by omega); omega
  · omega
theorem hiX11_laysRents_X11 : ∀ w ∈ wsX110, w ∈ wsX11_laysRents := fun _ h => List.mem_cons_of_mem _ (List.mem_append_right _ h)
theorem ziX11_laysRents : yX11_laysRents.cls = RX11 ∧ yX11_laysRents.cls ≠ "java/lang/invoke/MethodHandle" ∧ yX11_laysRents.cls ≠ "java/lang/invoke/VarHandle" ∧ (parseMethodDescriptor yX11_laysRents.desc).map (fun d => d.parameters.length) = some 2 := by decide +kernel
set_option maxHeartbeats 4000000 in
set_option maxRecDepth 100000 in
theorem c_laysRents {l : Launch} {G : va_G} {cI cJ cO : ClassId} (h : Nat) (q : Nat → Nat) (v : Nat → Int) (a : Nat → Int → Int) (x k : Int)  (hx6 : 0 ≤ x ∧ x < 6) (h2 : -2147483648 ≤ k ∧ k < 2147483648) (hV : WFv (a 11)) (hL : WFl (a 11) x) (hT : WFt (a 11) x) : zC l yX11_laysRents wsX11_laysRents { frames := 6, cells := 0, slots := 0, locals := 137 } G (tyZ cI cJ cO) (S := (Int → Int) × (Int → Int) × (Int → Int) × (Int → Int)) [.ref h, .int (iI x), .int (iI k)] (mW cI cJ h q v a) (zN) (fun u => LD (a 11) x k (REV (a 11) x + 1) u.1 u.2.1 u.2.2.1 u.2.2.2) (fun u => mW cI cJ h q v (uA (uA (uA (uA a 16 u.1) 17 u.2.1) 18 u.2.2.1) 19 u.2.2.2)) 0 0 := by
  refine z_start (cc := cX11_laysRents) (maxL := 4) (ret := none) (by decide) rfl (Nat.le_of_ble_eq_true rfl) ?_
  intro p e s m below meth c A ls F hr hlk hnm hAe hA hW hl
  have hx := F.1
  have hb := F.2.1
  have hown : s.vm.findClass RX11 = some m.cls := F.2.2.2.1
  have hts := F.2.2.2.2
  have hl : lv_has ls 4 [(0, .ref h), (1, .int (iI x)), (2, .int (iI k))] := hl
  obtain ⟨l0, l1, l2, l3, l4, l5, l6, l7, l8, l9, l10, l11, l12, l13, l14, l15⟩ := id hL
  have hR := REV_R hL
  refine lv_aload_n hx hb dX11_laysRents_0 rfl (lv_at hl 0 rfl) ?_
  refine z_get (v := .ref (q 17)) hx hb hts hiX11_laysRents_X11 hown hW 0 17 1 rfl rfl rfl (by decide) rfl dX11_laysRents_1 ?_
  refine z_iconst (n := 0) hx hb dX11_laysRents_4 ?_
  refine lv_aload_n hx hb dX11_laysRents_5 rfl (lv_at hl 0 rfl) ?_
  refine lv_iload_n hx hb dX11_laysRents_6 rfl (lv_at hl 1 rfl) ?_
  refine z_iconst (n := 2) hx hb dX11_laysRents_7 ?_
  refine z_callV (As := [.int (iI x), .int (iI 2)]) (rest := [.int (iI 0), .ref (q 17)]) F (c_its h q v a x 2  (show 0 ≤ 483 + 500 * x + 2 ∧ 483 + 500 * x + 2 < 3483 by omega)) gX11_laysRents_X11_its rfl ziX11_its ⟨rfl, rfl, by decide, by decide⟩ rfl hl.1 rfl (Nat.le_of_ble_eq_true rfl) dX11_laysRents_8 ⟨Nat.zero_le _, Nat.zero_le _⟩ hW hA [0, 1, 2, 3, 4, 5, 6, 7, 8, 9, 10] rfl (by decide) (fun _ => rfl) (fun _ => mW cI cJ h q v a) (fun _ => rfl) (fun _ => [.int (iI (LF ((a 11)) x 2)), .int (iI 0), .ref (q 17)]) (fun _ => rfl) 0 rfl rfl rfl (fun _ H locs hp8 hW => ?_)
  refine z_i2l hx hb dX11_laysRents_11 ⟨by omega, by omega⟩ ?_
  refine z_last (f := a 17) (i := 0) (z := LF ((a 11)) x 2) hx hb hW 6 1 rfl rfl (by decide) ⟨by omega, by omega⟩ dX11_laysRents_12 (fun H locs hW => ?_)
  have hW : zW G (tyZ cI cJ cO) A s (mW cI cJ h q v (uA a 17 (uI (a 17) 0 (LF ((a 11)) x 2)))) H locs := hW
  refine lv_aload_n hx hb dX11_laysRents_13 rfl (lv_at hl 0 rfl) ?_
  refine z_get (v := .ref (q 18)) hx hb hts hiX11_laysRents_X11 hown hW 0 18 2 rfl rfl rfl (by decide) rfl dX11_laysRents_14 ?_
  refine z_iconst (n := 0) hx hb dX11_laysRents_17 ?_
  refine lv_aload_n hx hb dX11_laysRents_18 rfl (lv_at hl 0 rfl) ?_
  refine z_get (v := .ref (q 17)) hx hb hts hiX11_laysRents_X11 hown hW 0 17 1 rfl rfl rfl (by decide) rfl dX11_laysRents_19 ?_
  refine z_iconst (n := 0) hx hb dX11_laysRents_22 ?_
  refine z_lald (f := uI (a 17) 0 (LF ((a 11)) x 2)) (i := 0) hx hb hW 6 1 rfl rfl (by decide) ⟨by omega, by omega⟩ dX11_laysRents_23 ?_
  rw [uI_s (f := a 17) (i := 0) (z := LF ((a 11)) x 2)]
  refine z_last (f := a 18) (i := 0) (z := LF ((a 11)) x 2) hx hb hW 7 1 rfl rfl (by decide) ⟨by omega, by omega⟩ dX11_laysRents_24 (fun H locs hW => ?_)
  have hW : zW G (tyZ cI cJ cO) A s (mW cI cJ h q v (uA (uA a 17 (uI (a 17) 0 (LF ((a 11)) x 2))) 18 (uI (a 18) 0 (LF ((a 11)) x 2)))) H locs := hW
  refine lv_aload_n hx hb dX11_laysRents_25 rfl (lv_at hl 0 rfl) ?_
  refine z_get (v := .ref (q 19)) hx hb hts hiX11_laysRents_X11 hown hW 0 19 3 rfl rfl rfl (by decide) rfl dX11_laysRents_26 ?_
  refine z_iconst (n := 0) hx hb dX11_laysRents_29 ?_
  refine lv_aload_n hx hb dX11_laysRents_30 rfl (lv_at hl 0 rfl) ?_
  refine z_get (v := .ref (q 17)) hx hb hts hiX11_laysRents_X11 hown hW 0 17 1 rfl rfl rfl (by decide) rfl dX11_laysRents_31 ?_
  refine z_iconst (n := 0) hx hb dX11_laysRents_34 ?_
  refine z_lald (f := uI (a 17) 0 (LF ((a 11)) x 2)) (i := 0) hx hb hW 6 1 rfl rfl (by decide) ⟨by omega, by omega⟩ dX11_laysRents_35 ?_
  rw [uI_s (f := a 17) (i := 0) (z := LF ((a 11)) x 2)]
  refine z_last (f := a 19) (i := 0) (z := LF ((a 11)) x 2) hx hb hW 8 1 rfl rfl (by decide) ⟨by omega, by omega⟩ dX11_laysRents_36 (fun H locs hW => ?_)
  have hW : zW G (tyZ cI cJ cO) A s (mW cI cJ h q v (uA (uA (uA a 17 (uI (a 17) 0 (LF ((a 11)) x 2))) 18 (uI (a 18) 0 (LF ((a 11)) x 2))) 19 (uI (a 19) 0 (LF ((a 11)) x 2)))) H locs := hW
  refine z_iconst (n := 1) hx hb dX11_laysRents_37 ?_
  refine lv_istore_n (lv' := [(3, .int (iI 1)), (0, .ref h), (1, .int (iI x)), (2, .int (iI k))]) hx hb dX11_laysRents_38 rfl hl (by decide) rfl (fun ls hl => ?_)
  refine z_loop5 (fun (r : Int) (f16 : Int → Int) (f17 : Int → Int) (f18 : Int → Int) (f19 : Int → Int) (ls : Array Slot) (H : Heap) (locs : List Loc) => (1 ≤ r ∧ r ≤ REV (a 11) x + 1) ∧ (LD (a 11) x k r f16 f17 f18 f19) ∧ zW G (tyZ cI cJ cO) A s (mW cI cJ h q v (uA (uA (uA (uA a 16 f16) 17 f17) 18 f18) 19 f19)) H locs ∧ lv_has ls 4 [(3, .int (iI r)), (0, .ref h), (1, .int (iI x)), (2, .int (iI k))]) (fun r f16 f17 f18 f19 => (REV (a 11) x + 1 - r).toNat) ?_ 1 (a 16) (uI (a 17) 0 (LF ((a 11)) x 2)) (uI (a 18) 0 (LF ((a 11)) x 2)) (uI (a 19) 0 (LF ((a 11)) x 2)) _ _ _ ⟨(by omega), (LD_first uI_s uI_s uI_s), hW, (lv_sub hl [0, 1, 2, 3] rfl)⟩
  intro r f16 f17 f18 f19 ls H locs hI ih
  obtain ⟨i1, i2, hW, hl⟩ := hI
  refine lv_iload_n hx hb dX11_laysRents_39 rfl (lv_at hl 0 rfl) ?_
  refine lv_aload_n hx hb dX11_laysRents_40 rfl (lv_at hl 1 rfl) ?_
  refine lv_iload_n hx hb dX11_laysRents_41 rfl (lv_at hl 2 rfl) ?_
  refine z_callV (As := [.int (iI x)]) (rest := [.int (iI r)]) F (c_reviewsOf h q v (uA (uA (uA (uA a 16 f16) 17 f17) 18 f18) 19 f19) x  (show 0 ≤ x ∧ x < 6 by omega) (show 0 ≤ LF ((a 11)) x 5 ∧ LF ((a 11)) x 5 ≤ 4 by omega) (show 1 ≤ LF ((a 11)) x 1 ∧ LF ((a 11)) x 1 ≤ 120 by omega) (show 1 ≤ LF ((a 11)) x 3 ∧ LF ((a 11)) x 3 ≤ 60 by omega)) gX11_laysRents_X11_reviewsOf rfl ziX11_reviewsOf ⟨rfl, rfl, by decide, by decide⟩ rfl hl.1 rfl (Nat.le_of_ble_eq_true rfl) dX11_laysRents_42 ⟨Nat.zero_le _, Nat.zero_le _⟩ hW hA [0, 1, 2, 3, 4, 5, 6, 7, 8, 9, 10] rfl (by decide) (fun _ => rfl) (fun _ => mW cI cJ h q v (uA (uA (uA (uA a 16 f16) 17 f17) 18 f18) 19 f19)) (fun _ => rfl) (fun _ => [.int (iI (REV ((a 11)) x)), .int (iI r)]) (fun _ => rfl) 0 rfl rfl rfl (fun _ H locs hp42 hW => ?_)
  refine z_icmp_gt (tgt := 187) hx hb dX11_laysRents_45 (by decide) ⟨by omega, by omega⟩ ⟨by omega, by omega⟩ (fun c45 => ?_) (fun c45 => ?_)
  · exact z_vret hx hb hr hlk hW (⟨f16, f17, f18, f19⟩) (by rw [show REV (a 11) x + 1 = r by omega]; exact i2) rfl dX11_laysRents_187
  · have hq := i2 (r - 1) (by omega) (by omega)
    have b17 := RNT_R (k := k) hL (r - 1).toNat
    have b18 := LST_R hL (r - 1).toNat
    have b19 := MST_R hL (r - 1).toNat
    rw [← hq.1] at b17
    rw [← hq.2.1] at b18
    rw [← hq.2.2.1] at b19
    have hre : r * LF (a 11) x 3 ≤ REV (a 11) x * LF (a 11) x 3 := Int.mul_le_mul_of_nonneg_right (by omega) (by omega)
    have hre0 : 0 ≤ r * LF (a 11) x 3 := Int.mul_nonneg (by omega) (by omega)
    have t18 := thou_P (a := f18 (r - 1)) (f := 1000 - LF (a 11) x 10) (by omega) (by omega)
    have t19 := thou_P (a := f19 (r - 1)) (f := 1000 + LF (a 11) x 11) (by omega) (by omega)
    refine lv_aload_n hx hb dX11_laysRents_48 rfl (lv_at hl 1 rfl) ?_
    refine z_get (v := .ref (q 18)) hx hb hts hiX11_laysRents_X11 hown hW 0 18 2 rfl rfl rfl (by decide) rfl dX11_laysRents_49 ?_
    refine lv_iload_n hx hb dX11_laysRents_52 rfl (lv_at hl 0 rfl) ?_
    refine lv_aload_n hx hb dX11_laysRents_53 rfl (lv_at hl 1 rfl) ?_
    refine z_get (v := .ref (q 18)) hx hb hts hiX11_laysRents_X11 hown hW 0 18 2 rfl rfl rfl (by decide) rfl dX11_laysRents_54 ?_
    refine lv_iload_n hx hb dX11_laysRents_57 rfl (lv_at hl 0 rfl) ?_
    refine z_iconst (n := 1) hx hb dX11_laysRents_58 ?_
    refine z_isub hx hb dX11_laysRents_59 ?_
    refine z_lald (f := f18) (i := r - 1) hx hb hW 7 1 rfl rfl (by decide) ⟨by omega, by omega⟩ dX11_laysRents_60 ?_
    refine z_ldc2 hx hb (1000) hown (hts _ (List.mem_of_getElem? (i := 4) rfl)) (by decide +kernel) dX11_laysRents_61 ?_
    refine lv_aload_n hx hb dX11_laysRents_64 rfl (lv_at hl 1 rfl) ?_
    refine lv_iload_n hx hb dX11_laysRents_65 rfl (lv_at hl 2 rfl) ?_
    refine z_bipush hx hb dX11_laysRents_66 (by decide +kernel) ?_
    refine z_callV (As := [.int (iI x), .int (iI 10)]) (rest := [.long (lI 1000), .long (lI (f18 (r - 1))), .int (iI r), .ref (q 18)]) F (c_its h q v (uA (uA (uA (uA a 16 f16) 17 f17) 18 f18) 19 f19) x 10  (show 0 ≤ 483 + 500 * x + 10 ∧ 483 + 500 * x + 10 < 3483 by omega)) gX11_laysRents_X11_its rfl ziX11_its ⟨rfl, rfl, by decide, by decide⟩ rfl hl.1 rfl (Nat.le_of_ble_eq_true rfl) dX11_laysRents_68 ⟨Nat.zero_le _, Nat.zero_le _⟩ hW hA [0, 1, 2, 3, 4, 5, 6, 7, 8, 9, 10] rfl (by decide) (fun _ => rfl) (fun _ => mW cI cJ h q v (uA (uA (uA (uA a 16 f16) 17 f17) 18 f18) 19 f19)) (fun _ => rfl) (fun _ => [.int (iI (LF ((a 11)) x 10)), .long (lI 1000), .long (lI (f18 (r - 1))), .int (iI r), .ref (q 18)]) (fun _ => rfl) 0 rfl rfl rfl (fun _ H locs hp68 hW => ?_)
    refine z_i2l hx hb dX11_laysRents_71 ⟨by omega, by omega⟩ ?_
    refine z_lsub hx hb dX11_laysRents_72 ?_
    refine z_lmul hx hb dX11_laysRents_73 ?_
    refine z_ldc2 hx hb (1000) hown (hts _ (List.mem_of_getElem? (i := 4) rfl)) (by decide +kernel) dX11_laysRents_74 ?_
    refine z_ldiv hx hb dX11_laysRents_77 ⟨by omega, by omega⟩ (by decide) (by decide) (by omega) ?_
    refine z_last (f := f18) (i := r) (z := ((f18 (r - 1)) * (1000 - (LF ((a 11)) x 10))).tdiv 1000) hx hb hW 7 1 rfl rfl (by decide) ⟨by omega, by omega⟩ dX11_laysRents_78 (fun H locs hW => ?_)
    have hW : zW G (tyZ cI cJ cO) A s (mW cI cJ h q v (uA (uA (uA (uA a 16 f16) 17 f17) 19 f19) 18 (uI f18 r (((f18 (r - 1)) * (1000 - (LF ((a 11)) x 10))).tdiv 1000)))) H locs := hW
    refine lv_aload_n hx hb dX11_laysRents_79 rfl (lv_at hl 1 rfl) ?_
    refine z_get (v := .ref (q 19)) hx hb hts hiX11_laysRents_X11 hown hW 0 19 3 rfl rfl rfl (by decide) rfl dX11_laysRents_80 ?_
    refine lv_iload_n hx hb dX11_laysRents_83 rfl (lv_at hl 0 rfl) ?_
    refine lv_aload_n hx hb dX11_laysRents_84 rfl (lv_at hl 1 rfl) ?_
    refine z_get (v := .ref (q 19)) hx hb hts hiX11_laysRents_X11 hown hW 0 19 3 rfl rfl rfl (by decide) rfl dX11_laysRents_85 ?_
    refine lv_iload_n hx hb dX11_laysRents_88 rfl (lv_at hl 0 rfl) ?_
    refine z_iconst (n := 1) hx hb dX11_laysRents_89 ?_
    refine z_isub hx hb dX11_laysRents_90 ?_
    refine z_lald (f := f19) (i := r - 1) hx hb hW 8 1 rfl rfl (by decide) ⟨by omega, by omega⟩ dX11_laysRents_91 ?_
    refine z_ldc2 hx hb (1000) hown (hts _ (List.mem_of_getElem? (i := 4) rfl)) (by decide +kernel) dX11_laysRents_92 ?_
    refine lv_aload_n hx hb dX11_laysRents_95 rfl (lv_at hl 1 rfl) ?_
    refine lv_iload_n hx hb dX11_laysRents_96 rfl (lv_at hl 2 rfl) ?_
    refine z_bipush hx hb dX11_laysRents_97 (by decide +kernel) ?_
    refine z_callV (As := [.int (iI x), .int (iI 11)]) (rest := [.long (lI 1000), .long (lI (f19 (r - 1))), .int (iI r), .ref (q 19)]) F (c_its h q v (uA (uA (uA (uA a 16 f16) 17 f17) 19 f19) 18 (uI f18 r (((f18 (r - 1)) * (1000 - (LF ((a 11)) x 10))).tdiv 1000))) x 11  (show 0 ≤ 483 + 500 * x + 11 ∧ 483 + 500 * x + 11 < 3483 by omega)) gX11_laysRents_X11_its rfl ziX11_its ⟨rfl, rfl, by decide, by decide⟩ rfl hl.1 rfl (Nat.le_of_ble_eq_true rfl) dX11_laysRents_99 ⟨Nat.zero_le _, Nat.zero_le _⟩ hW hA [0, 1, 2, 3, 4, 5, 6, 7, 8, 9, 10] rfl (by decide) (fun _ => rfl) (fun _ => mW cI cJ h q v (uA (uA (uA (uA a 16 f16) 17 f17) 19 f19) 18 (uI f18 r (((f18 (r - 1)) * (1000 - (LF ((a 11)) x 10))).tdiv 1000)))) (fun _ => rfl) (fun _ => [.int (iI (LF ((a 11)) x 11)), .long (lI 1000), .long (lI (f19 (r - 1))), .int (iI r), .ref (q 19)]) (fun _ => rfl) 0 rfl rfl rfl (fun _ H locs hp99 hW => ?_)
    refine z_i2l hx hb dX11_laysRents_102 ⟨by omega, by omega⟩ ?_
    refine z_ladd hx hb dX11_laysRents_103 ?_
    refine z_lmul hx hb dX11_laysRents_104 ?_
    refine z_ldc2 hx hb (1000) hown (hts _ (List.mem_of_getElem? (i := 4) rfl)) (by decide +kernel) dX11_laysRents_105 ?_
    refine z_ldiv hx hb dX11_laysRents_108 ⟨by omega, by omega⟩ (by decide) (by decide) (by omega) ?_
    refine z_last (f := f19) (i := r) (z := ((f19 (r - 1)) * (1000 + (LF ((a 11)) x 11))).tdiv 1000) hx hb hW 8 1 rfl rfl (by decide) ⟨by omega, by omega⟩ dX11_laysRents_109 (fun H locs hW => ?_)
    have hW : zW G (tyZ cI cJ cO) A s (mW cI cJ h q v (uA (uA (uA (uA a 16 f16) 17 f17) 18 (uI f18 r (((f18 (r - 1)) * (1000 - (LF ((a 11)) x 10))).tdiv 1000))) 19 (uI f19 r (((f19 (r - 1)) * (1000 + (LF ((a 11)) x 11))).tdiv 1000)))) H locs := hW
    refine z_join1 (fun (g19 : Int → Int) (ls : Array Slot) (H : Heap) (locs : List Loc) => (∀ j, j ≠ r → g19 j = f19 j) ∧ (g19 r = if 999999 < (f19 (r - 1) * (1000 + LF (a 11) x 11)).tdiv 1000 then 999999 else (f19 (r - 1) * (1000 + LF (a 11) x 11)).tdiv 1000) ∧ (0 ≤ g19 r ∧ g19 r ≤ 999999) ∧ zW G (tyZ cI cJ cO) A s (mW cI cJ h q v (uA (uA (uA (uA a 16 f16) 17 f17) 18 (uI f18 r (((f18 (r - 1)) * (1000 - (LF ((a 11)) x 10))).tdiv 1000))) 19 g19)) H locs ∧ lv_has ls 4 [(3, .int (iI r)), (0, .ref h), (1, .int (iI x)), (2, .int (iI k))]) 132 (fun g19 => []) ?_ ?_
    · intro g19 ls H locs hJ
      obtain ⟨o19, e19, b20, hW, hl⟩ := hJ
      refine lv_aload_n hx hb dX11_laysRents_132 rfl (lv_at hl 1 rfl) ?_
      refine z_get (v := .ref (q 16)) hx hb hts hiX11_laysRents_X11 hown hW 0 16 6 rfl rfl rfl (by decide) rfl dX11_laysRents_133 ?_
      refine lv_iload_n hx hb dX11_laysRents_136 rfl (lv_at hl 0 rfl) ?_
      refine lv_aload_n hx hb dX11_laysRents_137 rfl (lv_at hl 1 rfl) ?_
      refine lv_iload_n hx hb dX11_laysRents_138 rfl (lv_at hl 2 rfl) ?_
      refine lv_iload_n hx hb dX11_laysRents_139 rfl (lv_at hl 0 rfl) ?_
      refine lv_iload_n hx hb dX11_laysRents_140 rfl (lv_at hl 3 rfl) ?_
      refine z_callV (As := [.int (iI x), .int (iI r), .int (iI k)]) (rest := [.int (iI r), .ref (q 16)]) F (c_wants h q v (uA (uA (uA (uA a 16 f16) 17 f17) 18 (uI f18 r (((f18 (r - 1)) * (1000 - (LF ((a 11)) x 10))).tdiv 1000))) 19 g19) x r k  (show 0 ≤ x ∧ x < 6 by omega) (show 1 ≤ r ∧ r ≤ 119 ∧ 0 ≤ r * LF ((a 11)) x 3 ∧ r * LF ((a 11)) x 3 ≤ LF ((a 11)) x 1 - 1 by omega) (show -2147483648 ≤ k ∧ k < 2147483648 by omega) (show 1 ≤ f17 (r - 1) ∧ f17 (r - 1) ≤ 999999 by omega) hV hL hT) gX11_laysRents_X11_wants rfl ziX11_wants ⟨rfl, rfl, by decide, by decide⟩ rfl hl.1 rfl (Nat.le_of_ble_eq_true rfl) dX11_laysRents_141 ⟨Nat.zero_le _, Nat.zero_le _⟩ hW hA [0, 1, 2, 3, 4, 5, 6, 7, 8, 9, 10] rfl (by decide) (fun _ => rfl) (fun _ => mW cI cJ h q v (uA (uA (uA (uA a 16 f16) 17 f17) 18 (uI f18 r (((f18 (r - 1)) * (1000 - (LF ((a 11)) x 10))).tdiv 1000))) 19 g19)) (fun _ => rfl) (fun _ => [.long (lI (WNT ((a 11)) x k (f17 (r - 1)) r)), .int (iI r), .ref (q 16)]) (fun _ => rfl) 0 rfl rfl rfl (fun _ H locs hp141 hW => ?_)
      refine z_last (f := f16) (i := r) (z := WNT ((a 11)) x k (f17 (r - 1)) r) hx hb hW 5 1 rfl rfl (by decide) ⟨by omega, by omega⟩ dX11_laysRents_144 (fun H locs hW => ?_)
      have hW : zW G (tyZ cI cJ cO) A s (mW cI cJ h q v (uA (uA (uA (uA a 17 f17) 18 (uI f18 r (((f18 (r - 1)) * (1000 - (LF ((a 11)) x 10))).tdiv 1000))) 19 g19) 16 (uI f16 r (WNT ((a 11)) x k (f17 (r - 1)) r)))) H locs := hW
      have w1 := WNT_R (k := k) (was := f17 (r - 1)) (r := r) hV hL hT (by omega) (by omega) (by omega)
      refine lv_aload_n hx hb dX11_laysRents_145 rfl (lv_at hl 1 rfl) ?_
      refine z_get (v := .ref (q 17)) hx hb hts hiX11_laysRents_X11 hown hW 0 17 1 rfl rfl rfl (by decide) rfl dX11_laysRents_146 ?_
      refine lv_iload_n hx hb dX11_laysRents_149 rfl (lv_at hl 0 rfl) ?_
      refine lv_aload_n hx hb dX11_laysRents_150 rfl (lv_at hl 1 rfl) ?_
      refine z_get (v := .ref (q 16)) hx hb hts hiX11_laysRents_X11 hown hW 0 16 6 rfl rfl rfl (by decide) rfl dX11_laysRents_151 ?_
      refine lv_iload_n hx hb dX11_laysRents_154 rfl (lv_at hl 0 rfl) ?_
      refine z_lald (f := uI f16 r (WNT ((a 11)) x k (f17 (r - 1)) r)) (i := r) hx hb hW 5 1 rfl rfl (by decide) ⟨by omega, by omega⟩ dX11_laysRents_155 ?_
      rw [uI_s (f := f16) (i := r) (z := WNT ((a 11)) x k (f17 (r - 1)) r)]
      refine z_ldc2 hx hb (-1) hown (hts _ (List.mem_of_getElem? (i := 7) rfl)) (by decide +kernel) dX11_laysRents_156 ?_
      refine z_lcmp_ne (tgt := 174) hx hb dX11_laysRents_159 dX11_laysRents_160 (by decide) ⟨by omega, by omega⟩ (by decide) (fun c159 => ?_) (fun c159 => ?_)
      · refine lv_aload_n hx hb dX11_laysRents_174 rfl (lv_at hl 1 rfl) ?_
        refine lv_iload_n hx hb dX11_laysRents_175 rfl (lv_at hl 2 rfl) ?_
        refine lv_iload_n hx hb dX11_laysRents_176 rfl (lv_at hl 0 rfl) ?_
        refine z_callV (As := [.int (iI x), .int (iI r)]) (rest := [.int (iI r), .ref (q 17)]) F (c_held h q v (uA (uA (uA (uA a 17 f17) 18 (uI f18 r (((f18 (r - 1)) * (1000 - (LF ((a 11)) x 10))).tdiv 1000))) 19 g19) 16 (uI f16 r (WNT ((a 11)) x k (f17 (r - 1)) r))) x r  (show 0 ≤ x ∧ x < 6 by omega) (show 1 ≤ r ∧ r ≤ 119 by omega) (show 0 ≤ (uI f16 r (WNT ((a 11)) x k (f17 (r - 1)) r)) r ∧ (uI f16 r (WNT ((a 11)) x k (f17 (r - 1)) r)) r ≤ 999890001 by rw [uI_s]; omega) (show 1 ≤ f17 (r - 1) ∧ f17 (r - 1) ≤ 999999 by omega) (show 0 ≤ (uI f18 r (((f18 (r - 1)) * (1000 - (LF ((a 11)) x 10))).tdiv 1000)) r ∧ (uI f18 r (((f18 (r - 1)) * (1000 - (LF ((a 11)) x 10))).tdiv 1000)) r ≤ 1998999 by rw [uI_s]; omega) (show 0 ≤ g19 r ∧ g19 r ≤ 999999 by omega) hL) gX11_laysRents_X11_held rfl ziX11_held ⟨rfl, rfl, by decide, by decide⟩ rfl hl.1 rfl (Nat.le_of_ble_eq_true rfl) dX11_laysRents_177 ⟨Nat.zero_le _, Nat.zero_le _⟩ hW hA [0, 1, 2, 3, 4, 5, 6, 7, 8, 9, 10] rfl (by decide) (fun _ => rfl) (fun _ => mW cI cJ h q v (uA (uA (uA (uA a 17 f17) 18 (uI f18 r (((f18 (r - 1)) * (1000 - (LF ((a 11)) x 10))).tdiv 1000))) 19 g19) 16 (uI f16 r (WNT ((a 11)) x k (f17 (r - 1)) r)))) (fun _ => rfl) (fun _ => [.long (lI (HLD ((a 11)) x ((uI f16 r (WNT ((a 11)) x k (f17 (r - 1)) r)) r) (f17 (r - 1)) ((uI f18 r (((f18 (r - 1)) * (1000 - (LF ((a 11)) x 10))).tdiv 1000)) r) (g19 r))), .int (iI r), .ref (q 17)]) (fun _ => rfl) 0 rfl rfl rfl (fun _ H locs hp177 hW => ?_)
        refine z_last (f := f17) (i := r) (z := HLD ((a 11)) x ((uI f16 r (WNT ((a 11)) x k (f17 (r - 1)) r)) r) (f17 (r - 1)) ((uI f18 r (((f18 (r - 1)) * (1000 - (LF ((a 11)) x 10))).tdiv 1000)) r) (g19 r)) hx hb hW 6 1 rfl rfl (by decide) ⟨by omega, by omega⟩ dX11_laysRents_180 (fun H locs hW => ?_)
        have hW : zW G (tyZ cI cJ cO) A s (mW cI cJ h q v (uA (uA (uA (uA a 18 (uI f18 r (((f18 (r - 1)) * (1000 - (LF ((a 11)) x 10))).tdiv 1000))) 19 g19) 16 (uI f16 r (WNT ((a 11)) x k (f17 (r - 1)) r))) 17 (uI f17 r (HLD ((a 11)) x ((uI f16 r (WNT ((a 11)) x k (f17 (r - 1)) r)) r) (f17 (r - 1)) ((uI f18 r (((f18 (r - 1)) * (1000 - (LF ((a 11)) x 10))).tdiv 1000)) r) (g19 r))))) H locs := hW
        refine z_iinc (k := 0) (lv' := [(3, .int (iI (r + 1))), (0, .ref h), (1, .int (iI x)), (2, .int (iI k))]) hx hb dX11_laysRents_181 hl rfl (by decide) rfl (fun ls hl => ?_)
        refine lv_goto (tgt := 39) hx hb dX11_laysRents_184 (by decide) ?_
        exact ih (r + 1) (uI f16 r (WNT ((a 11)) x k (f17 (r - 1)) r)) (uI f17 r (HLD ((a 11)) x ((uI f16 r (WNT ((a 11)) x k (f17 (r - 1)) r)) r) (f17 (r - 1)) ((uI f18 r (((f18 (r - 1)) * (1000 - (LF ((a 11)) x 10))).tdiv 1000)) r) (g19 r))) (uI f18 r (((f18 (r - 1)) * (1000 - (LF ((a 11)) x 10))).tdiv 1000)) g19 _ _ _ ⟨(by omega), (LD_step (by omega) i2 (fun j hj => uI_n hj) (fun j hj => uI_n hj) (fun j hj => uI_n hj) o19 uI_s uI_s e19 (by first | (rw [uI_s (f := f17), if_pos (by rw [uI_s]; exact c159)]; done) | (rw [uI_s (f := f17), if_neg (by rw [uI_s]; exact c159)]; done))), hW, (lv_sub hl [0, 1, 2, 3] rfl)⟩ (by omega)
      · refine lv_aload_n hx hb dX11_laysRents_163 rfl (lv_at hl 1 rfl) ?_
        refine z_get (v := .ref (q 17)) hx hb hts hiX11_laysRents_X11 hown hW 0 17 1 rfl rfl rfl (by decide) rfl dX11_laysRents_164 ?_
        refine lv_iload_n hx hb dX11_laysRents_167 rfl (lv_at hl 0 rfl) ?_
        refine z_iconst (n := 1) hx hb dX11_laysRents_168 ?_
        refine z_isub hx hb dX11_laysRents_169 ?_
        refine z_lald (f := f17) (i := r - 1) hx hb hW 6 1 rfl rfl (by decide) ⟨by omega, by omega⟩ dX11_laysRents_170 ?_
        refine lv_goto (tgt := 180) hx hb dX11_laysRents_171 (by decide) ?_
        refine z_last (f := f17) (i := r) (z := f17 (r - 1)) hx hb hW 6 1 rfl rfl (by decide) ⟨by omega, by omega⟩ dX11_laysRents_180 (fun H locs hW => ?_)
        have hW : zW G (tyZ cI cJ cO) A s (mW cI cJ h q v (uA (uA (uA (uA a 18 (uI f18 r (((f18 (r - 1)) * (1000 - (LF ((a 11)) x 10))).tdiv 1000))) 19 g19) 16 (uI f16 r (WNT ((a 11)) x k (f17 (r - 1)) r))) 17 (uI f17 r (f17 (r - 1))))) H locs := hW
        refine z_iinc (k := 0) (lv' := [(3, .int (iI (r + 1))), (0, .ref h), (1, .int (iI x)), (2, .int (iI k))]) hx hb dX11_laysRents_181 hl rfl (by decide) rfl (fun ls hl => ?_)
        refine lv_goto (tgt := 39) hx hb dX11_laysRents_184 (by decide) ?_
        exact ih (r + 1) (uI f16 r (WNT ((a 11)) x k (f17 (r - 1)) r)) (uI f17 r (f17 (r - 1))) (uI f18 r (((f18 (r - 1)) * (1000 - (LF ((a 11)) x 10))).tdiv 1000)) g19 _ _ _ ⟨(by omega), (LD_step (by omega) i2 (fun j hj => uI_n hj) (fun j hj => uI_n hj) (fun j hj => uI_n hj) o19 uI_s uI_s e19 (by first | (rw [uI_s (f := f17), if_pos (by rw [uI_s]; exact c159)]; done) | (rw [uI_s (f := f17), if_neg (by rw [uI_s]; exact c159)]; done))), hW, (lv_sub hl [0, 1, 2, 3] rfl)⟩ (by omega)
    · intro J1
      refine lv_aload_n hx hb dX11_laysRents_110 rfl (lv_at hl 1 rfl) ?_
      refine z_get (v := .ref (q 19)) hx hb hts hiX11_laysRents_X11 hown hW 0 19 3 rfl rfl rfl (by decide) rfl dX11_laysRents_111 ?_
      refine lv_iload_n hx hb dX11_laysRents_114 rfl (lv_at hl 0 rfl) ?_
      refine z_lald (f := uI f19 r (((f19 (r - 1)) * (1000 + (LF ((a 11)) x 11))).tdiv 1000)) (i := r) hx hb hW 8 1 rfl rfl (by decide) ⟨by omega, by omega⟩ dX11_laysRents_115 ?_
      rw [uI_s (f := f19) (i := r) (z := ((f19 (r - 1)) * (1000 + (LF ((a 11)) x 11))).tdiv 1000)]
      refine z_ldc2 hx hb (999999) hown (hts _ (List.mem_of_getElem? (i := 5) rfl)) (by decide +kernel) dX11_laysRents_116 ?_
      refine z_lcmp_le (tgt := 132) hx hb dX11_laysRents_119 dX11_laysRents_120 (by decide) ⟨by omega, by omega⟩ (by decide) (fun c119 => ?_) (fun c119 => ?_)
      · exact J1 (uI f19 r (((f19 (r - 1)) * (1000 + (LF ((a 11)) x 11))).tdiv 1000)) _ _ _ ⟨(fun j hj => by first | rw [uI_n hj, uI_n hj] | rw [uI_n hj]), (by rw [uI_s]; first | exact (if_pos (by omega)).symm | exact (if_neg (by omega)).symm), (by rw [uI_s]; omega), hW, (lv_sub hl [0, 1, 2, 3] rfl)⟩
      · refine lv_aload_n hx hb dX11_laysRents_123 rfl (lv_at hl 1 rfl) ?_
        refine z_get (v := .ref (q 19)) hx hb hts hiX11_laysRents_X11 hown hW 0 19 3 rfl rfl rfl (by decide) rfl dX11_laysRents_124 ?_
        refine lv_iload_n hx hb dX11_laysRents_127 rfl (lv_at hl 0 rfl) ?_
        refine z_ldc2 hx hb (999999) hown (hts _ (List.mem_of_getElem? (i := 5) rfl)) (by decide +kernel) dX11_laysRents_128 ?_
        refine z_last (f := uI f19 r (((f19 (r - 1)) * (1000 + (LF ((a 11)) x 11))).tdiv 1000)) (i := r) (z := 999999) hx hb hW 8 1 rfl rfl (by decide) ⟨by omega, by omega⟩ dX11_laysRents_131 (fun H locs hW => ?_)
        have hW : zW G (tyZ cI cJ cO) A s (mW cI cJ h q v (uA (uA (uA (uA a 16 f16) 17 f17) 18 (uI f18 r (((f18 (r - 1)) * (1000 - (LF ((a 11)) x 10))).tdiv 1000))) 19 (uI (uI f19 r (((f19 (r - 1)) * (1000 + (LF ((a 11)) x 11))).tdiv 1000)) r 999999))) H locs := hW
        exact J1 (uI (uI f19 r (((f19 (r - 1)) * (1000 + (LF ((a 11)) x 11))).tdiv 1000)) r 999999) _ _ _ ⟨(fun j hj => by first | rw [uI_n hj, uI_n hj] | rw [uI_n hj]), (by rw [uI_s]; first | exact (if_pos (by omega)).symm | exact (if_neg (by omega)).symm), (by rw [uI_s]; omega), hW, (lv_sub hl [0, 1, 2, 3] rfl)⟩
theorem hiX11_rentLaid_X11 : ∀ w ∈ wsX110, w ∈ wsX11_rentLaid := fun _ h => List.mem_cons_of_mem _ (List.mem_append_right _ h)
theorem ziX11_rentLaid : yX11_rentLaid.cls = RX11 ∧ yX11_rentLaid.cls ≠ "java/lang/invoke/MethodHandle" ∧ yX11_rentLaid.cls ≠ "java/lang/invoke/VarHandle" ∧ (parseMethodDescriptor yX11_rentLaid.desc).map (fun d => d.parameters.length) = some 2 := by decide +kernel
set_option maxHeartbeats 4000000 in
set_option maxRecDepth 100000 in
theorem c_rentLaid {l : Launch} {G : va_G} {cI cJ cO : ClassId} (h : Nat) (q : Nat → Nat) (v : Nat → Int) (a : Nat → Int → Int) (x y : Int)  (hx6 : 0 ≤ x ∧ x < 6) (h2 : LF (a 11) x 0 ≤ y ∧ y ≤ LF (a 11) x 0 + 239) (hL : WFl (a 11) x) : zC l yX11_rentLaid wsX11_rentLaid { frames := 2, cells := 0, slots := 0, locals := 43 } G (tyZ cI cJ cO) (S := Unit) [.ref h, .int (iI x), .int (iI y)] (mW cI cJ h q v a) (zI (fun _ => a 17 (RVW (a 11) x y))) (fun _ => True) (fun _ => mW cI cJ h q v a) 0 0 := by
  refine z_start (cc := cX11_rentLaid) (maxL := 4) (ret := (some .int)) (by decide) rfl (Nat.le_of_ble_eq_true rfl) ?_
  intro p e s m below meth c A ls F hr hlk hnm hAe hA hW hl
  have hx := F.1
  have hb := F.2.1
  have hown : s.vm.findClass RX11 = some m.cls := F.2.2.2.1
  have hts := F.2.2.2.2
  have hl : lv_has ls 4 [(0, .ref h), (1, .int (iI x)), (2, .int (iI y))] := hl
  obtain ⟨l0, l1, l2, l3, l4, l5, l6, l7, l8, l9, l10, l11, l12, l13, l14, l15⟩ := id hL
  have hR := REV_R hL
  have hv := RVW_R hL h2.1 h2.2
  refine lv_iload_n hx hb dX11_rentLaid_0 rfl (lv_at hl 2 rfl) ?_
  refine lv_aload_n hx hb dX11_rentLaid_1 rfl (lv_at hl 0 rfl) ?_
  refine lv_iload_n hx hb dX11_rentLaid_2 rfl (lv_at hl 1 rfl) ?_
  refine z_iconst (n := 0) hx hb dX11_rentLaid_3 ?_
  refine z_callV (As := [.int (iI x), .int (iI 0)]) (rest := [.int (iI y)]) F (c_its h q v a x 0  (show 0 ≤ 483 + 500 * x + 0 ∧ 483 + 500 * x + 0 < 3483 by omega)) gX11_rentLaid_X11_its rfl ziX11_its ⟨rfl, rfl, by decide, by decide⟩ rfl hl.1 rfl (Nat.le_of_ble_eq_true rfl) dX11_rentLaid_4 ⟨Nat.zero_le _, Nat.zero_le _⟩ hW hA [0, 1, 2, 3, 4, 5, 6, 7, 8, 9, 10] rfl (by decide) (fun _ => rfl) (fun _ => mW cI cJ h q v a) (fun _ => rfl) (fun _ => [.int (iI (LF ((a 11)) x 0)), .int (iI y)]) (fun _ => rfl) 0 rfl rfl rfl (fun _ H locs hp4 hW => ?_)
  refine z_isub hx hb dX11_rentLaid_7 ?_
  refine lv_aload_n hx hb dX11_rentLaid_8 rfl (lv_at hl 0 rfl) ?_
  refine lv_iload_n hx hb dX11_rentLaid_9 rfl (lv_at hl 1 rfl) ?_
  refine z_iconst (n := 3) hx hb dX11_rentLaid_10 ?_
  refine z_callV (As := [.int (iI x), .int (iI 3)]) (rest := [.int (iI (y - (LF ((a 11)) x 0)))]) F (c_its h q v a x 3  (show 0 ≤ 483 + 500 * x + 3 ∧ 483 + 500 * x + 3 < 3483 by omega)) gX11_rentLaid_X11_its rfl ziX11_its ⟨rfl, rfl, by decide, by decide⟩ rfl hl.1 rfl (Nat.le_of_ble_eq_true rfl) dX11_rentLaid_11 ⟨Nat.zero_le _, Nat.zero_le _⟩ hW hA [0, 1, 2, 3, 4, 5, 6, 7, 8, 9, 10] rfl (by decide) (fun _ => rfl) (fun _ => mW cI cJ h q v a) (fun _ => rfl) (fun _ => [.int (iI (LF ((a 11)) x 3)), .int (iI (y - (LF ((a 11)) x 0)))]) (fun _ => rfl) 0 rfl rfl rfl (fun _ H locs hp11 hW => ?_)
  refine z_idiv hx hb dX11_rentLaid_14 ⟨by omega, by omega⟩ ⟨by omega, by omega⟩ (by omega) (by omega) ?_
  refine lv_istore_n (lv' := [(3, .int (iI ((y - (LF ((a 11)) x 0)).tdiv (LF ((a 11)) x 3)))), (0, .ref h), (1, .int (iI x)), (2, .int (iI y))]) hx hb dX11_rentLaid_15 rfl hl (by decide) rfl (fun ls hl => ?_)
  refine lv_aload_n hx hb dX11_rentLaid_16 rfl (lv_at hl 1 rfl) ?_
  refine z_get (v := .ref (q 17)) hx hb hts hiX11_rentLaid_X11 hown hW 0 17 1 rfl rfl rfl (by decide) rfl dX11_rentLaid_17 ?_
  refine lv_iload_n hx hb dX11_rentLaid_20 rfl (lv_at hl 0 rfl) ?_
  refine lv_aload_n hx hb dX11_rentLaid_21 rfl (lv_at hl 1 rfl) ?_
  refine lv_iload_n hx hb dX11_rentLaid_22 rfl (lv_at hl 2 rfl) ?_
  refine z_callV (As := [.int (iI x)]) (rest := [.int (iI ((y - (LF ((a 11)) x 0)).tdiv (LF ((a 11)) x 3))), .ref (q 17)]) F (c_reviewsOf h q v a x  (show 0 ≤ x ∧ x < 6 by omega) (show 0 ≤ LF ((a 11)) x 5 ∧ LF ((a 11)) x 5 ≤ 4 by omega) (show 1 ≤ LF ((a 11)) x 1 ∧ LF ((a 11)) x 1 ≤ 120 by omega) (show 1 ≤ LF ((a 11)) x 3 ∧ LF ((a 11)) x 3 ≤ 60 by omega)) gX11_rentLaid_X11_reviewsOf rfl ziX11_reviewsOf ⟨rfl, rfl, by decide, by decide⟩ rfl hl.1 rfl (Nat.le_of_ble_eq_true rfl) dX11_rentLaid_23 ⟨Nat.zero_le _, Nat.zero_le _⟩ hW hA [0, 1, 2, 3, 4, 5, 6, 7, 8, 9, 10] rfl (by decide) (fun _ => rfl) (fun _ => mW cI cJ h q v a) (fun _ => rfl) (fun _ => [.int (iI (REV ((a 11)) x)), .int (iI ((y - (LF ((a 11)) x 0)).tdiv (LF ((a 11)) x 3))), .ref (q 17)]) (fun _ => rfl) 0 rfl rfl rfl (fun _ H locs hp23 hW => ?_)
  refine z_icmp_le (tgt := 37) hx hb dX11_rentLaid_26 (by decide) ⟨by omega, by omega⟩ ⟨by omega, by omega⟩ (fun c26 => ?_) (fun c26 => ?_)
  · refine lv_iload_n hx hb dX11_rentLaid_37 rfl (lv_at hl 0 rfl) ?_
    refine z_lald (f := a 17) (i := (y - (LF ((a 11)) x 0)).tdiv (LF ((a 11)) x 3)) hx hb hW 6 1 rfl rfl (by decide) ⟨by omega, by omega⟩ dX11_rentLaid_38 ?_
    refine z_l2i hx hb dX11_rentLaid_39 ?_
    exact z_iret hx hb hr hlk hW () (by unfold RVW; first | rw [if_pos (by omega)] | rw [if_neg (by omega)]) trivial rfl dX11_rentLaid_40
  · refine lv_aload_n hx hb dX11_rentLaid_29 rfl (lv_at hl 1 rfl) ?_
    refine lv_iload_n hx hb dX11_rentLaid_30 rfl (lv_at hl 2 rfl) ?_
    refine z_callV (As := [.int (iI x)]) (rest := [.ref (q 17)]) F (c_reviewsOf h q v a x  (show 0 ≤ x ∧ x < 6 by omega) (show 0 ≤ LF ((a 11)) x 5 ∧ LF ((a 11)) x 5 ≤ 4 by omega) (show 1 ≤ LF ((a 11)) x 1 ∧ LF ((a 11)) x 1 ≤ 120 by omega) (show 1 ≤ LF ((a 11)) x 3 ∧ LF ((a 11)) x 3 ≤ 60 by omega)) gX11_rentLaid_X11_reviewsOf rfl ziX11_reviewsOf ⟨rfl, rfl, by decide, by decide⟩ rfl hl.1 rfl (Nat.le_of_ble_eq_true rfl) dX11_rentLaid_31 ⟨Nat.zero_le _, Nat.zero_le _⟩ hW hA [0, 1, 2, 3, 4, 5, 6, 7, 8, 9, 10] rfl (by decide) (fun _ => rfl) (fun _ => mW cI cJ h q v a) (fun _ => rfl) (fun _ => [.int (iI (REV ((a 11)) x)), .ref (q 17)]) (fun _ => rfl) 0 rfl rfl rfl (fun _ H locs hp31 hW => ?_)
    refine lv_goto (tgt := 38) hx hb dX11_rentLaid_34 (by decide) ?_
    refine z_lald (f := a 17) (i := REV ((a 11)) x) hx hb hW 6 1 rfl rfl (by decide) ⟨by omega, by omega⟩ dX11_rentLaid_38 ?_
    refine z_l2i hx hb dX11_rentLaid_39 ?_
    exact z_iret hx hb hr hlk hW () (by unfold RVW; first | rw [if_pos (by omega)] | rw [if_neg (by omega)]) trivial rfl dX11_rentLaid_40
theorem hiX11_dueLaid_X11 : ∀ w ∈ wsX110, w ∈ wsX11_dueLaid := fun _ h => List.mem_cons_of_mem _ (List.mem_append_right _ h)
theorem ziX11_dueLaid : yX11_dueLaid.cls = RX11 ∧ yX11_dueLaid.cls ≠ "java/lang/invoke/MethodHandle" ∧ yX11_dueLaid.cls ≠ "java/lang/invoke/VarHandle" ∧ (parseMethodDescriptor yX11_dueLaid.desc).map (fun d => d.parameters.length) = some 2 := by decide +kernel
set_option maxHeartbeats 4000000 in
set_option maxRecDepth 100000 in
theorem c_dueLaid {l : Launch} {G : va_G} {cI cJ cO : ClassId} (h : Nat) (q : Nat → Nat) (v : Nat → Int) (a : Nat → Int → Int) (x y : Int) (k : Int) (hx6 : 0 ≤ x ∧ x < 6) (h2 : LF (a 11) x 0 ≤ y ∧ y ≤ LF (a 11) x 0 + 239) (hL : WFl (a 11) x) (hD : ∀ r : Int, 0 ≤ r → r ≤ REV (a 11) x → a 17 r = RNT (a 11) x k r.toNat) : zC l yX11_dueLaid wsX11_dueLaid { frames := 3, cells := 0, slots := 0, locals := 66 } G (tyZ cI cJ cO) (S := Unit) [.ref h, .int (iI x), .int (iI y)] (mW cI cJ h q v a) (zI (fun _ => DUE (a 11) x k y)) (fun _ => True) (fun _ => mW cI cJ h q v a) 0 0 := by
  refine z_start (cc := cX11_dueLaid) (maxL := 3) (ret := (some .int)) (by decide) rfl (Nat.le_of_ble_eq_true rfl) ?_
  intro p e s m below meth c A ls F hr hlk hnm hAe hA hW hl
  have hx := F.1
  have hb := F.2.1
  have hown : s.vm.findClass RX11 = some m.cls := F.2.2.2.1
  have hts := F.2.2.2.2
  have hl : lv_has ls 3 [(0, .ref h), (1, .int (iI x)), (2, .int (iI y))] := hl
  obtain ⟨l0, l1, l2, l3, l4, l5, l6, l7, l8, l9, l10, l11, l12, l13, l14, l15⟩ := id hL
  have hv := RVW_R hL h2.1 h2.2
  refine lv_iload_n hx hb dX11_dueLaid_0 rfl (lv_at hl 2 rfl) ?_
  refine lv_aload_n hx hb dX11_dueLaid_1 rfl (lv_at hl 0 rfl) ?_
  refine lv_iload_n hx hb dX11_dueLaid_2 rfl (lv_at hl 1 rfl) ?_
  refine z_iconst (n := 0) hx hb dX11_dueLaid_3 ?_
  refine z_callV (As := [.int (iI x), .int (iI 0)]) (rest := [.int (iI y)]) F (c_its h q v a x 0  (show 0 ≤ 483 + 500 * x + 0 ∧ 483 + 500 * x + 0 < 3483 by omega)) gX11_dueLaid_X11_its rfl ziX11_its ⟨rfl, rfl, by decide, by decide⟩ rfl hl.1 rfl (Nat.le_of_ble_eq_true rfl) dX11_dueLaid_4 ⟨Nat.zero_le _, Nat.zero_le _⟩ hW hA [0, 1, 2, 3, 4, 5, 6, 7, 8, 9, 10] rfl (by decide) (fun _ => rfl) (fun _ => mW cI cJ h q v a) (fun _ => rfl) (fun _ => [.int (iI (LF ((a 11)) x 0)), .int (iI y)]) (fun _ => rfl) 0 rfl rfl rfl (fun _ H locs hp4 hW => ?_)
  refine lv_aload_n hx hb dX11_dueLaid_7 rfl (lv_at hl 0 rfl) ?_
  refine lv_iload_n hx hb dX11_dueLaid_8 rfl (lv_at hl 1 rfl) ?_
  refine z_iconst (n := 4) hx hb dX11_dueLaid_9 ?_
  refine z_callV (As := [.int (iI x), .int (iI 4)]) (rest := [.int (iI (LF ((a 11)) x 0)), .int (iI y)]) F (c_its h q v a x 4  (show 0 ≤ 483 + 500 * x + 4 ∧ 483 + 500 * x + 4 < 3483 by omega)) gX11_dueLaid_X11_its rfl ziX11_its ⟨rfl, rfl, by decide, by decide⟩ rfl hl.1 rfl (Nat.le_of_ble_eq_true rfl) dX11_dueLaid_10 ⟨Nat.zero_le _, Nat.zero_le _⟩ hW hA [0, 1, 2, 3, 4, 5, 6, 7, 8, 9, 10] rfl (by decide) (fun _ => rfl) (fun _ => mW cI cJ h q v a) (fun _ => rfl) (fun _ => [.int (iI (LF ((a 11)) x 4)), .int (iI (LF ((a 11)) x 0)), .int (iI y)]) (fun _ => rfl) 0 rfl rfl rfl (fun _ H locs hp10 hW => ?_)
  refine z_iadd hx hb dX11_dueLaid_13 ?_
  refine z_icmp_ge (tgt := 21) hx hb dX11_dueLaid_14 (by decide) ⟨by omega, by omega⟩ ⟨by omega, by omega⟩ (fun c14 => ?_) (fun c14 => ?_)
  · refine lv_aload_n hx hb dX11_dueLaid_21 rfl (lv_at hl 0 rfl) ?_
    refine lv_iload_n hx hb dX11_dueLaid_22 rfl (lv_at hl 1 rfl) ?_
    refine lv_iload_n hx hb dX11_dueLaid_23 rfl (lv_at hl 2 rfl) ?_
    refine z_callV (As := [.int (iI x), .int (iI y)]) (rest := []) F (c_rentLaid h q v a x y  (show 0 ≤ x ∧ x < 6 by omega) (show LF ((a 11)) x 0 ≤ y ∧ y ≤ LF ((a 11)) x 0 + 239 by omega) hL) gX11_dueLaid_X11_rentLaid rfl ziX11_rentLaid ⟨rfl, rfl, by decide, by decide⟩ rfl hl.1 rfl (Nat.le_of_ble_eq_true rfl) dX11_dueLaid_24 ⟨Nat.zero_le _, Nat.zero_le _⟩ hW hA [0, 1, 2, 3, 4, 5, 6, 7, 8, 9, 10] rfl (by decide) (fun _ => rfl) (fun _ => mW cI cJ h q v a) (fun _ => rfl) (fun _ => [.int (iI ((a 17) (RVW ((a 11)) x y)))]) (fun _ => rfl) 0 rfl rfl rfl (fun _ H locs hp24 hW => ?_)
    exact z_iret hx hb hr hlk hW () (by unfold DUE; first | exact if_pos (by omega) | (rw [if_neg (by omega)]; exact (hD _ hv.1 hv.2.1).symm)) trivial rfl dX11_dueLaid_27
  · refine z_iconst (n := 0) hx hb dX11_dueLaid_17 ?_
    refine lv_goto (tgt := 27) hx hb dX11_dueLaid_18 (by decide) ?_
    exact z_iret hx hb hr hlk hW () (by unfold DUE; first | exact if_pos (by omega) | (rw [if_neg (by omega)]; exact (hD _ hv.1 hv.2.1).symm)) trivial rfl dX11_dueLaid_27
