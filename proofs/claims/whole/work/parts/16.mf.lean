/-! the model: spreads, acts -/
theorem LF_uI {N : Int → Int} {i z x w : Int} (h : 483 + 500 * x + w ≠ i) : LF (uI N i z) x w = LF N x w := uI_n h
def WHY (N : Int → Int) (y z : Int) : Int := if (0 ≤ y ∧ y ≤ 239) ∧ (1 ≤ z ∧ z ≤ 9999) ∧ ¬ 0 < N (3 + y) then (if CNTV N 240 = 40 then -2 else 0) else -1
def PUB (N : Int → Int) (y z : Int) : Int → Int := uI (uI N (3 + y) z) (243 + y) (N 0)
def A_publish (N : Int → Int) (y z : Int) : Int := if WHY N y z < 0 then WHY N y z else CNTV (PUB N y z) 240
def A_would (N : Int → Int) (x y z : Int) : Int := if isO N x (N 0) then (if WHY N y z < 0 then WHY N y z else RNTm (PUB N y z) x (N 0) (N 0)) else -1
abbrev okM (N : Int → Int) (x r z : Int) : Prop := (0 ≤ x ∧ x ≤ N 2 - 1) ∧ LF N x 5 = 2 ∧ (1 ≤ r ∧ r ≤ REV N x) ∧ (1 ≤ z ∧ z ≤ 99999) ∧ ¬ 0 < LF N x (20 + r)
def MKT (N : Int → Int) (x r z : Int) : Int → Int := uI (uI N (483 + 500 * x + 20 + r) z) (483 + 500 * x + 140 + r) (N 0)
abbrev okT (N : Int → Int) (x y z : Int) : Prop := isO N x y ∧ LF N x 5 = 3 ∧ (0 ≤ z ∧ z ≤ 999999) ∧ ¬ 0 < LF N x (260 + y - LF N x 0)
def TRN (N : Int → Int) (x y z : Int) : Int → Int := uI (uI N (483 + 500 * x + 260 + y - LF N x 0) (z + 1)) (483 + 500 * x + 380 + y - LF N x 0) (N 0)
abbrev okB (N : Int → Int) (x : Int) : Prop := (0 ≤ x ∧ x ≤ N 2 - 1) ∧ zand (LF N x 7) 16 ≠ 0 ∧ N 0 < LF N x 12 ∧ ¬ 0 < LF N x 13
def BRK (N : Int → Int) (x : Int) : Int → Int := uI N (483 + 500 * x + 13) (N 0 + 1)
abbrev okA (N : Int → Int) (z : Int) : Prop := (1 ≤ z ∧ z ≤ 99) ∧ N 0 + z < 240
def PAS (N : Int → Int) (z : Int) : Int → Int := uI N 0 (N 0 + z)
/-- what the row of the past holds behind one more act -/
def SNP (S N : Int → Int) (c : Int) : Int → Int := fun j => if c = 10 then (if j < 31347 then S (j + 3483) else N (j - 31347)) else (if 3483 * c ≤ j ∧ j < 3483 * c + 3483 then N (j - 3483 * c) else S j)
def SNAPPED (S N : Int → Int) (c : Int) (f : Int → Int) (c2 : Int) : Prop := c2 = (if c = 10 then 10 else c + 1) ∧ ∀ j : Int, 0 ≤ j → j < 34830 → f j = SNP S N c j
def LAY (T : Int → Int) (t w : Int) : Int → Int := uI (uI (uI (uI T t (zand (zushr w 24) 255)) (t + 1) (zand (zushr w 16) 255)) (t + 1 + 1) (zand (zushr w 8) 255)) (t + 1 + 1 + 1) (zand (zushr w 0) 255)
theorem CNTV_R {N : Int → Int} : ∀ n : Nat, 0 ≤ CNTV N n ∧ CNTV N n ≤ n := by
  intro n
  induction n with
  | zero => show 0 ≤ (0 : Int) ∧ (0 : Int) ≤ _; omega
  | succ n ih =>
    show 0 ≤ CNTV N n + bI (0 < N (3 + (n : Int))) ∧ CNTV N n + bI (0 < N (3 + (n : Int))) ≤ ((n + 1 : Nat) : Int)
    unfold bI
    split <;> omega
theorem PUB_WF {N : Int → Int} {y z : Int} (h : WF N) (hy : 0 ≤ y ∧ y ≤ 239) (hz : 1 ≤ z ∧ z ≤ 9999) : WF (PUB N y z) := by
  obtain ⟨w0, w1, w2, hV, hls⟩ := h
  have e0 : PUB N y z 0 = N 0 := by unfold PUB; rw [uI_n (by omega), uI_n (by omega)]
  have e1 : PUB N y z 1 = N 1 := by unfold PUB; rw [uI_n (by omega), uI_n (by omega)]
  have e2 : PUB N y z 2 = N 2 := by unfold PUB; rw [uI_n (by omega), uI_n (by omega)]
  have eL : ∀ x w : Int, 0 ≤ x → 0 ≤ w → LF (PUB N y z) x w = LF N x w := by
    intro x w hx hw
    unfold PUB
    rw [LF_uI (by omega), LF_uI (by omega)]
  refine ⟨by rw [e0]; exact w0, by rw [e1]; exact w1, by rw [e2]; exact w2, fun m m0 m1 => ?_, fun x x0 x1 => ?_⟩
  · have hv := hV m m0 m1
    have hv2 := hV y hy.1 hy.2
    unfold PUB
    rw [uI_n (show 3 + m ≠ 243 + y by omega)]
    by_cases hm : m = y
    · subst hm
      rw [uI_s, uI_s]
      omega
    · rw [uI_n (show 3 + m ≠ 3 + y by omega), uI_n (show 243 + m ≠ 243 + y by omega), uI_n (show 243 + m ≠ 3 + y by omega)]
      exact hv
  · rw [e2] at x1
    obtain ⟨hL, hT⟩ := hls x x0 x1
    refine ⟨?_, fun i i0 i1 => ?_⟩
    · unfold WFl
      simp only [eL x 0 x0 (by decide), eL x 1 x0 (by decide), eL x 2 x0 (by decide), eL x 3 x0 (by decide), eL x 4 x0 (by decide), eL x 5 x0 (by decide), eL x 6 x0 (by decide), eL x 7 x0 (by decide), eL x 8 x0 (by decide), eL x 9 x0 (by decide), eL x 10 x0 (by decide), eL x 11 x0 (by decide), eL x 12 x0 (by decide), eL x 13 x0 (by decide)]
      exact hL
    · rw [eL x _ x0 (by omega), eL x _ x0 (by omega), eL x _ x0 (by omega), eL x _ x0 (by omega)]
      exact hT i i0 i1
theorem hiX11_lays_X11 : ∀ w ∈ wsX110, w ∈ wsX11_lays := fun _ h => List.mem_cons_of_mem _ (List.mem_append_right _ h)
theorem ziX11_lays : yX11_lays.cls = RX11 ∧ yX11_lays.cls ≠ "java/lang/invoke/MethodHandle" ∧ yX11_lays.cls ≠ "java/lang/invoke/VarHandle" ∧ (parseMethodDescriptor yX11_lays.desc).map (fun d => d.parameters.length) = some 1 := by decide +kernel
set_option maxHeartbeats 4000000 in
set_option maxRecDepth 100000 in
theorem c_lays {l : Launch} {G : va_G} {cI cJ cO : ClassId} (h : Nat) (q : Nat → Nat) (v : Nat → Int) (a : Nat → Int → Int) (w : Int)  (h1 : 0 ≤ v 2 ∧ v 2 + 4 ≤ 640) : zC l yX11_lays wsX11_lays { frames := 0, cells := 0, slots := 0, locals := 0 } G (tyZ cI cJ cO) (S := (Int → Int)) [.ref h, .int (iI w)] (mW cI cJ h q v a) (zN) (fun u => u = LAY (a 1) (v 2) w) (fun u => mW cI cJ h q (uV v 2 (v 2 + 1 + 1 + 1 + 1)) (uA a 1 u)) 0 0 := by
  refine z_start (cc := cX11_lays) (maxL := 3) (ret := none) (by decide) rfl (Nat.le_of_ble_eq_true rfl) ?_
  intro p e s m below meth c A ls F hr hlk hnm hAe hA hW hl
  have hx := F.1
  have hb := F.2.1
  have hown : s.vm.findClass RX11 = some m.cls := F.2.2.2.1
  have hts := F.2.2.2.2
  have hl : lv_has ls 3 [(0, .ref h), (1, .int (iI w))] := hl
  refine z_bipush hx hb dX11_lays_0 (by decide +kernel) ?_
  refine lv_istore_n (lv' := [(2, .int (iI 24)), (0, .ref h), (1, .int (iI w))]) hx hb dX11_lays_2 rfl hl (by decide) rfl (fun ls hl => ?_)
  refine lv_iload_n hx hb dX11_lays_3 rfl (lv_at hl 0 rfl) ?_
  refine z_if_lt (tgt := 39) hx hb dX11_lays_4 (by decide) (by decide) (fun c4 => ?_) (fun c4 => ?_)
  · exfalso; omega
  · refine lv_aload_n hx hb dX11_lays_7 rfl (lv_at hl 1 rfl) ?_
    refine z_get (v := .ref (q 1)) hx hb hts hiX11_lays_X11 hown hW 0 1 1 rfl rfl rfl (by decide) rfl dX11_lays_8 ?_
    refine lv_aload_n hx hb dX11_lays_11 rfl (lv_at hl 1 rfl) ?_
    refine z_get (v := .int (iI (v 2))) hx hb hts hiX11_lays_X11 hown hW 0 2 2 rfl rfl rfl (by decide) rfl dX11_lays_12 ?_
    refine lv_iload_n hx hb dX11_lays_15 rfl (lv_at hl 2 rfl) ?_
    refine lv_iload_n hx hb dX11_lays_16 rfl (lv_at hl 0 rfl) ?_
    refine z_iushr hx hb dX11_lays_17 ?_
    refine z_sipush hx hb dX11_lays_18 (by decide +kernel) ?_
    refine z_iand hx hb dX11_lays_21 ?_
    refine z_name (fun b1 eb1 => ?_)
    refine z_iast (f := a 1) (i := v 2) (z := b1) hx hb hW 1 0 rfl rfl (by decide) ⟨by omega, by omega⟩ dX11_lays_22 (fun H locs hW => ?_)
    have hW : zW G (tyZ cI cJ cO) A s (mW cI cJ h q v (uA a 1 (uI (a 1) (v 2) b1))) H locs := hW
    refine lv_aload_n hx hb dX11_lays_23 rfl (lv_at hl 1 rfl) ?_
    refine lv_dup hx hb dX11_lays_24 rfl ?_
    refine z_get (v := .int (iI (v 2))) hx hb hts hiX11_lays_X11 hown hW 0 2 2 rfl rfl rfl (by decide) rfl dX11_lays_25 ?_
    refine z_iconst (n := 1) hx hb dX11_lays_28 ?_
    refine z_iadd hx hb dX11_lays_29 ?_
    refine z_put hx hb hts hiX11_lays_X11 tyX11 tyX11_ok nmX11 hown hW 0 2 2 rfl rfl (by decide) (Nat.le_of_ble_eq_true rfl) rfl rfl rfl rfl dX11_lays_30 (fun H locs hW => ?_)
    have hW : zW G (tyZ cI cJ cO) A s (mW cI cJ h q (uV v 2 ((v 2) + 1)) (uA a 1 (uI (a 1) (v 2) b1))) H locs := hW
    refine z_iinc (k := 0) (lv' := [(2, .int (iI 16)), (0, .ref h), (1, .int (iI w))]) hx hb dX11_lays_33 hl rfl (by decide) rfl (fun ls hl => ?_)
    refine lv_goto (tgt := 3) hx hb dX11_lays_36 (by decide) ?_
    refine lv_iload_n hx hb dX11_lays_3 rfl (lv_at hl 0 rfl) ?_
    refine z_if_lt (tgt := 39) hx hb dX11_lays_4 (by decide) (by decide) (fun c4 => ?_) (fun c4 => ?_)
    · exfalso; omega
    · refine lv_aload_n hx hb dX11_lays_7 rfl (lv_at hl 1 rfl) ?_
      refine z_get (v := .ref (q 1)) hx hb hts hiX11_lays_X11 hown hW 0 1 1 rfl rfl rfl (by decide) rfl dX11_lays_8 ?_
      refine lv_aload_n hx hb dX11_lays_11 rfl (lv_at hl 1 rfl) ?_
      refine z_get (v := .int (iI ((v 2) + 1))) hx hb hts hiX11_lays_X11 hown hW 0 2 2 rfl rfl rfl (by decide) rfl dX11_lays_12 ?_
      refine lv_iload_n hx hb dX11_lays_15 rfl (lv_at hl 2 rfl) ?_
      refine lv_iload_n hx hb dX11_lays_16 rfl (lv_at hl 0 rfl) ?_
      refine z_iushr hx hb dX11_lays_17 ?_
      refine z_sipush hx hb dX11_lays_18 (by decide +kernel) ?_
      refine z_iand hx hb dX11_lays_21 ?_
      refine z_name (fun b2 eb2 => ?_)
      refine z_iast (f := uI (a 1) (v 2) b1) (i := (v 2) + 1) (z := b2) hx hb hW 1 0 rfl rfl (by decide) ⟨by omega, by omega⟩ dX11_lays_22 (fun H locs hW => ?_)
      have hW : zW G (tyZ cI cJ cO) A s (mW cI cJ h q (uV v 2 ((v 2) + 1)) (uA a 1 (uI (uI (a 1) (v 2) b1) ((v 2) + 1) b2))) H locs := hW
      refine lv_aload_n hx hb dX11_lays_23 rfl (lv_at hl 1 rfl) ?_
      refine lv_dup hx hb dX11_lays_24 rfl ?_
      refine z_get (v := .int (iI ((v 2) + 1))) hx hb hts hiX11_lays_X11 hown hW 0 2 2 rfl rfl rfl (by decide) rfl dX11_lays_25 ?_
      refine z_iconst (n := 1) hx hb dX11_lays_28 ?_
      refine z_iadd hx hb dX11_lays_29 ?_
      refine z_put hx hb hts hiX11_lays_X11 tyX11 tyX11_ok nmX11 hown hW 0 2 2 rfl rfl (by decide) (Nat.le_of_ble_eq_true rfl) rfl rfl rfl rfl dX11_lays_30 (fun H locs hW => ?_)
      have hW : zW G (tyZ cI cJ cO) A s (mW cI cJ h q (uV v 2 (((v 2) + 1) + 1)) (uA a 1 (uI (uI (a 1) (v 2) b1) ((v 2) + 1) b2))) H locs := hW
      refine z_iinc (k := 0) (lv' := [(2, .int (iI 8)), (0, .ref h), (1, .int (iI w))]) hx hb dX11_lays_33 hl rfl (by decide) rfl (fun ls hl => ?_)
      refine lv_goto (tgt := 3) hx hb dX11_lays_36 (by decide) ?_
      refine lv_iload_n hx hb dX11_lays_3 rfl (lv_at hl 0 rfl) ?_
      refine z_if_lt (tgt := 39) hx hb dX11_lays_4 (by decide) (by decide) (fun c4 => ?_) (fun c4 => ?_)
      · exfalso; omega
      · refine lv_aload_n hx hb dX11_lays_7 rfl (lv_at hl 1 rfl) ?_
        refine z_get (v := .ref (q 1)) hx hb hts hiX11_lays_X11 hown hW 0 1 1 rfl rfl rfl (by decide) rfl dX11_lays_8 ?_
        refine lv_aload_n hx hb dX11_lays_11 rfl (lv_at hl 1 rfl) ?_
        refine z_get (v := .int (iI (((v 2) + 1) + 1))) hx hb hts hiX11_lays_X11 hown hW 0 2 2 rfl rfl rfl (by decide) rfl dX11_lays_12 ?_
        refine lv_iload_n hx hb dX11_lays_15 rfl (lv_at hl 2 rfl) ?_
        refine lv_iload_n hx hb dX11_lays_16 rfl (lv_at hl 0 rfl) ?_
        refine z_iushr hx hb dX11_lays_17 ?_
        refine z_sipush hx hb dX11_lays_18 (by decide +kernel) ?_
        refine z_iand hx hb dX11_lays_21 ?_
        refine z_name (fun b3 eb3 => ?_)
        refine z_iast (f := uI (uI (a 1) (v 2) b1) ((v 2) + 1) b2) (i := ((v 2) + 1) + 1) (z := b3) hx hb hW 1 0 rfl rfl (by decide) ⟨by omega, by omega⟩ dX11_lays_22 (fun H locs hW => ?_)
        have hW : zW G (tyZ cI cJ cO) A s (mW cI cJ h q (uV v 2 (((v 2) + 1) + 1)) (uA a 1 (uI (uI (uI (a 1) (v 2) b1) ((v 2) + 1) b2) (((v 2) + 1) + 1) b3))) H locs := hW
        refine lv_aload_n hx hb dX11_lays_23 rfl (lv_at hl 1 rfl) ?_
        refine lv_dup hx hb dX11_lays_24 rfl ?_
        refine z_get (v := .int (iI (((v 2) + 1) + 1))) hx hb hts hiX11_lays_X11 hown hW 0 2 2 rfl rfl rfl (by decide) rfl dX11_lays_25 ?_
        refine z_iconst (n := 1) hx hb dX11_lays_28 ?_
        refine z_iadd hx hb dX11_lays_29 ?_
        refine z_put hx hb hts hiX11_lays_X11 tyX11 tyX11_ok nmX11 hown hW 0 2 2 rfl rfl (by decide) (Nat.le_of_ble_eq_true rfl) rfl rfl rfl rfl dX11_lays_30 (fun H locs hW => ?_)
        have hW : zW G (tyZ cI cJ cO) A s (mW cI cJ h q (uV v 2 ((((v 2) + 1) + 1) + 1)) (uA a 1 (uI (uI (uI (a 1) (v 2) b1) ((v 2) + 1) b2) (((v 2) + 1) + 1) b3))) H locs := hW
        refine z_iinc (k := 0) (lv' := [(2, .int (iI 0)), (0, .ref h), (1, .int (iI w))]) hx hb dX11_lays_33 hl rfl (by decide) rfl (fun ls hl => ?_)
        refine lv_goto (tgt := 3) hx hb dX11_lays_36 (by decide) ?_
        refine lv_iload_n hx hb dX11_lays_3 rfl (lv_at hl 0 rfl) ?_
        refine z_if_lt (tgt := 39) hx hb dX11_lays_4 (by decide) (by decide) (fun c4 => ?_) (fun c4 => ?_)
        · exfalso; omega
        · refine lv_aload_n hx hb dX11_lays_7 rfl (lv_at hl 1 rfl) ?_
          refine z_get (v := .ref (q 1)) hx hb hts hiX11_lays_X11 hown hW 0 1 1 rfl rfl rfl (by decide) rfl dX11_lays_8 ?_
          refine lv_aload_n hx hb dX11_lays_11 rfl (lv_at hl 1 rfl) ?_
          refine z_get (v := .int (iI ((((v 2) + 1) + 1) + 1))) hx hb hts hiX11_lays_X11 hown hW 0 2 2 rfl rfl rfl (by decide) rfl dX11_lays_12 ?_
          refine lv_iload_n hx hb dX11_lays_15 rfl (lv_at hl 2 rfl) ?_
          refine lv_iload_n hx hb dX11_lays_16 rfl (lv_at hl 0 rfl) ?_
          refine z_iushr hx hb dX11_lays_17 ?_
          refine z_sipush hx hb dX11_lays_18 (by decide +kernel) ?_
          refine z_iand hx hb dX11_lays_21 ?_
          refine z_name (fun b4 eb4 => ?_)
          refine z_iast (f := uI (uI (uI (a 1) (v 2) b1) ((v 2) + 1) b2) (((v 2) + 1) + 1) b3) (i := (((v 2) + 1) + 1) + 1) (z := b4) hx hb hW 1 0 rfl rfl (by decide) ⟨by omega, by omega⟩ dX11_lays_22 (fun H locs hW => ?_)
          have hW : zW G (tyZ cI cJ cO) A s (mW cI cJ h q (uV v 2 ((((v 2) + 1) + 1) + 1)) (uA a 1 (uI (uI (uI (uI (a 1) (v 2) b1) ((v 2) + 1) b2) (((v 2) + 1) + 1) b3) ((((v 2) + 1) + 1) + 1) b4))) H locs := hW
          refine lv_aload_n hx hb dX11_lays_23 rfl (lv_at hl 1 rfl) ?_
          refine lv_dup hx hb dX11_lays_24 rfl ?_
          refine z_get (v := .int (iI ((((v 2) + 1) + 1) + 1))) hx hb hts hiX11_lays_X11 hown hW 0 2 2 rfl rfl rfl (by decide) rfl dX11_lays_25 ?_
          refine z_iconst (n := 1) hx hb dX11_lays_28 ?_
          refine z_iadd hx hb dX11_lays_29 ?_
          refine z_put hx hb hts hiX11_lays_X11 tyX11 tyX11_ok nmX11 hown hW 0 2 2 rfl rfl (by decide) (Nat.le_of_ble_eq_true rfl) rfl rfl rfl rfl dX11_lays_30 (fun H locs hW => ?_)
          have hW : zW G (tyZ cI cJ cO) A s (mW cI cJ h q (uV v 2 (((((v 2) + 1) + 1) + 1) + 1)) (uA a 1 (uI (uI (uI (uI (a 1) (v 2) b1) ((v 2) + 1) b2) (((v 2) + 1) + 1) b3) ((((v 2) + 1) + 1) + 1) b4))) H locs := hW
          refine z_iinc (k := 0) (lv' := [(2, .int (iI (-8))), (0, .ref h), (1, .int (iI w))]) hx hb dX11_lays_33 hl rfl (by decide) rfl (fun ls hl => ?_)
          refine lv_goto (tgt := 3) hx hb dX11_lays_36 (by decide) ?_
          refine lv_iload_n hx hb dX11_lays_3 rfl (lv_at hl 0 rfl) ?_
          refine z_if_lt (tgt := 39) hx hb dX11_lays_4 (by decide) (by decide) (fun c4 => ?_) (fun c4 => ?_)
          · exact z_vret hx hb hr hlk hW (uI (uI (uI (uI (a 1) (v 2) b1) ((v 2) + 1) b2) (((v 2) + 1) + 1) b3) ((((v 2) + 1) + 1) + 1) b4) (by rw [eb1, eb2, eb3, eb4]; rfl) rfl dX11_lays_39
          · exfalso; omega
theorem hiX11_refuse_X11 : ∀ w ∈ wsX110, w ∈ wsX11_refuse := fun _ h => List.mem_cons_of_mem _ (List.mem_append_right _ h)
theorem ziX11_refuse : yX11_refuse.cls = RX11 ∧ yX11_refuse.cls ≠ "java/lang/invoke/MethodHandle" ∧ yX11_refuse.cls ≠ "java/lang/invoke/VarHandle" ∧ (parseMethodDescriptor yX11_refuse.desc).map (fun d => d.parameters.length) = some 0 := by decide +kernel
set_option maxHeartbeats 4000000 in
set_option maxRecDepth 100000 in
theorem c_refuse {l : Launch} {G : va_G} {cI cJ cO : ClassId} (h : Nat) (q : Nat → Nat) (v : Nat → Int) (a : Nat → Int → Int)    : zC l yX11_refuse wsX11_refuse { frames := 0, cells := 0, slots := 0, locals := 0 } G (tyZ cI cJ cO) (S := Unit) [.ref h] (mW cI cJ h q v a) (zI (fun _ => 0)) (fun _ => True) (fun _ => mW cI cJ h q (uV v 0 1) a) 0 0 := by
  refine z_start (cc := cX11_refuse) (maxL := 1) (ret := (some .int)) (by decide) rfl (Nat.le_of_ble_eq_true rfl) ?_
  intro p e s m below meth c A ls F hr hlk hnm hAe hA hW hl
  have hx := F.1
  have hb := F.2.1
  have hown : s.vm.findClass RX11 = some m.cls := F.2.2.2.1
  have hts := F.2.2.2.2
  have hl : lv_has ls 1 [(0, .ref h)] := hl
  refine lv_aload_n hx hb dX11_refuse_0 rfl (lv_at hl 0 rfl) ?_
  refine z_iconst (n := 1) hx hb dX11_refuse_1 ?_
  refine z_put hx hb hts hiX11_refuse_X11 tyX11 tyX11_ok nmX11 hown hW 0 0 1 rfl rfl (by decide) (Nat.le_of_ble_eq_true rfl) rfl rfl rfl rfl dX11_refuse_2 (fun H locs hW => ?_)
  have hW : zW G (tyZ cI cJ cO) A s (mW cI cJ h q (uV v 0 1) a) H locs := hW
  refine z_iconst (n := 0) hx hb dX11_refuse_5 ?_
  exact z_iret hx hb hr hlk hW () (by first | rfl | omega) trivial rfl dX11_refuse_6
theorem hiX11_lease_X11 : ∀ w ∈ wsX110, w ∈ wsX11_lease := fun _ h => List.mem_cons_of_mem _ (List.mem_append_right _ h)
theorem ziX11_lease : yX11_lease.cls = RX11 ∧ yX11_lease.cls ≠ "java/lang/invoke/MethodHandle" ∧ yX11_lease.cls ≠ "java/lang/invoke/VarHandle" ∧ (parseMethodDescriptor yX11_lease.desc).map (fun d => d.parameters.length) = some 2 := by decide +kernel
set_option maxHeartbeats 4000000 in
set_option maxRecDepth 100000 in
theorem c_lease {l : Launch} {G : va_G} {cI cJ cO : ClassId} (h : Nat) (q : Nat → Nat) (v : Nat → Int) (a : Nat → Int → Int) (x w : Int)  (h1 : -2147483648 ≤ x ∧ x < 2147483648) (h2 : -2147483648 ≤ w ∧ w < 2147483648) (hWF : WF (a 11)) : zC l yX11_lease wsX11_lease { frames := 3, cells := 0, slots := 0, locals := 65 } G (tyZ cI cJ cO) (S := Int) [.ref h, .int (iI x), .int (iI w)] (mW cI cJ h q v a) (zI (fun _ => if (0 ≤ x ∧ x ≤ a 11 2 - 1) ∧ (0 ≤ w ∧ w ≤ 7) then A_lease (a 11) x w else 0)) (fun u => u = if (0 ≤ x ∧ x ≤ a 11 2 - 1) ∧ (0 ≤ w ∧ w ≤ 7) then 0 else 1) (fun u => mW cI cJ h q (uV v 0 u) a) 0 0 := by
  refine z_start (cc := cX11_lease) (maxL := 3) (ret := (some .int)) (by decide) rfl (Nat.le_of_ble_eq_true rfl) ?_
  intro p e s m below meth c A ls F hr hlk hnm hAe hA hW hl
  have hx := F.1
  have hb := F.2.1
  have hown : s.vm.findClass RX11 = some m.cls := F.2.2.2.1
  have hts := F.2.2.2.2
  have hl : lv_has ls 3 [(0, .ref h), (1, .int (iI x)), (2, .int (iI w))] := hl
  obtain ⟨w0, w1, w2, hV, hls⟩ := id hWF
  refine lv_aload_n hx hb dX11_lease_0 rfl (lv_at hl 0 rfl) ?_
  refine z_iconst (n := 0) hx hb dX11_lease_1 ?_
  refine z_put hx hb hts hiX11_lease_X11 tyX11 tyX11_ok nmX11 hown hW 0 0 1 rfl rfl (by decide) (Nat.le_of_ble_eq_true rfl) rfl rfl rfl rfl dX11_lease_2 (fun H locs hW => ?_)
  have hW : zW G (tyZ cI cJ cO) A s (mW cI cJ h q (uV v 0 0) a) H locs := hW
  refine lv_aload_n hx hb dX11_lease_5 rfl (lv_at hl 0 rfl) ?_
  refine lv_iload_n hx hb dX11_lease_6 rfl (lv_at hl 1 rfl) ?_
  refine z_callV (As := [.int (iI x)]) (rest := []) F (c_isLease h q (uV v 0 0) a x  (show -2147483648 ≤ x ∧ x < 2147483648 by omega) (show 0 ≤ (a 11) 2 ∧ (a 11) 2 ≤ 6 by omega)) gX11_lease_X11_isLease rfl ziX11_isLease ⟨rfl, rfl, by decide, by decide⟩ rfl hl.1 rfl (Nat.le_of_ble_eq_true rfl) dX11_lease_7 ⟨Nat.zero_le _, Nat.zero_le _⟩ hW hA [0, 1, 2, 3, 4, 5, 6, 7, 8, 9, 10] rfl (by decide) (fun _ => rfl) (fun _ => mW cI cJ h q (uV v 0 0) a) (fun _ => rfl) (fun _ => [.int (iI (bI (0 ≤ x ∧ x ≤ (a 11) 2 - 1)))]) (fun _ => rfl) 0 rfl rfl rfl (fun _ H locs hp7 hW => ?_)
  refine z_b_eq (tgt := 23) hx hb dX11_lease_10 (by decide) (fun c10 => ?_) (fun c10 => ?_)
  · refine lv_aload_n hx hb dX11_lease_23 rfl (lv_at hl 0 rfl) ?_
    refine z_callV (As := []) (rest := []) F (c_refuse h q (uV v 0 0) a   ) gX11_lease_X11_refuse rfl ziX11_refuse ⟨rfl, rfl, by decide, by decide⟩ rfl hl.1 rfl (Nat.le_of_ble_eq_true rfl) dX11_lease_24 ⟨Nat.zero_le _, Nat.zero_le _⟩ hW hA [0, 1, 2, 3, 4, 5, 6, 7, 8, 9, 10] rfl (by decide) (fun _ => rfl) (fun _ => mW cI cJ h q (uV v 0 1) a) (fun _ => rfl) (fun _ => [.int (iI 0)]) (fun _ => rfl) 0 rfl rfl rfl (fun _ H locs hp24 hW => ?_)
    exact z_iret hx hb hr hlk hW 1 (by exact if_neg (fun q9 => by first | exact c10 q9.1 | exact c20 q9.2)) (show (1 : Int) = _ from (if_neg (fun q9 => by first | exact c10 q9.1 | exact c20 q9.2)).symm) rfl dX11_lease_27
  · obtain ⟨hL, hT⟩ := hls x (by omega) (by omega)
    obtain ⟨l0, l1, l2, l3, l4, l5, l6, l7, l8, l9, l10, l11, l12, l13, l14, l15⟩ := id hL
    refine lv_iload_n hx hb dX11_lease_13 rfl (lv_at hl 2 rfl) ?_
    refine z_iconst (n := 0) hx hb dX11_lease_14 ?_
    refine z_bipush hx hb dX11_lease_15 (by decide +kernel) ?_
    refine z_callS (As := [.int (iI w), .int (iI 0), .int (iI 7)]) (rest := []) F (c_isIn w 0 7  (show -2147483648 ≤ w ∧ w < 2147483648 by omega) (show -2147483648 ≤ 0 ∧ 0 < 2147483648 by omega) (show -2147483648 ≤ 7 ∧ 7 < 2147483648 by omega)) gX11_lease_X11_isIn rfl ziX11_isIn ⟨rfl, rfl, by decide, by decide⟩ rfl hl.1 rfl (Nat.le_of_ble_eq_true rfl) dX11_lease_17 ⟨Nat.zero_le _, Nat.zero_le _⟩ hW hA [] rfl (by decide) (fun _ => rfl) (fun _ => mW cI cJ h q (uV v 0 0) a) (fun _ => rfl) (fun _ => [.int (iI (bI (0 ≤ w ∧ w ≤ 7)))]) (fun _ => rfl) (fun _ H locs hp17 hW => ?_)
    refine z_b_ne (tgt := 28) hx hb dX11_lease_20 (by decide) (fun c20 => ?_) (fun c20 => ?_)
    · refine lv_iload_n hx hb dX11_lease_28 rfl (lv_at hl 2 rfl) ?_
      refine z_bipush hx hb dX11_lease_29 (by decide +kernel) ?_
      refine z_icmp_ge (tgt := 43) hx hb dX11_lease_31 (by decide) ⟨by omega, by omega⟩ (by decide) (fun c31 => ?_) (fun c31 => ?_)
      · refine lv_iload_n hx hb dX11_lease_43 rfl (lv_at hl 2 rfl) ?_
        refine z_bipush hx hb dX11_lease_44 (by decide +kernel) ?_
        refine z_icmp_ne (tgt := 63) hx hb dX11_lease_46 (by decide) ⟨by omega, by omega⟩ (by decide) (fun c46 => ?_) (fun c46 => ?_)
        · refine lv_aload_n hx hb dX11_lease_63 rfl (lv_at hl 0 rfl) ?_
          refine lv_iload_n hx hb dX11_lease_64 rfl (lv_at hl 1 rfl) ?_
          refine z_callV (As := [.int (iI x)]) (rest := []) F (c_reviewsOf h q (uV v 0 0) a x  (show 0 ≤ x ∧ x < 6 by omega) (show 0 ≤ LF ((a 11)) x 5 ∧ LF ((a 11)) x 5 ≤ 4 by omega) (show 1 ≤ LF ((a 11)) x 1 ∧ LF ((a 11)) x 1 ≤ 120 by omega) (show 1 ≤ LF ((a 11)) x 3 ∧ LF ((a 11)) x 3 ≤ 60 by omega)) gX11_lease_X11_reviewsOf rfl ziX11_reviewsOf ⟨rfl, rfl, by decide, by decide⟩ rfl hl.1 rfl (Nat.le_of_ble_eq_true rfl) dX11_lease_65 ⟨Nat.zero_le _, Nat.zero_le _⟩ hW hA [0, 1, 2, 3, 4, 5, 6, 7, 8, 9, 10] rfl (by decide) (fun _ => rfl) (fun _ => mW cI cJ h q (uV v 0 0) a) (fun _ => rfl) (fun _ => [.int (iI (REV ((a 11)) x))]) (fun _ => rfl) 0 rfl rfl rfl (fun _ H locs hp65 hW => ?_)
          exact z_iret hx hb hr hlk hW 0 (by rw [if_pos ⟨c10, c20⟩]; unfold A_lease; first | exact if_pos (by omega) | (rw [if_neg (by omega), if_pos (by omega)]; done) | (rw [if_neg (by omega), if_neg (by omega)]; done)) (show (0 : Int) = _ from (if_pos ⟨c10, c20⟩).symm) rfl dX11_lease_68
        · refine lv_aload_n hx hb dX11_lease_49 rfl (lv_at hl 0 rfl) ?_
          refine lv_iload_n hx hb dX11_lease_50 rfl (lv_at hl 1 rfl) ?_
          refine lv_aload_n hx hb dX11_lease_51 rfl (lv_at hl 0 rfl) ?_
          refine z_get (v := .ref (q 11)) hx hb hts hiX11_lease_X11 hown hW 0 11 2 rfl rfl rfl (by decide) rfl dX11_lease_52 ?_
          refine z_iconst (n := 0) hx hb dX11_lease_55 ?_
          refine z_iald (f := a 11) (i := 0) hx hb hW 2 0 rfl rfl (by decide) ⟨by omega, by omega⟩ dX11_lease_56 ?_
          refine z_callV (As := [.int (iI x), .int (iI ((a 11) 0))]) (rest := []) F (c_endOf h q (uV v 0 0) a x ((a 11) 0)  (show 0 ≤ x ∧ x < 6 by omega) (show -2147483648 ≤ ((a 11) 0) ∧ ((a 11) 0) < 2147483648 by omega) (show 0 ≤ LF ((a 11)) x 13 ∧ LF ((a 11)) x 13 ≤ 240 by omega)) gX11_lease_X11_endOf rfl ziX11_endOf ⟨rfl, rfl, by decide, by decide⟩ rfl hl.1 rfl (Nat.le_of_ble_eq_true rfl) dX11_lease_57 ⟨Nat.zero_le _, Nat.zero_le _⟩ hW hA [0, 1, 2, 3, 4, 5, 6, 7, 8, 9, 10] rfl (by decide) (fun _ => rfl) (fun _ => mW cI cJ h q (uV v 0 0) a) (fun _ => rfl) (fun _ => [.int (iI (END ((a 11)) x ((a 11) 0)))]) (fun _ => rfl) 0 rfl rfl rfl (fun _ H locs hp57 hW => ?_)
          refine lv_goto (tgt := 68) hx hb dX11_lease_60 (by decide) ?_
          exact z_iret hx hb hr hlk hW 0 (by rw [if_pos ⟨c10, c20⟩]; unfold A_lease; first | exact if_pos (by omega) | (rw [if_neg (by omega), if_pos (by omega)]; done) | (rw [if_neg (by omega), if_neg (by omega)]; done)) (show (0 : Int) = _ from (if_pos ⟨c10, c20⟩).symm) rfl dX11_lease_68
      · refine lv_aload_n hx hb dX11_lease_34 rfl (lv_at hl 0 rfl) ?_
        refine lv_iload_n hx hb dX11_lease_35 rfl (lv_at hl 1 rfl) ?_
        refine lv_iload_n hx hb dX11_lease_36 rfl (lv_at hl 2 rfl) ?_
        refine z_callV (As := [.int (iI x), .int (iI w)]) (rest := []) F (c_its h q (uV v 0 0) a x w  (show 0 ≤ 483 + 500 * x + w ∧ 483 + 500 * x + w < 3483 by omega)) gX11_lease_X11_its rfl ziX11_its ⟨rfl, rfl, by decide, by decide⟩ rfl hl.1 rfl (Nat.le_of_ble_eq_true rfl) dX11_lease_37 ⟨Nat.zero_le _, Nat.zero_le _⟩ hW hA [0, 1, 2, 3, 4, 5, 6, 7, 8, 9, 10] rfl (by decide) (fun _ => rfl) (fun _ => mW cI cJ h q (uV v 0 0) a) (fun _ => rfl) (fun _ => [.int (iI (LF ((a 11)) x w))]) (fun _ => rfl) 0 rfl rfl rfl (fun _ H locs hp37 hW => ?_)
        refine lv_goto (tgt := 68) hx hb dX11_lease_40 (by decide) ?_
        exact z_iret hx hb hr hlk hW 0 (by rw [if_pos ⟨c10, c20⟩]; unfold A_lease; first | exact if_pos (by omega) | (rw [if_neg (by omega), if_pos (by omega)]; done) | (rw [if_neg (by omega), if_neg (by omega)]; done)) (show (0 : Int) = _ from (if_pos ⟨c10, c20⟩).symm) rfl dX11_lease_68
    · refine lv_aload_n hx hb dX11_lease_23 rfl (lv_at hl 0 rfl) ?_
      refine z_callV (As := []) (rest := []) F (c_refuse h q (uV v 0 0) a   ) gX11_lease_X11_refuse rfl ziX11_refuse ⟨rfl, rfl, by decide, by decide⟩ rfl hl.1 rfl (Nat.le_of_ble_eq_true rfl) dX11_lease_24 ⟨Nat.zero_le _, Nat.zero_le _⟩ hW hA [0, 1, 2, 3, 4, 5, 6, 7, 8, 9, 10] rfl (by decide) (fun _ => rfl) (fun _ => mW cI cJ h q (uV v 0 1) a) (fun _ => rfl) (fun _ => [.int (iI 0)]) (fun _ => rfl) 0 rfl rfl rfl (fun _ H locs hp24 hW => ?_)
      exact z_iret hx hb hr hlk hW 1 (by exact if_neg (fun q9 => by first | exact c10 q9.1 | exact c20 q9.2)) (show (1 : Int) = _ from (if_neg (fun q9 => by first | exact c10 q9.1 | exact c20 q9.2)).symm) rfl dX11_lease_27
