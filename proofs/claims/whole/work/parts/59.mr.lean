/-! the model: text() -/
def Z0 : Int → Int := fun _ => 0
theorem CNTV_0 : ∀ n : Nat, CNTV Z0 n = 0 := by
  intro n
  induction n with
  | zero => rfl
  | succ n ih =>
    show CNTV Z0 n + bI ((0 : Int) < 0) = 0
    rw [ih]
    decide
theorem RD_0 : RD Z0 0 := by
  refine ⟨rfl, ⟨by decide, by decide⟩, ⟨by decide, by decide⟩, fun m _ _ => (show (0 : Int) ≤ 0 ∧ (0 : Int) ≤ 9999 ∧ (0 : Int) ≤ 0 ∧ (0 : Int) ≤ 239 ∧ ((0 : Int) = 0 → (0 : Int) = 0) by omega), ⟨CNTV_0 240, by decide, by decide⟩, fun x x0 x1 => ?_, fun j _ _ => rfl⟩
  have x1 : x < 0 := x1
  omega
/-- what text() leaves of the desk, of the past and of the fault -/
def TX (ff : Int) (N1 n1 n0 : Int → Int) (b8 b14 v14 : Int) : Prop := (ff = 0 → b8 = 0 ∧ n1 = N1 ∧ b14 = 0) ∧ (ff ≠ 0 → b8 = ff ∧ n1 = n0 ∧ b14 = v14)
theorem hiX11_text_X11 : ∀ w ∈ wsX110, w ∈ wsX11_text := fun _ h => List.mem_cons_of_mem _ (List.mem_append_right _ h)
theorem ziX11_text : yX11_text.cls = RX11 ∧ yX11_text.cls ≠ "java/lang/invoke/MethodHandle" ∧ yX11_text.cls ≠ "java/lang/invoke/VarHandle" ∧ (parseMethodDescriptor yX11_text.desc).map (fun d => d.parameters.length) = some 0 := by decide +kernel
set_option maxHeartbeats 4000000 in
set_option maxRecDepth 100000 in
theorem c_text {l : Launch} {G : va_G} {cI cJ cO : ClassId} (h : Nat) (q : Nat → Nat) (v : Nat → Int) (a : Nat → Int → Int)   (h2 : 0 ≤ v 2 ∧ v 2 ≤ 640) (hT : ∀ j : Int, 0 ≤ j → j < 640 → 0 ≤ a 1 j ∧ a 1 j ≤ 255) : zC l yX11_text wsX11_text { frames := 7, cells := 0, slots := 0, locals := 152 } G (tyZ cI cJ cO) (S := (Int) × (Int) × (Int → Int) × (Int → Int) × (Int → Int) × Int × Int × Int × Int × Int × Int × Int × Int × Int × Int) [.ref h] (mW cI cJ h q v a) (zI (fun u => if u.1 = 0 then u.2.2.1 2 else -1 - tkP (a 1) (v 2) u.2.1)) (fun u => Pally (a 1) (v 2) 0 Z0 = (u.1, u.2.1, u.2.2.1) ∧ R0 u.1 u.2.2.1 ∧ TX u.1 u.2.2.1 u.2.2.2.1 (a 11) u.2.2.2.2.2.2.2.2.2.2.2.1 u.2.2.2.2.2.2.2.2.2.2.2.2.2.2 (v 14)) (fun u => mW cI cJ h q (uV (uV (uV (uV (uV (uV (uV (uV (uV (uV (uV (uV v 0 0) 2 0) 3 u.2.2.2.2.2.1) 4 u.2.2.2.2.2.2.1) 5 u.2.2.2.2.2.2.2.1) 6 u.2.2.2.2.2.2.2.2.1) 7 u.2.2.2.2.2.2.2.2.2.1) 10 u.2.2.2.2.2.2.2.2.2.2.1) 8 u.2.2.2.2.2.2.2.2.2.2.2.1) 9 u.2.2.2.2.2.2.2.2.2.2.2.2.1) 15 u.2.2.2.2.2.2.2.2.2.2.2.2.2.1) 14 u.2.2.2.2.2.2.2.2.2.2.2.2.2.2) (uA (uA a 11 u.2.2.2.1) 12 u.2.2.2.2.1)) 0 0 := by
  refine z_start (cc := cX11_text) (maxL := 2) (ret := (some .int)) (by decide) rfl (Nat.le_of_ble_eq_true rfl) ?_
  intro p e s m below meth c A ls F hr hlk hnm hAe hA hW hl
  have hx := F.1
  have hb := F.2.1
  have hown : s.vm.findClass RX11 = some m.cls := F.2.2.2.1
  have hts := F.2.2.2.2
  have hl : lv_has ls 2 [(0, .ref h)] := hl
  refine lv_aload_n hx hb dX11_text_0 rfl (lv_at hl 0 rfl) ?_
  refine z_iconst (n := 0) hx hb dX11_text_1 ?_
  refine z_put hx hb hts hiX11_text_X11 tyX11 tyX11_ok nmX11 hown hW 0 0 1 rfl rfl (by decide) (Nat.le_of_ble_eq_true rfl) rfl rfl rfl rfl dX11_text_2 (fun H locs hW => ?_)
  have hW : zW G (tyZ cI cJ cO) A s (mW cI cJ h q (uV v 0 0) a) H locs := hW
  refine lv_aload_n hx hb dX11_text_5 rfl (lv_at hl 0 rfl) ?_
  refine lv_aload_n hx hb dX11_text_6 rfl (lv_at hl 0 rfl) ?_
  refine z_get (v := .int (iI (v 2))) hx hb hts hiX11_text_X11 hown hW 0 2 2 rfl rfl rfl (by decide) rfl dX11_text_7 ?_
  refine z_put hx hb hts hiX11_text_X11 tyX11 tyX11_ok nmX11 hown hW 0 3 3 rfl rfl (by decide) (Nat.le_of_ble_eq_true rfl) rfl rfl rfl rfl dX11_text_10 (fun H locs hW => ?_)
  have hW : zW G (tyZ cI cJ cO) A s (mW cI cJ h q (uV (uV v 0 0) 3 (v 2)) a) H locs := hW
  refine lv_aload_n hx hb dX11_text_13 rfl (lv_at hl 0 rfl) ?_
  refine z_iconst (n := 0) hx hb dX11_text_14 ?_
  refine z_put hx hb hts hiX11_text_X11 tyX11 tyX11_ok nmX11 hown hW 0 2 2 rfl rfl (by decide) (Nat.le_of_ble_eq_true rfl) rfl rfl rfl rfl dX11_text_15 (fun H locs hW => ?_)
  have hW : zW G (tyZ cI cJ cO) A s (mW cI cJ h q (uV (uV (uV v 0 0) 3 (v 2)) 2 0) a) H locs := hW
  refine lv_aload_n hx hb dX11_text_18 rfl (lv_at hl 0 rfl) ?_
  refine z_iconst (n := 0) hx hb dX11_text_19 ?_
  refine z_put hx hb hts hiX11_text_X11 tyX11 tyX11_ok nmX11 hown hW 0 8 4 rfl rfl (by decide) (Nat.le_of_ble_eq_true rfl) rfl rfl rfl rfl dX11_text_20 (fun H locs hW => ?_)
  have hW : zW G (tyZ cI cJ cO) A s (mW cI cJ h q (uV (uV (uV (uV v 0 0) 3 (v 2)) 2 0) 8 0) a) H locs := hW
  refine lv_aload_n hx hb dX11_text_23 rfl (lv_at hl 0 rfl) ?_
  refine z_iconst (n := 0) hx hb dX11_text_24 ?_
  refine z_put hx hb hts hiX11_text_X11 tyX11 tyX11_ok nmX11 hown hW 0 4 5 rfl rfl (by decide) (Nat.le_of_ble_eq_true rfl) rfl rfl rfl rfl dX11_text_25 (fun H locs hW => ?_)
  have hW : zW G (tyZ cI cJ cO) A s (mW cI cJ h q (uV (uV (uV (uV (uV v 0 0) 3 (v 2)) 2 0) 8 0) 4 0) a) H locs := hW
  refine lv_aload_n hx hb dX11_text_28 rfl (lv_at hl 0 rfl) ?_
  refine z_iconst (n := 0) hx hb dX11_text_29 ?_
  refine z_put hx hb hts hiX11_text_X11 tyX11 tyX11_ok nmX11 hown hW 0 15 6 rfl rfl (by decide) (Nat.le_of_ble_eq_true rfl) rfl rfl rfl rfl dX11_text_30 (fun H locs hW => ?_)
  have hW : zW G (tyZ cI cJ cO) A s (mW cI cJ h q (uV (uV (uV (uV (uV (uV v 0 0) 3 (v 2)) 2 0) 8 0) 4 0) 15 0) a) H locs := hW
  refine z_iconst (n := 0) hx hb dX11_text_33 ?_
  refine lv_istore_n (lv' := [(1, .int (iI 0)), (0, .ref h)]) hx hb dX11_text_34 rfl hl (by decide) rfl (fun ls hl => ?_)
  refine z_loop2 (fun (k1 : Int) (r1 : Int → Int) (ls : Array Slot) (H : Heap) (locs : List Loc) => (0 ≤ k1 ∧ k1 ≤ 3483) ∧ (∀ j : Int, 0 ≤ j → j < k1 → r1 j = 0) ∧ zW G (tyZ cI cJ cO) A s (mW cI cJ h q (uV (uV (uV (uV (uV (uV v 0 0) 3 (v 2)) 2 0) 8 0) 4 0) 15 0) (uA a 12 r1)) H locs ∧ lv_has ls 2 [(1, .int (iI k1)), (0, .ref h)]) (fun k1 r1 => (3483 - k1).toNat) ?_ 0 (a 12) _ _ _ ⟨(by omega), (fun j j0 j1 => absurd j1 (by omega)), hW, (lv_sub hl [0, 1] rfl)⟩
  intro k1 r1 ls H locs hI ih
  obtain ⟨i1, i2, hW, hl⟩ := hI
  refine lv_iload_n hx hb dX11_text_35 rfl (lv_at hl 0 rfl) ?_
  refine z_sipush hx hb dX11_text_36 (by decide +kernel) ?_
  refine z_icmp_ge (tgt := 55) hx hb dX11_text_39 (by decide) ⟨by omega, by omega⟩ (by decide) (fun c39 => ?_) (fun c39 => ?_)
  · have hW := z_row hW 3 Z0 rfl (fun j j0 j1 => (i2 j j0 (by omega)).trans rfl)
    have hW : zW G (tyZ cI cJ cO) A s (mW cI cJ h q (uV (uV (uV (uV (uV (uV v 0 0) 3 (v 2)) 2 0) 8 0) 4 0) 15 0) (uA a 12 Z0)) H locs := hW
    refine lv_aload_n hx hb dX11_text_55 rfl (lv_at hl 1 rfl) ?_
    refine z_callV (As := []) (rest := []) F (c_go h q (uV (uV (uV (uV (uV (uV v 0 0) 3 (v 2)) 2 0) 8 0) 4 0) 15 0) (uA a 12 Z0)   (show 0 ≤ (v 2) ∧ (v 2) ≤ 640 by omega) (show 0 ≤ 0 ∧ 0 ≤ (v 2) by omega) hT) gX11_text_X11_go rfl ziX11_go ⟨rfl, rfl, by decide, by decide⟩ rfl hl.1 rfl (Nat.le_of_ble_eq_true rfl) dX11_text_56 ⟨Nat.zero_le _, Nat.zero_le _⟩ hW hA [0, 1, 2, 3, 4, 5, 6, 7, 8, 9, 10] rfl (by decide) (fun _ => rfl) (fun u => mW cI cJ h q (uV (uV (uV (uV (uV (uV (uV (uV (uV (uV v 0 0) 3 (v 2)) 2 0) 8 0) 15 0) 4 u.1) 5 u.2.1) 6 u.2.2.1) 7 u.2.2.2.1) 10 u.2.2.2.2) (uA a 12 Z0)) (fun _ => rfl) (fun u => []) (fun _ => rfl) 0 rfl rfl rfl (fun u H locs hp56 hW => ?_)
    obtain ⟨b4_1, b5_2, b6_3, b7_4, b10_5⟩ := u
    have hp56 : b4_1 = tkB ((a 1)) ((v 2)) (0) ∧ b5_2 = tkP ((a 1)) ((v 2)) (0) ∧ b6_3 = tkS ((a 1)) ((v 2)) (0) ∧ (b6_3 = 2 → b10_5 = tkW ((a 1)) ((v 2)) (0)) ∧ (b6_3 = 3 → b7_4 = tkN ((a 1)) ((v 2)) (0)) := hp56
    have hW : zW G (tyZ cI cJ cO) A s (mW cI cJ h q (uV (uV (uV (uV (uV (uV (uV (uV (uV (uV v 0 0) 3 (v 2)) 2 0) 8 0) 15 0) 4 b4_1) 5 b5_2) 6 b6_3) 7 b7_4) 10 b10_5) (uA a 12 Z0)) H locs := hW
    have hM : MT (a 1) (v 2) 0 b4_1 b5_2 b6_3 b7_4 b10_5 := ⟨⟨Int.le_refl 0, h2.1⟩, hp56⟩
    clear hp56
    have hR := MT_Rw hM (by omega) hT
    refine lv_aload_n hx hb dX11_text_59 rfl (lv_at hl 1 rfl) ?_
    refine z_callV (As := []) (rest := []) F (c_readWhole h q (uV (uV (uV (uV (uV (uV (uV (uV (uV (uV v 0 0) 3 (v 2)) 2 0) 8 0) 15 0) 4 b4_1) 5 b5_2) 6 b6_3) 7 b7_4) 10 b10_5) (uA a 12 Z0)  0 (show 0 ≤ (v 2) ∧ (v 2) ≤ 640 by omega) hT hM rfl RD_0 rfl) gX11_text_X11_readWhole rfl ziX11_readWhole ⟨rfl, rfl, by decide, by decide⟩ rfl hl.1 rfl (Nat.le_of_ble_eq_true rfl) dX11_text_60 ⟨Nat.zero_le _, Nat.zero_le _⟩ hW hA [0, 1, 2, 3, 4, 5, 6, 7, 8, 9, 10] rfl (by decide) (fun _ => rfl) (fun u => mW cI cJ h q (uV (uV (uV (uV (uV (uV (uV (uV (uV (uV (uV v 0 0) 3 (v 2)) 2 0) 4 u.2.2.2.1) 5 u.2.2.2.2.1) 6 u.2.2.2.2.2.1) 7 u.2.2.2.2.2.2.1) 10 u.2.2.2.2.2.2.2.1) 8 u.2.2.2.2.2.2.2.2.1) 9 u.2.2.2.2.2.2.2.2.2.1) 15 u.2.2.2.2.2.2.2.2.2.2) (uA a 12 u.2.2.1)) (fun _ => rfl) (fun u => [.int (iI (bI (u.1 = 0)))]) (fun _ => rfl) 0 rfl rfl rfl (fun u H locs hp60 hW => ?_)
    obtain ⟨ff_6, yy_7, b12_8, b4_9, b5_10, b6_11, b7_12, b10_13, b8_14, b9_15, b15_16⟩ := u
    have hp60 : Pally ((a 1)) ((v 2)) 0 (Z0) = (ff_6, yy_7, b12_8) ∧ MT ((a 1)) ((v 2)) yy_7 b4_9 b5_10 b6_11 b7_12 b10_13 ∧ NF ff_6 b8_14 b9_15 (tkP ((a 1)) ((v 2)) yy_7) ∧ N8 ff_6 b8_14 (0) ∧ R0 ff_6 b12_8 := hp60
    have hW : zW G (tyZ cI cJ cO) A s (mW cI cJ h q (uV (uV (uV (uV (uV (uV (uV (uV (uV (uV (uV v 0 0) 3 (v 2)) 2 0) 4 b4_9) 5 b5_10) 6 b6_11) 7 b7_12) 10 b10_13) 8 b8_14) 9 b9_15) 15 b15_16) (uA a 12 b12_8)) H locs := hW
    have hM : MT (a 1) (v 2) yy_7 b4_9 b5_10 b6_11 b7_12 b10_13 := hp60.2.1
    clear hR
    have hR := MT_Rw hM (by omega) hT
    refine z_b_ne (tgt := 73) hx hb dX11_text_63 (by decide) (fun c63 => ?_) (fun c63 => ?_)
    · refine z_iconst (n := 0) hx hb dX11_text_73 ?_
      refine lv_istore_n (lv' := [(1, .int (iI 0)), (0, .ref h)]) hx hb dX11_text_74 rfl hl (by decide) rfl (fun ls hl => ?_)
      refine z_loop2 (fun (k2 : Int) (r2 : Int → Int) (ls : Array Slot) (H : Heap) (locs : List Loc) => (0 ≤ k2 ∧ k2 ≤ 3483) ∧ (∀ j : Int, 0 ≤ j → j < k2 → r2 j = b12_8 j) ∧ zW G (tyZ cI cJ cO) A s (mW cI cJ h q (uV (uV (uV (uV (uV (uV (uV (uV (uV (uV (uV v 0 0) 3 (v 2)) 2 0) 4 b4_9) 5 b5_10) 6 b6_11) 7 b7_12) 10 b10_13) 8 b8_14) 9 b9_15) 15 b15_16) (uA (uA a 12 b12_8) 11 r2)) H locs ∧ lv_has ls 2 [(1, .int (iI k2)), (0, .ref h)]) (fun k2 r2 => (3483 - k2).toNat) ?_ 0 (a 11) _ _ _ ⟨(by omega), (fun j j0 j1 => absurd j1 (by omega)), hW, (lv_sub hl [0, 1] rfl)⟩
      intro k2 r2 ls H locs hI ih75
      obtain ⟨i3, i4, hW, hl⟩ := hI
      refine lv_iload_n hx hb dX11_text_75 rfl (lv_at hl 0 rfl) ?_
      refine z_sipush hx hb dX11_text_76 (by decide +kernel) ?_
      refine z_icmp_ge (tgt := 100) hx hb dX11_text_79 (by decide) ⟨by omega, by omega⟩ (by decide) (fun c79 => ?_) (fun c79 => ?_)
      · have hW := z_row hW 2 b12_8 rfl (fun j j0 j1 => i4 j j0 (by omega))
        have hW : zW G (tyZ cI cJ cO) A s (mW cI cJ h q (uV (uV (uV (uV (uV (uV (uV (uV (uV (uV (uV v 0 0) 3 (v 2)) 2 0) 4 b4_9) 5 b5_10) 6 b6_11) 7 b7_12) 10 b10_13) 8 b8_14) 9 b9_15) 15 b15_16) (uA (uA a 12 b12_8) 11 b12_8)) H locs := hW
        refine lv_aload_n hx hb dX11_text_100 rfl (lv_at hl 1 rfl) ?_
        refine z_iconst (n := 0) hx hb dX11_text_101 ?_
        refine z_put hx hb hts hiX11_text_X11 tyX11 tyX11_ok nmX11 hown hW 0 14 10 rfl rfl (by decide) (Nat.le_of_ble_eq_true rfl) rfl rfl rfl rfl dX11_text_102 (fun H locs hW => ?_)
        have hW : zW G (tyZ cI cJ cO) A s (mW cI cJ h q (uV (uV (uV (uV (uV (uV (uV (uV (uV (uV (uV (uV v 0 0) 3 (v 2)) 2 0) 4 b4_9) 5 b5_10) 6 b6_11) 7 b7_12) 10 b10_13) 8 b8_14) 9 b9_15) 15 b15_16) 14 0) (uA (uA a 12 b12_8) 11 b12_8)) H locs := hW
        refine lv_aload_n hx hb dX11_text_105 rfl (lv_at hl 1 rfl) ?_
        refine z_get (v := .ref (q 11)) hx hb hts hiX11_text_X11 hown hW 0 11 9 rfl rfl rfl (by decide) rfl dX11_text_106 ?_
        refine z_iconst (n := 2) hx hb dX11_text_109 ?_
        refine z_iald (f := b12_8) (i := 2) hx hb hW 2 0 rfl rfl (by decide) ⟨by omega, by omega⟩ dX11_text_110 ?_
        exact z_iret hx hb hr hlk hW (⟨ff_6, yy_7, b12_8, b12_8, b12_8, v 2, b4_9, b5_10, b6_11, b7_12, b10_13, b8_14, b9_15, b15_16, 0⟩) (if_pos c63) (show _ = _ ∧ R0 _ _ ∧ TX _ _ _ _ _ _ _ from ⟨hp60.1, hp60.2.2.2.2, fun q => ⟨hp60.2.2.2.1 q, rfl, rfl⟩, fun q => absurd c63 q⟩) rfl dX11_text_111
      · refine lv_aload_n hx hb dX11_text_82 rfl (lv_at hl 1 rfl) ?_
        refine z_get (v := .ref (q 11)) hx hb hts hiX11_text_X11 hown hW 0 11 9 rfl rfl rfl (by decide) rfl dX11_text_83 ?_
        refine lv_iload_n hx hb dX11_text_86 rfl (lv_at hl 0 rfl) ?_
        refine lv_aload_n hx hb dX11_text_87 rfl (lv_at hl 1 rfl) ?_
        refine z_get (v := .ref (q 12)) hx hb hts hiX11_text_X11 hown hW 0 12 7 rfl rfl rfl (by decide) rfl dX11_text_88 ?_
        refine lv_iload_n hx hb dX11_text_91 rfl (lv_at hl 0 rfl) ?_
        refine z_iald (f := b12_8) (i := k2) hx hb hW 3 0 rfl rfl (by decide) ⟨by omega, by omega⟩ dX11_text_92 ?_
        refine z_iast (f := r2) (i := k2) (z := b12_8 k2) hx hb hW 2 0 rfl rfl (by decide) ⟨by omega, by omega⟩ dX11_text_93 (fun H locs hW => ?_)
        have hW : zW G (tyZ cI cJ cO) A s (mW cI cJ h q (uV (uV (uV (uV (uV (uV (uV (uV (uV (uV (uV v 0 0) 3 (v 2)) 2 0) 4 b4_9) 5 b5_10) 6 b6_11) 7 b7_12) 10 b10_13) 8 b8_14) 9 b9_15) 15 b15_16) (uA (uA a 12 b12_8) 11 (uI r2 k2 (b12_8 k2)))) H locs := hW
        refine z_iinc (k := 0) (lv' := [(1, .int (iI (k2 + 1))), (0, .ref h)]) hx hb dX11_text_94 hl rfl (by decide) rfl (fun ls hl => ?_)
        refine lv_goto (tgt := 75) hx hb dX11_text_97 (by decide) ?_
        exact ih75 (k2 + 1) (uI r2 k2 (b12_8 k2)) _ _ _ ⟨(by omega), (fun j j0 j1 => by by_cases q9 : j = k2; (rw [q9, uI_s]); (rw [uI_n q9]; exact i4 j j0 (by omega))), hW, (lv_sub hl [0, 1] rfl)⟩ (by omega)
    · refine z_iconst (n := -1) hx hb dX11_text_66 ?_
      refine lv_aload_n hx hb dX11_text_67 rfl (lv_at hl 1 rfl) ?_
      refine z_get (v := .int (iI b9_15)) hx hb hts hiX11_text_X11 hown hW 0 9 8 rfl rfl rfl (by decide) rfl dX11_text_68 ?_
      refine z_isub hx hb dX11_text_71 ?_
      exact z_iret hx hb hr hlk hW (⟨ff_6, yy_7, b12_8, a 11, b12_8, v 2, b4_9, b5_10, b6_11, b7_12, b10_13, b8_14, b9_15, b15_16, v 14⟩) (by show (if ff_6 = 0 then _ else _) = _; rw [if_neg c63]; exact (congrArg (fun q9 : Int => -1 - q9) (hp60.2.2.1 c63).2).symm) (show _ = _ ∧ R0 _ _ ∧ TX _ _ _ _ _ _ _ from ⟨hp60.1, hp60.2.2.2.2, fun q => absurd q c63, fun q => ⟨(hp60.2.2.1 q).1, rfl, rfl⟩⟩) rfl dX11_text_72
  · refine lv_aload_n hx hb dX11_text_42 rfl (lv_at hl 1 rfl) ?_
    refine z_get (v := .ref (q 12)) hx hb hts hiX11_text_X11 hown hW 0 12 7 rfl rfl rfl (by decide) rfl dX11_text_43 ?_
    refine lv_iload_n hx hb dX11_text_46 rfl (lv_at hl 0 rfl) ?_
    refine z_iconst (n := 0) hx hb dX11_text_47 ?_
    refine z_iast (f := r1) (i := k1) (z := 0) hx hb hW 3 0 rfl rfl (by decide) ⟨by omega, by omega⟩ dX11_text_48 (fun H locs hW => ?_)
    have hW : zW G (tyZ cI cJ cO) A s (mW cI cJ h q (uV (uV (uV (uV (uV (uV v 0 0) 3 (v 2)) 2 0) 8 0) 4 0) 15 0) (uA a 12 (uI r1 k1 0))) H locs := hW
    refine z_iinc (k := 0) (lv' := [(1, .int (iI (k1 + 1))), (0, .ref h)]) hx hb dX11_text_49 hl rfl (by decide) rfl (fun ls hl => ?_)
    refine lv_goto (tgt := 35) hx hb dX11_text_52 (by decide) ?_
    exact ih (k1 + 1) (uI r1 k1 0) _ _ _ ⟨(by omega), (fun j j0 j1 => by by_cases q9 : j = k1; (rw [q9, uI_s]); (rw [uI_n q9]; exact i2 j j0 (by omega))), hW, (lv_sub hl [0, 1] rfl)⟩ (by omega)
