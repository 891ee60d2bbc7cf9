theorem hiX11_readBy_X11 : ∀ w ∈ wsX110, w ∈ wsX11_readBy := fun _ h => List.mem_cons_of_mem _ (List.mem_append_right _ h)
theorem ziX11_readBy : yX11_readBy.cls = RX11 ∧ yX11_readBy.cls ≠ "java/lang/invoke/MethodHandle" ∧ yX11_readBy.cls ≠ "java/lang/invoke/VarHandle" ∧ (parseMethodDescriptor yX11_readBy.desc).map (fun d => d.parameters.length) = some 1 := by decide +kernel
set_option maxHeartbeats 4000000 in
set_option maxRecDepth 100000 in
theorem c_readBy {l : Launch} {G : va_G} {cI cJ cO : ClassId} (h : Nat) (q : Nat → Nat) (v : Nat → Int) (a : Nat → Int → Int) (w : Int) (y : Int) (x : Int) (h3 : 0 ≤ v 3 ∧ v 3 ≤ 640) (hT : ∀ j : Int, 0 ≤ j → j < 640 → 0 ≤ a 1 j ∧ a 1 j ≤ 255) (hM : MT (a 1) (v 3) y (v 4) (v 5) (v 6) (v 7) (v 10)) (hw : w = 483 + 500 * x) (hx9 : 0 ≤ x ∧ x ≤ 5) : zC l yX11_readBy wsX11_readBy { frames := 4, cells := 0, slots := 0, locals := 88 } G (tyZ cI cJ cO) (S := (Int) × (Int) × (Int → Int) × Int × Int × Int × Int × Int × Int × Int) [.ref h, .int (iI w)] (mW cI cJ h q v a) (zI (fun u => bI (u.1 = 0))) (fun u => Pby (a 1) (v 3) x y (a 12) = (u.1, u.2.1, u.2.2.1) ∧ MT (a 1) (v 3) u.2.1 u.2.2.2.1 u.2.2.2.2.1 u.2.2.2.2.2.1 u.2.2.2.2.2.2.1 u.2.2.2.2.2.2.2.1 ∧ NF u.1 u.2.2.2.2.2.2.2.2.1 u.2.2.2.2.2.2.2.2.2 (tkP (a 1) (v 3) u.2.1) ∧ N8 u.1 u.2.2.2.2.2.2.2.2.1 (v 8)) (fun u => mW cI cJ h q (uV (uV (uV (uV (uV (uV (uV v 4 u.2.2.2.1) 5 u.2.2.2.2.1) 6 u.2.2.2.2.2.1) 7 u.2.2.2.2.2.2.1) 10 u.2.2.2.2.2.2.2.1) 8 u.2.2.2.2.2.2.2.2.1) 9 u.2.2.2.2.2.2.2.2.2) (uA a 12 u.2.2.1)) 0 0 := by
  refine z_start (cc := cX11_readBy) (maxL := 3) (ret := (some .boolean)) (by decide) rfl (Nat.le_of_ble_eq_true rfl) ?_
  intro p e s m below meth c A ls F hr hlk hnm hAe hA hW hl
  have hx := F.1
  have hb := F.2.1
  have hown : s.vm.findClass RX11 = some m.cls := F.2.2.2.1
  have hts := F.2.2.2.2
  have hl : lv_has ls 3 [(0, .ref h), (1, .int (iI w))] := hl
  have hR := MT_Rw hM (by omega) hT
  have hM0 := hM
  have hkb : BW (KND (a 1) (v 3) y) = BW (KND (a 1) (v 3) y) := rfl
  refine z_join1 (fun (bw : Int) (ls : Array Slot) (H : Heap) (locs : List Loc) => (bw = BW (KND (a 1) (v 3) y) ∧ 0 ≤ bw ∧ bw ≤ 4) ∧ zW G (tyZ cI cJ cO) A s (mW cI cJ h q v a) H locs ∧ lv_has ls 3 [(0, .ref h), (1, .int (iI w))]) 98 (fun bw => [.int (iI bw)]) ?_ ?_
  · intro bw ls H locs hJ
    obtain ⟨eb, hW, hl⟩ := hJ
    refine lv_istore_n (lv' := [(2, .int (iI bw)), (0, .ref h), (1, .int (iI w))]) hx hb dX11_readBy_98 rfl hl (by decide) rfl (fun ls hl => ?_)
    refine lv_iload_n hx hb dX11_readBy_99 rfl (lv_at hl 0 rfl) ?_
    refine z_if_ne (tgt := 109) hx hb dX11_readBy_100 (by decide) ⟨by omega, by omega⟩ (fun c100 => ?_) (fun c100 => ?_)
    · refine lv_aload_n hx hb dX11_readBy_109 rfl (lv_at hl 1 rfl) ?_
      refine z_get (v := .ref (q 12)) hx hb hts hiX11_readBy_X11 hown hW 0 12 2 rfl rfl rfl (by decide) rfl dX11_readBy_110 ?_
      refine lv_iload_n hx hb dX11_readBy_113 rfl (lv_at hl 2 rfl) ?_
      refine z_iconst (n := 5) hx hb dX11_readBy_114 ?_
      refine z_iadd hx hb dX11_readBy_115 ?_
      refine lv_iload_n hx hb dX11_readBy_116 rfl (lv_at hl 0 rfl) ?_
      refine z_iast (f := a 12) (i := w + 5) (z := bw) hx hb hW 3 0 rfl rfl (by decide) ⟨by omega, by omega⟩ dX11_readBy_117 (fun H locs hW => ?_)
      have hW : zW G (tyZ cI cJ cO) A s (mW cI cJ h q v (uA a 12 (uI (a 12) (w + 5) bw))) H locs := hW
      refine lv_aload_n hx hb dX11_readBy_118 rfl (lv_at hl 1 rfl) ?_
      refine z_callV (As := []) (rest := []) F (c_go h q v (uA a 12 (uI (a 12) (w + 5) bw))   (show 0 ≤ (v 3) ∧ (v 3) ≤ 640 by omega) (show 0 ≤ (v 4) ∧ (v 4) ≤ (v 3) by omega) hT) gX11_readBy_X11_go rfl ziX11_go ⟨rfl, rfl, by decide, by decide⟩ rfl hl.1 rfl (Nat.le_of_ble_eq_true rfl) dX11_readBy_119 ⟨Nat.zero_le _, Nat.zero_le _⟩ hW hA [0, 1, 2, 3, 4, 5, 6, 7, 8, 9, 10] rfl (by decide) (fun _ => rfl) (fun u => mW cI cJ h q (uV (uV (uV (uV (uV v 4 u.1) 5 u.2.1) 6 u.2.2.1) 7 u.2.2.2.1) 10 u.2.2.2.2) (uA a 12 (uI (a 12) (w + 5) bw))) (fun _ => rfl) (fun u => []) (fun _ => rfl) 0 rfl rfl rfl (fun u H locs hp119 hW => ?_)
      obtain ⟨b4_1, b5_2, b6_3, b7_4, b10_5⟩ := u
      have hp119 : b4_1 = tkB ((a 1)) ((v 3)) ((v 4)) ∧ b5_2 = tkP ((a 1)) ((v 3)) ((v 4)) ∧ b6_3 = tkS ((a 1)) ((v 3)) ((v 4)) ∧ (b6_3 = 2 → b10_5 = tkW ((a 1)) ((v 3)) ((v 4))) ∧ (b6_3 = 3 → b7_4 = tkN ((a 1)) ((v 3)) ((v 4))) := hp119
      have hW : zW G (tyZ cI cJ cO) A s (mW cI cJ h q (uV (uV (uV (uV (uV v 4 b4_1) 5 b5_2) 6 b6_3) 7 b7_4) 10 b10_5) (uA a 12 (uI (a 12) (w + 5) bw))) H locs := hW
      have hM : MT (a 1) (v 3) (tkB (a 1) (v 3) y) b4_1 b5_2 b6_3 b7_4 b10_5 := MT_go hM hp119
      clear hR hp119
      have hR := MT_Rw hM (by omega) hT
      refine lv_iload_n hx hb dX11_readBy_122 rfl (lv_at hl 0 rfl) ?_
      refine z_iconst (n := 2) hx hb dX11_readBy_123 ?_
      refine z_icmp_eq (tgt := 152) hx hb dX11_readBy_124 (by decide) ⟨by omega, by omega⟩ (by decide) (fun c124 => ?_) (fun c124 => ?_)
      · refine z_iconst (n := 1) hx hb dX11_readBy_152 ?_
        refine lv_goto (tgt := 157) hx hb dX11_readBy_153 (by decide) ?_
        exact z_zret hx hb hr hlk (by first | exact Or.inl rfl | exact Or.inr rfl | omega) hW (⟨0, tkB (a 1) (v 3) y, uI (a 12) (w + 5) bw, b4_1, b5_2, b6_3, b7_4, b10_5, v 8, v 9⟩) (bI_t (show (0 : Int) = 0 from rfl)) (show _ = _ ∧ MT _ _ _ _ _ _ _ _ ∧ NF _ _ _ _ ∧ N8 _ _ _ from ⟨by unfold Pby; rw [← eb.1, ← hw, if_neg (by omega), if_pos c124, c124], hM, (fun q => absurd rfl q), (fun _ => rfl)⟩) rfl dX11_readBy_157
      · refine lv_aload_n hx hb dX11_readBy_127 rfl (lv_at hl 1 rfl) ?_
        refine lv_iload_n hx hb dX11_readBy_128 rfl (lv_at hl 2 rfl) ?_
        refine z_bipush hx hb dX11_readBy_129 (by decide +kernel) ?_
        refine z_iadd hx hb dX11_readBy_131 ?_
        refine z_iconst (n := 0) hx hb dX11_readBy_132 ?_
        refine lv_iload_n hx hb dX11_readBy_133 rfl (lv_at hl 0 rfl) ?_
        refine z_iconst (n := 1) hx hb dX11_readBy_134 ?_
        refine z_icmp_ne (tgt := 143) hx hb dX11_readBy_135 (by decide) ⟨by omega, by omega⟩ (by decide) (fun c135 => ?_) (fun c135 => ?_)
        · refine z_sipush hx hb dX11_readBy_143 (by decide +kernel) ?_
          refine z_callV (As := [.int (iI (w + 6)), .int (iI 0), .int (iI 999)]) (rest := []) F (c_told h q (uV (uV (uV (uV (uV v 4 b4_1) 5 b5_2) 6 b6_3) 7 b7_4) 10 b10_5) (uA a 12 (uI (a 12) (w + 5) bw)) (w + 6) 0 999 (tkB (a 1) (v 3) y) (show 0 ≤ (v 3) ∧ (v 3) ≤ 640 by omega) hT hM (show 0 ≤ (w + 6) ∧ (w + 6) < 3483 by omega) (show -2147483648 ≤ 0 ∧ 0 < 2147483648 by omega) (show -2147483648 ≤ 999 ∧ 999 < 2147483648 by omega)) gX11_readBy_X11_told rfl ziX11_told ⟨rfl, rfl, by decide, by decide⟩ rfl hl.1 rfl (Nat.le_of_ble_eq_true rfl) dX11_readBy_146 ⟨Nat.zero_le _, Nat.zero_le _⟩ hW hA [0, 1, 2, 3, 4, 5, 6, 7, 8, 9, 10] rfl (by decide) (fun _ => rfl) (fun u => mW cI cJ h q (uV (uV (uV (uV (uV (uV (uV v 4 u.2.2.2.1) 5 u.2.2.2.2.1) 6 u.2.2.2.2.2.1) 7 u.2.2.2.2.2.2.1) 10 u.2.2.2.2.2.2.2.1) 8 u.2.2.2.2.2.2.2.2.1) 9 u.2.2.2.2.2.2.2.2.2) (uA a 12 u.2.2.1)) (fun _ => rfl) (fun u => [.int (iI (bI (u.1 = 0)))]) (fun _ => rfl) 0 rfl rfl rfl (fun u H locs hp146 hW => ?_)
          obtain ⟨ff_6, yy_7, b12_8, b4_9, b5_10, b6_11, b7_12, b10_13, b8_14, b9_15⟩ := u
          have hp146 : Pnum ((a 1)) ((v 3)) (w + 6) 0 999 (tkB (a 1) (v 3) y) ((uI (a 12) (w + 5) bw)) = (ff_6, yy_7, b12_8) ∧ MT ((a 1)) ((v 3)) yy_7 b4_9 b5_10 b6_11 b7_12 b10_13 ∧ NF ff_6 b8_14 b9_15 (tkP ((a 1)) ((v 3)) yy_7) ∧ N8 ff_6 b8_14 ((v 8)) := hp146
          have hW : zW G (tyZ cI cJ cO) A s (mW cI cJ h q (uV (uV (uV (uV (uV (uV (uV v 4 b4_9) 5 b5_10) 6 b6_11) 7 b7_12) 10 b10_13) 8 b8_14) 9 b9_15) (uA a 12 b12_8)) H locs := hW
          have hM : MT (a 1) (v 3) yy_7 b4_9 b5_10 b6_11 b7_12 b10_13 := hp146.2.1
          clear hR
          have hR := MT_Rw hM (by omega) hT
          refine z_b_eq (tgt := 156) hx hb dX11_readBy_149 (by decide) (fun c149 => ?_) (fun c149 => ?_)
          · refine z_iconst (n := 0) hx hb dX11_readBy_156 ?_
            exact z_zret hx hb hr hlk (by first | exact Or.inl rfl | exact Or.inr rfl | omega) hW (⟨ff_6, yy_7, b12_8, b4_9, b5_10, b6_11, b7_12, b10_13, b8_14, b9_15⟩) (bI_f c149) (show _ = _ ∧ MT _ _ _ _ _ _ _ _ ∧ NF _ _ _ _ ∧ N8 _ _ _ from ⟨by unfold Pby; rw [← eb.1, ← hw, if_neg (by omega), if_neg c124, if_neg c135, hp146.1], hM, hp146.2.2.1, (fun q => absurd q c149)⟩) rfl dX11_readBy_157
          · refine z_iconst (n := 1) hx hb dX11_readBy_152 ?_
            refine lv_goto (tgt := 157) hx hb dX11_readBy_153 (by decide) ?_
            exact z_zret hx hb hr hlk (by first | exact Or.inl rfl | exact Or.inr rfl | omega) hW (⟨ff_6, yy_7, b12_8, b4_9, b5_10, b6_11, b7_12, b10_13, b8_14, b9_15⟩) (bI_t c149) (show _ = _ ∧ MT _ _ _ _ _ _ _ _ ∧ NF _ _ _ _ ∧ N8 _ _ _ from ⟨by unfold Pby; rw [← eb.1, ← hw, if_neg (by omega), if_neg c124, if_neg c135, hp146.1], hM, (fun q => absurd c149 q), (fun q => hp146.2.2.2 q)⟩) rfl dX11_readBy_157
        · refine z_bipush hx hb dX11_readBy_138 (by decide +kernel) ?_
          refine lv_goto (tgt := 146) hx hb dX11_readBy_140 (by decide) ?_
          refine z_callV (As := [.int (iI (w + 6)), .int (iI 0), .int (iI 12)]) (rest := []) F (c_told h q (uV (uV (uV (uV (uV v 4 b4_1) 5 b5_2) 6 b6_3) 7 b7_4) 10 b10_5) (uA a 12 (uI (a 12) (w + 5) bw)) (w + 6) 0 12 (tkB (a 1) (v 3) y) (show 0 ≤ (v 3) ∧ (v 3) ≤ 640 by omega) hT hM (show 0 ≤ (w + 6) ∧ (w + 6) < 3483 by omega) (show -2147483648 ≤ 0 ∧ 0 < 2147483648 by omega) (show -2147483648 ≤ 12 ∧ 12 < 2147483648 by omega)) gX11_readBy_X11_told rfl ziX11_told ⟨rfl, rfl, by decide, by decide⟩ rfl hl.1 rfl (Nat.le_of_ble_eq_true rfl) dX11_readBy_146 ⟨Nat.zero_le _, Nat.zero_le _⟩ hW hA [0, 1, 2, 3, 4, 5, 6, 7, 8, 9, 10] rfl (by decide) (fun _ => rfl) (fun u => mW cI cJ h q (uV (uV (uV (uV (uV (uV (uV v 4 u.2.2.2.1) 5 u.2.2.2.2.1) 6 u.2.2.2.2.2.1) 7 u.2.2.2.2.2.2.1) 10 u.2.2.2.2.2.2.2.1) 8 u.2.2.2.2.2.2.2.2.1) 9 u.2.2.2.2.2.2.2.2.2) (uA a 12 u.2.2.1)) (fun _ => rfl) (fun u => [.int (iI (bI (u.1 = 0)))]) (fun _ => rfl) 0 rfl rfl rfl (fun u H locs hp146 hW => ?_)
          obtain ⟨ff_16, yy_17, b12_18, b4_19, b5_20, b6_21, b7_22, b10_23, b8_24, b9_25⟩ := u
          have hp146 : Pnum ((a 1)) ((v 3)) (w + 6) 0 12 (tkB (a 1) (v 3) y) ((uI (a 12) (w + 5) bw)) = (ff_16, yy_17, b12_18) ∧ MT ((a 1)) ((v 3)) yy_17 b4_19 b5_20 b6_21 b7_22 b10_23 ∧ NF ff_16 b8_24 b9_25 (tkP ((a 1)) ((v 3)) yy_17) ∧ N8 ff_16 b8_24 ((v 8)) := hp146
          have hW : zW G (tyZ cI cJ cO) A s (mW cI cJ h q (uV (uV (uV (uV (uV (uV (uV v 4 b4_19) 5 b5_20) 6 b6_21) 7 b7_22) 10 b10_23) 8 b8_24) 9 b9_25) (uA a 12 b12_18)) H locs := hW
          have hM : MT (a 1) (v 3) yy_17 b4_19 b5_20 b6_21 b7_22 b10_23 := hp146.2.1
          clear hR
          have hR := MT_Rw hM (by omega) hT
          refine z_b_eq (tgt := 156) hx hb dX11_readBy_149 (by decide) (fun c149 => ?_) (fun c149 => ?_)
          · refine z_iconst (n := 0) hx hb dX11_readBy_156 ?_
            exact z_zret hx hb hr hlk (by first | exact Or.inl rfl | exact Or.inr rfl | omega) hW (⟨ff_16, yy_17, b12_18, b4_19, b5_20, b6_21, b7_22, b10_23, b8_24, b9_25⟩) (bI_f c149) (show _ = _ ∧ MT _ _ _ _ _ _ _ _ ∧ NF _ _ _ _ ∧ N8 _ _ _ from ⟨by unfold Pby; rw [← eb.1, ← hw, if_neg (by omega), if_neg c124, if_pos c135, hp146.1], hM, hp146.2.2.1, (fun q => absurd q c149)⟩) rfl dX11_readBy_157
          · refine z_iconst (n := 1) hx hb dX11_readBy_152 ?_
            refine lv_goto (tgt := 157) hx hb dX11_readBy_153 (by decide) ?_
            exact z_zret hx hb hr hlk (by first | exact Or.inl rfl | exact Or.inr rfl | omega) hW (⟨ff_16, yy_17, b12_18, b4_19, b5_20, b6_21, b7_22, b10_23, b8_24, b9_25⟩) (bI_t c149) (show _ = _ ∧ MT _ _ _ _ _ _ _ _ ∧ NF _ _ _ _ ∧ N8 _ _ _ from ⟨by unfold Pby; rw [← eb.1, ← hw, if_neg (by omega), if_neg c124, if_pos c135, hp146.1], hM, (fun q => absurd c149 q), (fun q => hp146.2.2.2 q)⟩) rfl dX11_readBy_157
    · refine lv_aload_n hx hb dX11_readBy_103 rfl (lv_at hl 1 rfl) ?_
      refine z_iconst (n := 1) hx hb dX11_readBy_104 ?_
      refine z_callV (As := [.int (iI 1)]) (rest := []) F (c_bad h q v a 1  (show 1 ≤ 1 ∧ 1 ≤ 4 by omega) (show 0 ≤ (v 6) ∧ (v 6) ≤ 4 by omega)) gX11_readBy_X11_bad rfl ziX11_bad ⟨rfl, rfl, by decide, by decide⟩ rfl hl.1 rfl (Nat.le_of_ble_eq_true rfl) dX11_readBy_105 ⟨Nat.zero_le _, Nat.zero_le _⟩ hW hA [0, 1, 2, 3, 4, 5, 6, 7, 8, 9, 10] rfl (by decide) (fun _ => rfl) (fun _ => mW cI cJ h q (uV (uV v 8 (if (v 6) = 1 then 1 else 1)) 9 (v 5)) a) (fun _ => rfl) (fun _ => [.int (iI 0)]) (fun _ => rfl) 0 rfl rfl rfl (fun _ H locs hp105 hW => ?_)
      exact z_zret hx hb hr hlk (by first | exact Or.inl rfl | exact Or.inr rfl | omega) hW (⟨1, y, a 12, v 4, v 5, v 6, v 7, v 10, if (v 6) = 1 then 1 else 1, (v 5)⟩) (bI_f (show ¬ (1 : Int) = 0 by decide)) (show _ = _ ∧ MT _ _ _ _ _ _ _ _ ∧ NF _ _ _ _ ∧ N8 _ _ _ from ⟨by unfold Pby; rw [← eb.1, ← hw, if_pos (by omega)], hM, (fun _ => ⟨(by show (if _ = (1 : Int) then (1 : Int) else _) = _; split <;> omega), hM.2.2.1⟩), (fun q => absurd (show (1 : Int) = 0 from q) (by decide))⟩) rfl dX11_readBy_108
  · intro J26
    refine lv_aload_n hx hb dX11_readBy_0 rfl (lv_at hl 0 rfl) ?_
    refine z_callV (As := []) (rest := []) F (c_isIndexWordw h q v a   (show 0 ≤ (v 6) ∧ (v 6) ≤ 4 by omega) hR.2.2) gX11_readBy_X11_isIndexWord rfl ziX11_isIndexWord ⟨rfl, rfl, by decide, by decide⟩ rfl hl.1 rfl (Nat.le_of_ble_eq_true rfl) dX11_readBy_1 ⟨Nat.zero_le _, Nat.zero_le _⟩ hW hA [0, 1, 2, 3, 4, 5, 6, 7, 8, 9, 10] rfl (by decide) (fun _ => rfl) (fun _ => mW cI cJ h q v a) (fun _ => rfl) (fun _ => [.int (iI (bI ((v 6) = 2 ∧ (v 10) = 5061606)))]) (fun _ => rfl) 0 rfl rfl rfl (fun _ H locs hp1 hW => ?_)
    refine z_b_eq (tgt := 11) hx hb dX11_readBy_4 (by decide) (fun c4 => ?_) (fun c4 => ?_)
    · refine lv_aload_n hx hb dX11_readBy_11 rfl (lv_at hl 0 rfl) ?_
      refine z_bipush hx hb dX11_readBy_12 (by decide +kernel) ?_
      refine z_bipush hx hb dX11_readBy_14 (by decide +kernel) ?_
      refine z_bipush hx hb dX11_readBy_16 (by decide +kernel) ?_
      refine z_bipush hx hb dX11_readBy_18 (by decide +kernel) ?_
      refine z_bipush hx hb dX11_readBy_20 (by decide +kernel) ?_
      refine z_bipush hx hb dX11_readBy_22 (by decide +kernel) ?_
      refine z_callS (As := [.int (iI 109), .int (iI 97), .int (iI 114), .int (iI 107), .int (iI 101), .int (iI 116)]) (rest := [.ref h]) F (c_six 109 97 114 107 101 116  (show 0 ≤ 109 ∧ 109 ≤ 255 by omega) (show 0 ≤ 97 ∧ 97 ≤ 255 by omega) (show 0 ≤ 114 ∧ 114 ≤ 255 by omega) (show 0 ≤ 107 ∧ 107 ≤ 255 by omega) (show 0 ≤ 101 ∧ 101 ≤ 255 by omega) (show 0 ≤ 116 ∧ 116 ≤ 255 by omega)) gX11_readBy_X11_six rfl ziX11_six ⟨rfl, rfl, by decide, by decide⟩ rfl hl.1 rfl (Nat.le_of_ble_eq_true rfl) dX11_readBy_24 ⟨Nat.zero_le _, Nat.zero_le _⟩ hW hA [] rfl (by decide) (fun _ => rfl) (fun _ => mW cI cJ h q v a) (fun _ => rfl) (fun _ => [.long (lI (729 * (729 * (27 * (109 - 96) + 97 - 96) + (27 * (114 - 96) + 107 - 96)) + (27 * (101 - 96) + 116 - 96))), .ref h]) (fun _ => rfl) (fun _ H locs hp24 hW => ?_)
      refine z_callV (As := [.long (lI (729 * (729 * (27 * (109 - 96) + 97 - 96) + (27 * (114 - 96) + 107 - 96)) + (27 * (101 - 96) + 116 - 96)))]) (rest := []) F (c_isWordw h q v a (729 * (729 * (27 * (109 - 96) + 97 - 96) + (27 * (114 - 96) + 107 - 96)) + (27 * (101 - 96) + 116 - 96))  (show -9223372036854775808 ≤ (729 * (729 * (27 * (109 - 96) + 97 - 96) + (27 * (114 - 96) + 107 - 96)) + (27 * (101 - 96) + 116 - 96)) ∧ (729 * (729 * (27 * (109 - 96) + 97 - 96) + (27 * (114 - 96) + 107 - 96)) + (27 * (101 - 96) + 116 - 96)) < 9223372036854775808 by omega) (show 0 ≤ (v 6) ∧ (v 6) ≤ 4 by omega) hR.2.2) gX11_readBy_X11_isWord rfl ziX11_isWord ⟨rfl, rfl, by decide, by decide⟩ rfl hl.1 rfl (Nat.le_of_ble_eq_true rfl) dX11_readBy_27 ⟨Nat.zero_le _, Nat.zero_le _⟩ hW hA [0, 1, 2, 3, 4, 5, 6, 7, 8, 9, 10] rfl (by decide) (fun _ => rfl) (fun _ => mW cI cJ h q v a) (fun _ => rfl) (fun _ => [.int (iI (bI ((v 6) = 2 ∧ (v 10) = (729 * (729 * (27 * (109 - 96) + 97 - 96) + (27 * (114 - 96) + 107 - 96)) + (27 * (101 - 96) + 116 - 96)))))]) (fun _ => rfl) 0 rfl rfl rfl (fun _ H locs hp27 hW => ?_)
      refine z_b_eq (tgt := 37) hx hb dX11_readBy_30 (by decide) (fun c30 => ?_) (fun c30 => ?_)
      · refine lv_aload_n hx hb dX11_readBy_37 rfl (lv_at hl 0 rfl) ?_
        refine z_ldc2 hx hb (729) hown (hts _ (List.mem_of_getElem? (i := 1) rfl)) (by decide +kernel) dX11_readBy_38 ?_
        refine z_bipush hx hb dX11_readBy_41 (by decide +kernel) ?_
        refine z_bipush hx hb dX11_readBy_43 (by decide +kernel) ?_
        refine z_bipush hx hb dX11_readBy_45 (by decide +kernel) ?_
        refine z_bipush hx hb dX11_readBy_47 (by decide +kernel) ?_
        refine z_bipush hx hb dX11_readBy_49 (by decide +kernel) ?_
        refine z_bipush hx hb dX11_readBy_51 (by decide +kernel) ?_
        refine z_callS (As := [.int (iI 116), .int (iI 117), .int (iI 114), .int (iI 110), .int (iI 111), .int (iI 118)]) (rest := [.long (lI 729), .ref h]) F (c_six 116 117 114 110 111 118  (show 0 ≤ 116 ∧ 116 ≤ 255 by omega) (show 0 ≤ 117 ∧ 117 ≤ 255 by omega) (show 0 ≤ 114 ∧ 114 ≤ 255 by omega) (show 0 ≤ 110 ∧ 110 ≤ 255 by omega) (show 0 ≤ 111 ∧ 111 ≤ 255 by omega) (show 0 ≤ 118 ∧ 118 ≤ 255 by omega)) gX11_readBy_X11_six rfl ziX11_six ⟨rfl, rfl, by decide, by decide⟩ rfl hl.1 rfl (Nat.le_of_ble_eq_true rfl) dX11_readBy_53 ⟨Nat.zero_le _, Nat.zero_le _⟩ hW hA [] rfl (by decide) (fun _ => rfl) (fun _ => mW cI cJ h q v a) (fun _ => rfl) (fun _ => [.long (lI (729 * (729 * (27 * (116 - 96) + 117 - 96) + (27 * (114 - 96) + 110 - 96)) + (27 * (111 - 96) + 118 - 96))), .long (lI 729), .ref h]) (fun _ => rfl) (fun _ H locs hp53 hW => ?_)
        refine z_lmul hx hb dX11_readBy_56 ?_
        refine z_bipush hx hb dX11_readBy_57 (by decide +kernel) ?_
        refine z_bipush hx hb dX11_readBy_59 (by decide +kernel) ?_
        refine z_callS (As := [.int (iI 101), .int (iI 114)]) (rest := [.long (lI (729 * (729 * (729 * (27 * (116 - 96) + 117 - 96) + (27 * (114 - 96) + 110 - 96)) + (27 * (111 - 96) + 118 - 96)))), .ref h]) F (c_two 101 114  (show 0 ≤ 101 ∧ 101 ≤ 255 by omega) (show 0 ≤ 114 ∧ 114 ≤ 255 by omega)) gX11_readBy_X11_two rfl ziX11_two ⟨rfl, rfl, by decide, by decide⟩ rfl hl.1 rfl (Nat.le_of_ble_eq_true rfl) dX11_readBy_61 ⟨Nat.zero_le _, Nat.zero_le _⟩ hW hA [] rfl (by decide) (fun _ => rfl) (fun _ => mW cI cJ h q v a) (fun _ => rfl) (fun _ => [.long (lI (27 * (101 - 96) + 114 - 96)), .long (lI (729 * (729 * (729 * (27 * (116 - 96) + 117 - 96) + (27 * (114 - 96) + 110 - 96)) + (27 * (111 - 96) + 118 - 96)))), .ref h]) (fun _ => rfl) (fun _ H locs hp61 hW => ?_)
        refine z_ladd hx hb dX11_readBy_64 ?_
        refine z_callV (As := [.long (lI ((729 * (729 * (729 * (27 * (116 - 96) + 117 - 96) + (27 * (114 - 96) + 110 - 96)) + (27 * (111 - 96) + 118 - 96))) + (27 * (101 - 96) + 114 - 96)))]) (rest := []) F (c_isWordw h q v a ((729 * (729 * (729 * (27 * (116 - 96) + 117 - 96) + (27 * (114 - 96) + 110 - 96)) + (27 * (111 - 96) + 118 - 96))) + (27 * (101 - 96) + 114 - 96))  (show -9223372036854775808 ≤ ((729 * (729 * (729 * (27 * (116 - 96) + 117 - 96) + (27 * (114 - 96) + 110 - 96)) + (27 * (111 - 96) + 118 - 96))) + (27 * (101 - 96) + 114 - 96)) ∧ ((729 * (729 * (729 * (27 * (116 - 96) + 117 - 96) + (27 * (114 - 96) + 110 - 96)) + (27 * (111 - 96) + 118 - 96))) + (27 * (101 - 96) + 114 - 96)) < 9223372036854775808 by omega) (show 0 ≤ (v 6) ∧ (v 6) ≤ 4 by omega) hR.2.2) gX11_readBy_X11_isWord rfl ziX11_isWord ⟨rfl, rfl, by decide, by decide⟩ rfl hl.1 rfl (Nat.le_of_ble_eq_true rfl) dX11_readBy_65 ⟨Nat.zero_le _, Nat.zero_le _⟩ hW hA [0, 1, 2, 3, 4, 5, 6, 7, 8, 9, 10] rfl (by decide) (fun _ => rfl) (fun _ => mW cI cJ h q v a) (fun _ => rfl) (fun _ => [.int (iI (bI ((v 6) = 2 ∧ (v 10) = ((729 * (729 * (729 * (27 * (116 - 96) + 117 - 96) + (27 * (114 - 96) + 110 - 96)) + (27 * (111 - 96) + 118 - 96))) + (27 * (101 - 96) + 114 - 96)))))]) (fun _ => rfl) 0 rfl rfl rfl (fun _ H locs hp65 hW => ?_)
        refine z_b_eq (tgt := 75) hx hb dX11_readBy_68 (by decide) (fun c68 => ?_) (fun c68 => ?_)
        · refine lv_aload_n hx hb dX11_readBy_75 rfl (lv_at hl 0 rfl) ?_
          refine z_bipush hx hb dX11_readBy_76 (by decide +kernel) ?_
          refine z_bipush hx hb dX11_readBy_78 (by decide +kernel) ?_
          refine z_bipush hx hb dX11_readBy_80 (by decide +kernel) ?_
          refine z_bipush hx hb dX11_readBy_82 (by decide +kernel) ?_
          refine z_callS (As := [.int (iI 115), .int (iI 116), .int (iI 101), .int (iI 112)]) (rest := [.ref h]) F (c_four 115 116 101 112  (show 0 ≤ 115 ∧ 115 ≤ 255 by omega) (show 0 ≤ 116 ∧ 116 ≤ 255 by omega) (show 0 ≤ 101 ∧ 101 ≤ 255 by omega) (show 0 ≤ 112 ∧ 112 ≤ 255 by omega)) gX11_readBy_X11_four rfl ziX11_four ⟨rfl, rfl, by decide, by decide⟩ rfl hl.1 rfl (Nat.le_of_ble_eq_true rfl) dX11_readBy_84 ⟨Nat.zero_le _, Nat.zero_le _⟩ hW hA [] rfl (by decide) (fun _ => rfl) (fun _ => mW cI cJ h q v a) (fun _ => rfl) (fun _ => [.long (lI (729 * (27 * (115 - 96) + 116 - 96) + (27 * (101 - 96) + 112 - 96))), .ref h]) (fun _ => rfl) (fun _ H locs hp84 hW => ?_)
          refine z_callV (As := [.long (lI (729 * (27 * (115 - 96) + 116 - 96) + (27 * (101 - 96) + 112 - 96)))]) (rest := []) F (c_isWordw h q v a (729 * (27 * (115 - 96) + 116 - 96) + (27 * (101 - 96) + 112 - 96))  (show -9223372036854775808 ≤ (729 * (27 * (115 - 96) + 116 - 96) + (27 * (101 - 96) + 112 - 96)) ∧ (729 * (27 * (115 - 96) + 116 - 96) + (27 * (101 - 96) + 112 - 96)) < 9223372036854775808 by omega) (show 0 ≤ (v 6) ∧ (v 6) ≤ 4 by omega) hR.2.2) gX11_readBy_X11_isWord rfl ziX11_isWord ⟨rfl, rfl, by decide, by decide⟩ rfl hl.1 rfl (Nat.le_of_ble_eq_true rfl) dX11_readBy_87 ⟨Nat.zero_le _, Nat.zero_le _⟩ hW hA [0, 1, 2, 3, 4, 5, 6, 7, 8, 9, 10] rfl (by decide) (fun _ => rfl) (fun _ => mW cI cJ h q v a) (fun _ => rfl) (fun _ => [.int (iI (bI ((v 6) = 2 ∧ (v 10) = (729 * (27 * (115 - 96) + 116 - 96) + (27 * (101 - 96) + 112 - 96)))))]) (fun _ => rfl) 0 rfl rfl rfl (fun _ H locs hp87 hW => ?_)
          refine z_b_eq (tgt := 97) hx hb dX11_readBy_90 (by decide) (fun c90 => ?_) (fun c90 => ?_)
          · refine z_iconst (n := 0) hx hb dX11_readBy_97 ?_
            exact J26 0 _ _ _ ⟨⟨by have n6 : ¬ KND (a 1) (v 3) y = 6 := fun k9 => c4 (by have t := KND_6.mp k9; have := hM.2.2.2.1; have := hM.2.2.2.2.1; omega); have n9 : ¬ KND (a 1) (v 3) y = 9 := fun k9 => c30 (by have t := KND_9.mp k9; have := hM.2.2.2.1; have := hM.2.2.2.2.1; omega); have n10 : ¬ KND (a 1) (v 3) y = 10 := fun k9 => c68 (by have t := KND_10.mp k9; have := hM.2.2.2.1; have := hM.2.2.2.2.1; omega); have n11 : ¬ KND (a 1) (v 3) y = 11 := fun k9 => c90 (by have t := KND_11.mp k9; have := hM.2.2.2.1; have := hM.2.2.2.2.1; omega); unfold BW; rw [if_neg n6, if_neg n9, if_neg n10, if_neg n11], by omega⟩, hW, (lv_sub hl [0, 1] rfl)⟩
          · refine z_iconst (n := 4) hx hb dX11_readBy_93 ?_
            refine lv_goto (tgt := 98) hx hb dX11_readBy_94 (by decide) ?_
            exact J26 4 _ _ _ ⟨⟨by have k9 := (KND_11 (T := a 1) (z := v 3) (y := y)).mpr ⟨by have := hM.2.2.2.1; omega, by have := hM.2.2.2.2.1 (by omega); omega⟩; unfold BW; rw [k9]; rfl, by omega⟩, hW, (lv_sub hl [0, 1] rfl)⟩
        · refine z_iconst (n := 3) hx hb dX11_readBy_71 ?_
          refine lv_goto (tgt := 98) hx hb dX11_readBy_72 (by decide) ?_
          exact J26 3 _ _ _ ⟨⟨by have k9 := (KND_10 (T := a 1) (z := v 3) (y := y)).mpr ⟨by have := hM.2.2.2.1; omega, by have := hM.2.2.2.2.1 (by omega); omega⟩; unfold BW; rw [k9]; rfl, by omega⟩, hW, (lv_sub hl [0, 1] rfl)⟩
      · refine z_iconst (n := 2) hx hb dX11_readBy_33 ?_
        refine lv_goto (tgt := 98) hx hb dX11_readBy_34 (by decide) ?_
        exact J26 2 _ _ _ ⟨⟨by have k9 := (KND_9 (T := a 1) (z := v 3) (y := y)).mpr ⟨by have := hM.2.2.2.1; omega, by have := hM.2.2.2.2.1 (by omega); omega⟩; unfold BW; rw [k9]; rfl, by omega⟩, hW, (lv_sub hl [0, 1] rfl)⟩
    · refine z_iconst (n := 1) hx hb dX11_readBy_7 ?_
      refine lv_goto (tgt := 98) hx hb dX11_readBy_8 (by decide) ?_
      exact J26 1 _ _ _ ⟨⟨by have k9 := (KND_6 (T := a 1) (z := v 3) (y := y)).mpr ⟨by have := hM.2.2.2.1; omega, by have := hM.2.2.2.2.1 (by omega); omega⟩; unfold BW; rw [k9]; rfl, by omega⟩, hW, (lv_sub hl [0, 1] rfl)⟩
