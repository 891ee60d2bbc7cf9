/-! the class: parts -/
theorem hiX4_readBy_X4 : ∀ w ∈ wsX40, w ∈ wsX4_readBy := fun _ h => List.mem_cons_of_mem _ (List.mem_append_left _ (List.mem_append_left _ (List.mem_append_right _ h)))
theorem hiX4_readBy_X2 : ∀ w ∈ wsX20, w ∈ wsX4_readBy := fun _ h => List.mem_cons_of_mem _ (List.mem_append_left _ (List.mem_append_right _ h))
theorem hiX4_readBy_X7 : ∀ w ∈ wsX70, w ∈ wsX4_readBy := fun _ h => List.mem_cons_of_mem _ (List.mem_append_right _ h)
theorem ziX4_readBy : yX4_readBy.cls = RX4 ∧ yX4_readBy.cls ≠ "java/lang/invoke/MethodHandle" ∧ yX4_readBy.cls ≠ "java/lang/invoke/VarHandle" ∧ (parseMethodDescriptor yX4_readBy.desc).map (fun d => d.parameters.length) = some 1 := by decide +kernel
set_option maxHeartbeats 4000000 in
set_option maxRecDepth 100000 in
theorem c_X4_readBy {l : Launch} {G : va_G} {cI cJ cO : ClassId} (N : Int → Int) (x : Int) (hd : Nat) (qd : Nat → Nat) (vd : Nat → Int) (ad : Nat → Int → Int) (qo : Nat → Nat) (vo : Nat → Int) (ao : Nat → Int → Int) (he : Nat) (qe : Nat → Nat) (ve : Nat → Int) (ae : Nat → Int → Int)  (T : Int → Int) (z : Int) (y : Int) (hK : TKS T z (ao 0) (ao 1) (ao 2) (vo 3)) (hR : RT T z y (vo 3) (vd 3) (vd 4) (vd 5) (vd 2)) : zC l yX4_readBy wsX4_readBy { frames := 2, cells := 0, slots := 0, locals := 43 } G (tyZ cI cJ cO) (S := (Int) × (Int) × (Int → Int) × Int × Int × Int × Int × Int × Int × Int × Int) [.ref hd, .ref he] ((rW cI cJ hd qd vd ad) ++ ((sW cI cJ (qd 0) qo vo ao) ++ (lW cI cJ he qe ve ae))) (zI (fun u => bI (u.1 = 0))) (fun u => Pby T z x y N = (u.1, u.2.1, u.2.2.1) ∧ RT T z u.2.1 (vo 3) u.2.2.2.2.2.1 u.2.2.2.2.2.2.1 u.2.2.2.2.2.2.2.1 u.2.2.2.2.1 ∧ NF1 u.1 u.2.2.2.1 ∧ N8 u.1 u.2.2.2.1 (vd 1) ∧ BYo u.1 u.2.2.1 N x u.2.2.2.2.2.2.2.2.2.1 u.2.2.2.2.2.2.2.2.2.2 (ve 10)) (fun u => (rW cI cJ hd qd (uV (uV (uV (uV (uV (uV vd 1 u.2.2.2.1) 2 u.2.2.2.2.1) 3 u.2.2.2.2.2.1) 4 u.2.2.2.2.2.2.1) 5 u.2.2.2.2.2.2.2.1) 6 u.2.2.2.2.2.2.2.2.1) ad) ++ ((sW cI cJ (qd 0) qo vo ao) ++ (lW cI cJ he qe (uV (uV ve 9 u.2.2.2.2.2.2.2.2.2.1) 10 u.2.2.2.2.2.2.2.2.2.2) ae))) 0 0 := by
  refine z_start (cc := cX4_readBy) (maxL := 3) (ret := (some .boolean)) (by decide) rfl (Nat.le_of_ble_eq_true rfl) ?_
  intro p e s m below meth c A ls F hr hlk hnm hAe hA hW hl
  have hx := F.1
  have hb := F.2.1
  have hown : s.vm.findClass RX4 = some m.cls := F.2.2.2.1
  have hts := F.2.2.2.2
  have hl : lv_has ls 3 [(0, .ref hd), (1, .ref he)] := hl
  have hk9 := KND_R (T := T) (z := z) (y := y)
  have ek9 := hR.2.2.2.1
  refine lv_aload_n hx hb dX4_readBy_0 rfl (lv_at hl 0 rfl) ?_
  refine z_get (v := .int (iI (vd 4))) hx hb hts hiX4_readBy_X4 hown hW 0 4 1 rfl rfl rfl (by decide) rfl dX4_readBy_1 ?_
  refine z_name (fun kk ek => ?_)
  rcases BWc (KND T z y) with e9 | ⟨hkn, e9⟩ | ⟨hkn, e9⟩ | ⟨hkn, e9⟩ | ⟨hkn, e9⟩
  · have ek2 : kk = KND T z y := ek.trans ek9
    have e9 : BW kk = 0 := by rw [ek2]; exact e9
    refine lv_istore_n (lv' := [(2, .int (iI kk)), (0, .ref hd), (1, .ref he)]) hx hb dX4_readBy_4 rfl hl (by decide) rfl (fun ls hl => ?_)
    refine lv_iload_n hx hb dX4_readBy_5 rfl (lv_at hl 0 rfl) ?_
    by_cases c6_6 : kk = 6
    · exact absurd e9 (by rw [c6_6]; decide)
    by_cases c6_7 : kk = 7
    · refine z_tabIn (z := 7) (tgt := 76) hx hb dX4_readBy_6 c6_7 (by decide) (by decide) (by decide) rfl (by decide) ?_
      refine lv_aload_n hx hb dX4_readBy_76 rfl (lv_at hl 1 rfl) ?_
      refine z_iconst (n := 1) hx hb dX4_readBy_77 ?_
      refine z_callV (As := [.int (iI 1)]) (rest := []) F (c_X4_refuse  hd qd vd ad 1  (show 1 ≤ 1 ∧ 1 ≤ 4 by omega)) gX4_readBy_X4_refuse rfl ziX4_refuse ⟨rfl, rfl, by decide, by decide⟩ rfl hl.1 rfl (Nat.le_of_ble_eq_true rfl) dX4_readBy_78 ⟨Nat.zero_le _, Nat.zero_le _⟩ hW hA [0] rfl (by decide) (fun _ => rfl) (fun _ => (rW cI cJ hd qd (uV vd 1 1) ad) ++ ((sW cI cJ (qd 0) qo vo ao) ++ (lW cI cJ he qe ve ae))) (fun _ => rfl) (fun _ => [.int (iI 0)]) (fun _ => rfl) 0 rfl rfl rfl (fun _ H locs hp78 hW => ?_)
      have hW : zW G (tyZ cI cJ cO) A s ((rW cI cJ hd qd (uV vd 1 1) ad) ++ ((sW cI cJ (qd 0) qo vo ao) ++ (lW cI cJ he qe ve ae))) H locs := hW
      exact z_zret hx hb hr hlk (by first | exact Or.inl rfl | exact Or.inr rfl | omega) hW (⟨1, y, N, 1, vd 2, vd 3, vd 4, vd 5, vd 6, ve 9, ve 10⟩) (bI_f (show ¬ (1 : Int) = 0 by decide)) (show _ = _ ∧ RT _ _ _ _ _ _ _ _ ∧ NF1 _ _ ∧ N8 _ _ _ ∧ BYo _ _ _ _ _ _ _ from ⟨by unfold Pby; rw [if_pos (by rw [← ek2]; exact e9)], hR, (fun _ => rfl), (fun q => absurd (show (1 : Int) = 0 from q) (by decide)), (fun q => absurd (show (1 : Int) = 0 from q) (by decide))⟩) rfl dX4_readBy_81
    by_cases c6_8 : kk = 8
    · refine z_tabIn (z := 8) (tgt := 76) hx hb dX4_readBy_6 c6_8 (by decide) (by decide) (by decide) rfl (by decide) ?_
      refine lv_aload_n hx hb dX4_readBy_76 rfl (lv_at hl 1 rfl) ?_
      refine z_iconst (n := 1) hx hb dX4_readBy_77 ?_
      refine z_callV (As := [.int (iI 1)]) (rest := []) F (c_X4_refuse  hd qd vd ad 1  (show 1 ≤ 1 ∧ 1 ≤ 4 by omega)) gX4_readBy_X4_refuse rfl ziX4_refuse ⟨rfl, rfl, by decide, by decide⟩ rfl hl.1 rfl (Nat.le_of_ble_eq_true rfl) dX4_readBy_78 ⟨Nat.zero_le _, Nat.zero_le _⟩ hW hA [0] rfl (by decide) (fun _ => rfl) (fun _ => (rW cI cJ hd qd (uV vd 1 1) ad) ++ ((sW cI cJ (qd 0) qo vo ao) ++ (lW cI cJ he qe ve ae))) (fun _ => rfl) (fun _ => [.int (iI 0)]) (fun _ => rfl) 0 rfl rfl rfl (fun _ H locs hp78 hW => ?_)
      have hW : zW G (tyZ cI cJ cO) A s ((rW cI cJ hd qd (uV vd 1 1) ad) ++ ((sW cI cJ (qd 0) qo vo ao) ++ (lW cI cJ he qe ve ae))) H locs := hW
      exact z_zret hx hb hr hlk (by first | exact Or.inl rfl | exact Or.inr rfl | omega) hW (⟨1, y, N, 1, vd 2, vd 3, vd 4, vd 5, vd 6, ve 9, ve 10⟩) (bI_f (show ¬ (1 : Int) = 0 by decide)) (show _ = _ ∧ RT _ _ _ _ _ _ _ _ ∧ NF1 _ _ ∧ N8 _ _ _ ∧ BYo _ _ _ _ _ _ _ from ⟨by unfold Pby; rw [if_pos (by rw [← ek2]; exact e9)], hR, (fun _ => rfl), (fun q => absurd (show (1 : Int) = 0 from q) (by decide)), (fun q => absurd (show (1 : Int) = 0 from q) (by decide))⟩) rfl dX4_readBy_81
    by_cases c6_9 : kk = 9
    · exact absurd e9 (by rw [c6_9]; decide)
    by_cases c6_10 : kk = 10
    · exact absurd e9 (by rw [c6_10]; decide)
    by_cases c6_11 : kk = 11
    · exact absurd e9 (by rw [c6_11]; decide)
    refine z_tabOut (tgt := 76) hx hb dX4_readBy_6 ⟨by omega, by omega⟩ (by omega) (by decide) ?_
    refine lv_aload_n hx hb dX4_readBy_76 rfl (lv_at hl 1 rfl) ?_
    refine z_iconst (n := 1) hx hb dX4_readBy_77 ?_
    refine z_callV (As := [.int (iI 1)]) (rest := []) F (c_X4_refuse  hd qd vd ad 1  (show 1 ≤ 1 ∧ 1 ≤ 4 by omega)) gX4_readBy_X4_refuse rfl ziX4_refuse ⟨rfl, rfl, by decide, by decide⟩ rfl hl.1 rfl (Nat.le_of_ble_eq_true rfl) dX4_readBy_78 ⟨Nat.zero_le _, Nat.zero_le _⟩ hW hA [0] rfl (by decide) (fun _ => rfl) (fun _ => (rW cI cJ hd qd (uV vd 1 1) ad) ++ ((sW cI cJ (qd 0) qo vo ao) ++ (lW cI cJ he qe ve ae))) (fun _ => rfl) (fun _ => [.int (iI 0)]) (fun _ => rfl) 0 rfl rfl rfl (fun _ H locs hp78 hW => ?_)
    have hW : zW G (tyZ cI cJ cO) A s ((rW cI cJ hd qd (uV vd 1 1) ad) ++ ((sW cI cJ (qd 0) qo vo ao) ++ (lW cI cJ he qe ve ae))) H locs := hW
    exact z_zret hx hb hr hlk (by first | exact Or.inl rfl | exact Or.inr rfl | omega) hW (⟨1, y, N, 1, vd 2, vd 3, vd 4, vd 5, vd 6, ve 9, ve 10⟩) (bI_f (show ¬ (1 : Int) = 0 by decide)) (show _ = _ ∧ RT _ _ _ _ _ _ _ _ ∧ NF1 _ _ ∧ N8 _ _ _ ∧ BYo _ _ _ _ _ _ _ from ⟨by unfold Pby; rw [if_pos (by rw [← ek2]; exact e9)], hR, (fun _ => rfl), (fun q => absurd (show (1 : Int) = 0 from q) (by decide)), (fun q => absurd (show (1 : Int) = 0 from q) (by decide))⟩) rfl dX4_readBy_81
  · have e1 : kk = 6 := ek.trans (ek9.trans hkn)
    subst e1
    refine lv_istore_n (lv' := [(2, .int (iI 6)), (0, .ref hd), (1, .ref he)]) hx hb dX4_readBy_4 rfl hl (by decide) rfl (fun ls hl => ?_)
    refine lv_iload_n hx hb dX4_readBy_5 rfl (lv_at hl 0 rfl) ?_
    refine z_tabIn (z := 6) (tgt := 44) hx hb dX4_readBy_6 rfl (by decide) (by decide) (by decide) rfl (by decide) ?_
    refine lv_aload_n hx hb dX4_readBy_44 rfl (lv_at hl 2 rfl) ?_
    refine z_iconst (n := 1) hx hb dX4_readBy_45 ?_
    refine z_put hx hb hts hiX4_readBy_X2 tyX2 tyX2_ok nmX2 hown hW 5 9 2 rfl rfl (by decide) (Nat.le_of_ble_eq_true rfl) rfl rfl rfl rfl dX4_readBy_46 (fun H locs hW => ?_)
    have hW : zW G (tyZ cI cJ cO) A s ((rW cI cJ hd qd vd ad) ++ ((sW cI cJ (qd 0) qo vo ao) ++ (lW cI cJ he qe (uV ve 9 1) ae))) H locs := hW
    refine lv_goto (tgt := 82) hx hb dX4_readBy_49 (by decide) ?_
    refine lv_aload_n hx hb dX4_readBy_82 rfl (lv_at hl 1 rfl) ?_
    refine z_callV (As := []) (rest := []) F (c_X4_advance  hd qd vd ad qo vo ao  T z y hK hR (show 2 ≤ KND T z y by omega)) gX4_readBy_X4_advance rfl ziX4_advance ⟨rfl, rfl, by decide, by decide⟩ rfl hl.1 rfl (Nat.le_of_ble_eq_true rfl) dX4_readBy_83 ⟨Nat.zero_le _, Nat.zero_le _⟩ hW hA [0, 1, 2, 3, 4] rfl (by decide) (fun _ => rfl) (fun u => (rW cI cJ hd qd (uV (uV (uV (uV vd 2 u.1) 3 u.2.1) 4 u.2.2.1) 5 u.2.2.2) ad) ++ ((sW cI cJ (qd 0) qo vo ao) ++ (lW cI cJ he qe (uV ve 9 1) ae))) (fun _ => rfl) (fun u => []) (fun _ => rfl) 0 rfl rfl rfl (fun u H locs hp83 hW => ?_)
    obtain ⟨b2_1, b3_2, b4_3, b5_4⟩ := u
    have hp83 : RT T z (tkB T z y) ((vo 3)) b3_2 b4_3 b5_4 b2_1 := hp83
    have hW : zW G (tyZ cI cJ cO) A s ((rW cI cJ hd qd (uV (uV (uV (uV vd 2 b2_1) 3 b3_2) 4 b4_3) 5 b5_4) ad) ++ ((sW cI cJ (qd 0) qo vo ao) ++ (lW cI cJ he qe (uV ve 9 1) ae))) H locs := hW
    have hR : RT T z (tkB T z y) (vo 3) b3_2 b4_3 b5_4 b2_1 := hp83
    clear hp83
    have hy9 := hR.1
    have hk9 := KND_R (T := T) (z := z) (y := tkB T z y)
    have ek9 := hR.2.2.2.1
    refine lv_iload_n hx hb dX4_readBy_86 rfl (lv_at hl 0 rfl) ?_
    refine z_bipush hx hb dX4_readBy_87 (by decide +kernel) ?_
    refine z_icmp_ne (tgt := 94) hx hb dX4_readBy_89 (by decide) (by decide) (by decide) (fun c89 => ?_) (fun c89 => ?_)
    · refine lv_aload_n hx hb dX4_readBy_94 rfl (lv_at hl 1 rfl) ?_
      refine z_iconst (n := 0) hx hb dX4_readBy_95 ?_
      refine lv_iload_n hx hb dX4_readBy_96 rfl (lv_at hl 0 rfl) ?_
      refine z_bipush hx hb dX4_readBy_97 (by decide +kernel) ?_
      refine z_icmp_ne (tgt := 107) hx hb dX4_readBy_99 (by decide) (by decide) (by decide) (fun c99 => ?_) (fun c99 => ?_)
      · exfalso; omega
      · refine z_bipush hx hb dX4_readBy_102 (by decide +kernel) ?_
        refine lv_goto (tgt := 110) hx hb dX4_readBy_104 (by decide) ?_
        refine z_callV (As := [.int (iI 0), .int (iI 12)]) (rest := []) F (c_X4_takeNumber  hd qd (uV (uV (uV (uV vd 2 b2_1) 3 b3_2) 4 b4_3) 5 b5_4) ad qo vo ao 0 12 T z (tkB T z y) hK hR (show -2147483648 ≤ 0 ∧ 0 < 2147483648 by omega) (show -2147483648 ≤ 12 ∧ 12 < 2147483648 by omega)) gX4_readBy_X4_takeNumber rfl ziX4_takeNumber ⟨rfl, rfl, by decide, by decide⟩ rfl hl.1 rfl (Nat.le_of_ble_eq_true rfl) dX4_readBy_110 ⟨Nat.zero_le _, Nat.zero_le _⟩ hW hA [0, 1, 2, 3, 4] rfl (by decide) (fun _ => rfl) (fun u => (rW cI cJ hd qd (uV (uV (uV (uV (uV (uV vd 1 u.2.2.1) 2 u.2.2.2.1) 3 u.2.2.2.2.1) 4 u.2.2.2.2.2.1) 5 u.2.2.2.2.2.2.1) 6 u.2.2.2.2.2.2.2) ad) ++ ((sW cI cJ (qd 0) qo vo ao) ++ (lW cI cJ he qe (uV ve 9 1) ae))) (fun _ => rfl) (fun u => [.int (iI (bI (u.1 = 0)))]) (fun _ => rfl) 0 rfl rfl rfl (fun u H locs hp110 hW => ?_)
        obtain ⟨ff_5, yy_6, b1_7, b2_8, b3_9, b4_10, b5_11, b6_12⟩ := u
        have hp110 : Ptn T z 0 12 (tkB T z y) = (ff_5, yy_6) ∧ RT T z yy_6 ((vo 3)) b3_9 b4_10 b5_11 b2_8 ∧ NF1 ff_5 b1_7 ∧ N8 ff_5 b1_7 ((vd 1)) ∧ N8 ff_5 b6_12 (tkN T z (tkB T z y)) := hp110
        have hW : zW G (tyZ cI cJ cO) A s ((rW cI cJ hd qd (uV (uV (uV (uV (uV (uV vd 1 b1_7) 2 b2_8) 3 b3_9) 4 b4_10) 5 b5_11) 6 b6_12) ad) ++ ((sW cI cJ (qd 0) qo vo ao) ++ (lW cI cJ he qe (uV ve 9 1) ae))) H locs := hW
        have hR : RT T z yy_6 (vo 3) b3_9 b4_10 b5_11 b2_8 := hp110.2.1
        have hk9 := KND_R (T := T) (z := z) (y := yy_6)
        have ek9 := hR.2.2.2.1
        refine z_b_ne (tgt := 118) hx hb dX4_readBy_113 (by decide) (fun c113 => ?_) (fun c113 => ?_)
        · refine lv_aload_n hx hb dX4_readBy_118 rfl (lv_at hl 2 rfl) ?_
          refine lv_aload_n hx hb dX4_readBy_119 rfl (lv_at hl 1 rfl) ?_
          refine z_get (v := .int (iI b6_12)) hx hb hts hiX4_readBy_X4 hown hW 0 6 3 rfl rfl rfl (by decide) rfl dX4_readBy_120 ?_
          refine z_put hx hb hts hiX4_readBy_X2 tyX2 tyX2_ok nmX2 hown hW 5 10 4 rfl rfl (by decide) (Nat.le_of_ble_eq_true rfl) rfl rfl rfl rfl dX4_readBy_123 (fun H locs hW => ?_)
          have hW : zW G (tyZ cI cJ cO) A s ((rW cI cJ hd qd (uV (uV (uV (uV (uV (uV vd 1 b1_7) 2 b2_8) 3 b3_9) 4 b4_10) 5 b5_11) 6 b6_12) ad) ++ ((sW cI cJ (qd 0) qo vo ao) ++ (lW cI cJ he qe (uV (uV ve 9 1) 10 b6_12) ae))) H locs := hW
          refine z_iconst (n := 1) hx hb dX4_readBy_126 ?_
          exact z_zret hx hb hr hlk (by first | exact Or.inl rfl | exact Or.inr rfl | omega) hW (⟨ff_5, yy_6, uI (uI N (483 + 500 * x + 5) 1) (483 + 500 * x + 6) (tkN T z (tkB T z y)), b1_7, b2_8, b3_9, b4_10, b5_11, b6_12, 1, b6_12⟩) (bI_t c113) (show _ = _ ∧ RT _ _ _ _ _ _ _ _ ∧ NF1 _ _ ∧ N8 _ _ _ ∧ BYo _ _ _ _ _ _ _ from ⟨by unfold Pby; rw [e9, if_neg (by decide), if_neg (by decide), if_pos rfl, (Ptn_0 hp110.1 c113).1], hR, (fun q => absurd c113 q), (fun q => hp110.2.2.2.1 q), (fun _ => Or.inr (by rw [← hp110.2.2.2.2 c113]))⟩) rfl dX4_readBy_127
        · refine z_iconst (n := 0) hx hb dX4_readBy_116 ?_
          exact z_zret hx hb hr hlk (by first | exact Or.inl rfl | exact Or.inr rfl | omega) hW (⟨ff_5, yy_6, uI N (483 + 500 * x + 5) 1, b1_7, b2_8, b3_9, b4_10, b5_11, b6_12, 1, ve 10⟩) (bI_f c113) (show _ = _ ∧ RT _ _ _ _ _ _ _ _ ∧ NF1 _ _ ∧ N8 _ _ _ ∧ BYo _ _ _ _ _ _ _ from ⟨by unfold Pby; rw [e9, if_neg (by decide), if_neg (by decide), if_pos rfl, Ptn_1 hp110.1 c113], hR, hp110.2.2.1, (fun q => absurd q c113), (fun q => absurd q c113)⟩) rfl dX4_readBy_117
    · exfalso; omega
  · have e1 : kk = 9 := ek.trans (ek9.trans hkn)
    subst e1
    refine lv_istore_n (lv' := [(2, .int (iI 9)), (0, .ref hd), (1, .ref he)]) hx hb dX4_readBy_4 rfl hl (by decide) rfl (fun ls hl => ?_)
    refine lv_iload_n hx hb dX4_readBy_5 rfl (lv_at hl 0 rfl) ?_
    refine z_tabIn (z := 9) (tgt := 52) hx hb dX4_readBy_6 rfl (by decide) (by decide) (by decide) rfl (by decide) ?_
    refine lv_aload_n hx hb dX4_readBy_52 rfl (lv_at hl 2 rfl) ?_
    refine z_iconst (n := 2) hx hb dX4_readBy_53 ?_
    refine z_put hx hb hts hiX4_readBy_X2 tyX2 tyX2_ok nmX2 hown hW 5 9 2 rfl rfl (by decide) (Nat.le_of_ble_eq_true rfl) rfl rfl rfl rfl dX4_readBy_54 (fun H locs hW => ?_)
    have hW : zW G (tyZ cI cJ cO) A s ((rW cI cJ hd qd vd ad) ++ ((sW cI cJ (qd 0) qo vo ao) ++ (lW cI cJ he qe (uV ve 9 2) ae))) H locs := hW
    refine lv_goto (tgt := 82) hx hb dX4_readBy_57 (by decide) ?_
    refine lv_aload_n hx hb dX4_readBy_82 rfl (lv_at hl 1 rfl) ?_
    refine z_callV (As := []) (rest := []) F (c_X4_advance  hd qd vd ad qo vo ao  T z y hK hR (show 2 ≤ KND T z y by omega)) gX4_readBy_X4_advance rfl ziX4_advance ⟨rfl, rfl, by decide, by decide⟩ rfl hl.1 rfl (Nat.le_of_ble_eq_true rfl) dX4_readBy_83 ⟨Nat.zero_le _, Nat.zero_le _⟩ hW hA [0, 1, 2, 3, 4] rfl (by decide) (fun _ => rfl) (fun u => (rW cI cJ hd qd (uV (uV (uV (uV vd 2 u.1) 3 u.2.1) 4 u.2.2.1) 5 u.2.2.2) ad) ++ ((sW cI cJ (qd 0) qo vo ao) ++ (lW cI cJ he qe (uV ve 9 2) ae))) (fun _ => rfl) (fun u => []) (fun _ => rfl) 0 rfl rfl rfl (fun u H locs hp83 hW => ?_)
    obtain ⟨b2_13, b3_14, b4_15, b5_16⟩ := u
    have hp83 : RT T z (tkB T z y) ((vo 3)) b3_14 b4_15 b5_16 b2_13 := hp83
    have hW : zW G (tyZ cI cJ cO) A s ((rW cI cJ hd qd (uV (uV (uV (uV vd 2 b2_13) 3 b3_14) 4 b4_15) 5 b5_16) ad) ++ ((sW cI cJ (qd 0) qo vo ao) ++ (lW cI cJ he qe (uV ve 9 2) ae))) H locs := hW
    have hR : RT T z (tkB T z y) (vo 3) b3_14 b4_15 b5_16 b2_13 := hp83
    clear hp83
    have hy9 := hR.1
    have hk9 := KND_R (T := T) (z := z) (y := tkB T z y)
    have ek9 := hR.2.2.2.1
    refine lv_iload_n hx hb dX4_readBy_86 rfl (lv_at hl 0 rfl) ?_
    refine z_bipush hx hb dX4_readBy_87 (by decide +kernel) ?_
    refine z_icmp_ne (tgt := 94) hx hb dX4_readBy_89 (by decide) (by decide) (by decide) (fun c89 => ?_) (fun c89 => ?_)
    · exfalso; omega
    · refine z_iconst (n := 1) hx hb dX4_readBy_92 ?_
      exact z_zret hx hb hr hlk (by first | exact Or.inl rfl | exact Or.inr rfl | omega) hW (⟨0, tkB T z y, uI N (483 + 500 * x + 5) 2, vd 1, b2_13, b3_14, b4_15, b5_16, vd 6, 2, ve 10⟩) (bI_t (show (0 : Int) = 0 from rfl)) (show _ = _ ∧ RT _ _ _ _ _ _ _ _ ∧ NF1 _ _ ∧ N8 _ _ _ ∧ BYo _ _ _ _ _ _ _ from ⟨by unfold Pby; rw [e9, if_neg (by decide), if_pos rfl], hR, (fun q => absurd rfl q), (fun _ => rfl), (fun _ => Or.inl ⟨rfl, rfl, rfl⟩)⟩) rfl dX4_readBy_93
  · have e1 : kk = 10 := ek.trans (ek9.trans hkn)
    subst e1
    refine lv_istore_n (lv' := [(2, .int (iI 10)), (0, .ref hd), (1, .ref he)]) hx hb dX4_readBy_4 rfl hl (by decide) rfl (fun ls hl => ?_)
    refine lv_iload_n hx hb dX4_readBy_5 rfl (lv_at hl 0 rfl) ?_
    refine z_tabIn (z := 10) (tgt := 60) hx hb dX4_readBy_6 rfl (by decide) (by decide) (by decide) rfl (by decide) ?_
    refine lv_aload_n hx hb dX4_readBy_60 rfl (lv_at hl 2 rfl) ?_
    refine z_iconst (n := 3) hx hb dX4_readBy_61 ?_
    refine z_put hx hb hts hiX4_readBy_X2 tyX2 tyX2_ok nmX2 hown hW 5 9 2 rfl rfl (by decide) (Nat.le_of_ble_eq_true rfl) rfl rfl rfl rfl dX4_readBy_62 (fun H locs hW => ?_)
    have hW : zW G (tyZ cI cJ cO) A s ((rW cI cJ hd qd vd ad) ++ ((sW cI cJ (qd 0) qo vo ao) ++ (lW cI cJ he qe (uV ve 9 3) ae))) H locs := hW
    refine lv_goto (tgt := 82) hx hb dX4_readBy_65 (by decide) ?_
    refine lv_aload_n hx hb dX4_readBy_82 rfl (lv_at hl 1 rfl) ?_
    refine z_callV (As := []) (rest := []) F (c_X4_advance  hd qd vd ad qo vo ao  T z y hK hR (show 2 ≤ KND T z y by omega)) gX4_readBy_X4_advance rfl ziX4_advance ⟨rfl, rfl, by decide, by decide⟩ rfl hl.1 rfl (Nat.le_of_ble_eq_true rfl) dX4_readBy_83 ⟨Nat.zero_le _, Nat.zero_le _⟩ hW hA [0, 1, 2, 3, 4] rfl (by decide) (fun _ => rfl) (fun u => (rW cI cJ hd qd (uV (uV (uV (uV vd 2 u.1) 3 u.2.1) 4 u.2.2.1) 5 u.2.2.2) ad) ++ ((sW cI cJ (qd 0) qo vo ao) ++ (lW cI cJ he qe (uV ve 9 3) ae))) (fun _ => rfl) (fun u => []) (fun _ => rfl) 0 rfl rfl rfl (fun u H locs hp83 hW => ?_)
    obtain ⟨b2_17, b3_18, b4_19, b5_20⟩ := u
    have hp83 : RT T z (tkB T z y) ((vo 3)) b3_18 b4_19 b5_20 b2_17 := hp83
    have hW : zW G (tyZ cI cJ cO) A s ((rW cI cJ hd qd (uV (uV (uV (uV vd 2 b2_17) 3 b3_18) 4 b4_19) 5 b5_20) ad) ++ ((sW cI cJ (qd 0) qo vo ao) ++ (lW cI cJ he qe (uV ve 9 3) ae))) H locs := hW
    have hR : RT T z (tkB T z y) (vo 3) b3_18 b4_19 b5_20 b2_17 := hp83
    clear hp83
    have hy9 := hR.1
    have hk9 := KND_R (T := T) (z := z) (y := tkB T z y)
    have ek9 := hR.2.2.2.1
    refine lv_iload_n hx hb dX4_readBy_86 rfl (lv_at hl 0 rfl) ?_
    refine z_bipush hx hb dX4_readBy_87 (by decide +kernel) ?_
    refine z_icmp_ne (tgt := 94) hx hb dX4_readBy_89 (by decide) (by decide) (by decide) (fun c89 => ?_) (fun c89 => ?_)
    · refine lv_aload_n hx hb dX4_readBy_94 rfl (lv_at hl 1 rfl) ?_
      refine z_iconst (n := 0) hx hb dX4_readBy_95 ?_
      refine lv_iload_n hx hb dX4_readBy_96 rfl (lv_at hl 0 rfl) ?_
      refine z_bipush hx hb dX4_readBy_97 (by decide +kernel) ?_
      refine z_icmp_ne (tgt := 107) hx hb dX4_readBy_99 (by decide) (by decide) (by decide) (fun c99 => ?_) (fun c99 => ?_)
      · refine z_sipush hx hb dX4_readBy_107 (by decide +kernel) ?_
        refine z_callV (As := [.int (iI 0), .int (iI 999)]) (rest := []) F (c_X4_takeNumber  hd qd (uV (uV (uV (uV vd 2 b2_17) 3 b3_18) 4 b4_19) 5 b5_20) ad qo vo ao 0 999 T z (tkB T z y) hK hR (show -2147483648 ≤ 0 ∧ 0 < 2147483648 by omega) (show -2147483648 ≤ 999 ∧ 999 < 2147483648 by omega)) gX4_readBy_X4_takeNumber rfl ziX4_takeNumber ⟨rfl, rfl, by decide, by decide⟩ rfl hl.1 rfl (Nat.le_of_ble_eq_true rfl) dX4_readBy_110 ⟨Nat.zero_le _, Nat.zero_le _⟩ hW hA [0, 1, 2, 3, 4] rfl (by decide) (fun _ => rfl) (fun u => (rW cI cJ hd qd (uV (uV (uV (uV (uV (uV vd 1 u.2.2.1) 2 u.2.2.2.1) 3 u.2.2.2.2.1) 4 u.2.2.2.2.2.1) 5 u.2.2.2.2.2.2.1) 6 u.2.2.2.2.2.2.2) ad) ++ ((sW cI cJ (qd 0) qo vo ao) ++ (lW cI cJ he qe (uV ve 9 3) ae))) (fun _ => rfl) (fun u => [.int (iI (bI (u.1 = 0)))]) (fun _ => rfl) 0 rfl rfl rfl (fun u H locs hp110 hW => ?_)
        obtain ⟨ff_21, yy_22, b1_23, b2_24, b3_25, b4_26, b5_27, b6_28⟩ := u
        have hp110 : Ptn T z 0 999 (tkB T z y) = (ff_21, yy_22) ∧ RT T z yy_22 ((vo 3)) b3_25 b4_26 b5_27 b2_24 ∧ NF1 ff_21 b1_23 ∧ N8 ff_21 b1_23 ((vd 1)) ∧ N8 ff_21 b6_28 (tkN T z (tkB T z y)) := hp110
        have hW : zW G (tyZ cI cJ cO) A s ((rW cI cJ hd qd (uV (uV (uV (uV (uV (uV vd 1 b1_23) 2 b2_24) 3 b3_25) 4 b4_26) 5 b5_27) 6 b6_28) ad) ++ ((sW cI cJ (qd 0) qo vo ao) ++ (lW cI cJ he qe (uV ve 9 3) ae))) H locs := hW
        have hR : RT T z yy_22 (vo 3) b3_25 b4_26 b5_27 b2_24 := hp110.2.1
        have hk9 := KND_R (T := T) (z := z) (y := yy_22)
        have ek9 := hR.2.2.2.1
        refine z_b_ne (tgt := 118) hx hb dX4_readBy_113 (by decide) (fun c113 => ?_) (fun c113 => ?_)
        · refine lv_aload_n hx hb dX4_readBy_118 rfl (lv_at hl 2 rfl) ?_
          refine lv_aload_n hx hb dX4_readBy_119 rfl (lv_at hl 1 rfl) ?_
          refine z_get (v := .int (iI b6_28)) hx hb hts hiX4_readBy_X4 hown hW 0 6 3 rfl rfl rfl (by decide) rfl dX4_readBy_120 ?_
          refine z_put hx hb hts hiX4_readBy_X2 tyX2 tyX2_ok nmX2 hown hW 5 10 4 rfl rfl (by decide) (Nat.le_of_ble_eq_true rfl) rfl rfl rfl rfl dX4_readBy_123 (fun H locs hW => ?_)
          have hW : zW G (tyZ cI cJ cO) A s ((rW cI cJ hd qd (uV (uV (uV (uV (uV (uV vd 1 b1_23) 2 b2_24) 3 b3_25) 4 b4_26) 5 b5_27) 6 b6_28) ad) ++ ((sW cI cJ (qd 0) qo vo ao) ++ (lW cI cJ he qe (uV (uV ve 9 3) 10 b6_28) ae))) H locs := hW
          refine z_iconst (n := 1) hx hb dX4_readBy_126 ?_
          exact z_zret hx hb hr hlk (by first | exact Or.inl rfl | exact Or.inr rfl | omega) hW (⟨ff_21, yy_22, uI (uI N (483 + 500 * x + 5) 3) (483 + 500 * x + 6) (tkN T z (tkB T z y)), b1_23, b2_24, b3_25, b4_26, b5_27, b6_28, 3, b6_28⟩) (bI_t c113) (show _ = _ ∧ RT _ _ _ _ _ _ _ _ ∧ NF1 _ _ ∧ N8 _ _ _ ∧ BYo _ _ _ _ _ _ _ from ⟨by unfold Pby; rw [e9, if_neg (by decide), if_neg (by decide), if_neg (by decide), (Ptn_0 hp110.1 c113).1], hR, (fun q => absurd c113 q), (fun q => hp110.2.2.2.1 q), (fun _ => Or.inr (by rw [← hp110.2.2.2.2 c113]))⟩) rfl dX4_readBy_127
        · refine z_iconst (n := 0) hx hb dX4_readBy_116 ?_
          exact z_zret hx hb hr hlk (by first | exact Or.inl rfl | exact Or.inr rfl | omega) hW (⟨ff_21, yy_22, uI N (483 + 500 * x + 5) 3, b1_23, b2_24, b3_25, b4_26, b5_27, b6_28, 3, ve 10⟩) (bI_f c113) (show _ = _ ∧ RT _ _ _ _ _ _ _ _ ∧ NF1 _ _ ∧ N8 _ _ _ ∧ BYo _ _ _ _ _ _ _ from ⟨by unfold Pby; rw [e9, if_neg (by decide), if_neg (by decide), if_neg (by decide), Ptn_1 hp110.1 c113], hR, hp110.2.2.1, (fun q => absurd q c113), (fun q => absurd q c113)⟩) rfl dX4_readBy_117
      · exfalso; omega
    · exfalso; omega
  · have e1 : kk = 11 := ek.trans (ek9.trans hkn)
    subst e1
    refine lv_istore_n (lv' := [(2, .int (iI 11)), (0, .ref hd), (1, .ref he)]) hx hb dX4_readBy_4 rfl hl (by decide) rfl (fun ls hl => ?_)
    refine lv_iload_n hx hb dX4_readBy_5 rfl (lv_at hl 0 rfl) ?_
    refine z_tabIn (z := 11) (tgt := 68) hx hb dX4_readBy_6 rfl (by decide) (by decide) (by decide) rfl (by decide) ?_
    refine lv_aload_n hx hb dX4_readBy_68 rfl (lv_at hl 2 rfl) ?_
    refine z_iconst (n := 4) hx hb dX4_readBy_69 ?_
    refine z_put hx hb hts hiX4_readBy_X2 tyX2 tyX2_ok nmX2 hown hW 5 9 2 rfl rfl (by decide) (Nat.le_of_ble_eq_true rfl) rfl rfl rfl rfl dX4_readBy_70 (fun H locs hW => ?_)
    have hW : zW G (tyZ cI cJ cO) A s ((rW cI cJ hd qd vd ad) ++ ((sW cI cJ (qd 0) qo vo ao) ++ (lW cI cJ he qe (uV ve 9 4) ae))) H locs := hW
    refine lv_goto (tgt := 82) hx hb dX4_readBy_73 (by decide) ?_
    refine lv_aload_n hx hb dX4_readBy_82 rfl (lv_at hl 1 rfl) ?_
    refine z_callV (As := []) (rest := []) F (c_X4_advance  hd qd vd ad qo vo ao  T z y hK hR (show 2 ≤ KND T z y by omega)) gX4_readBy_X4_advance rfl ziX4_advance ⟨rfl, rfl, by decide, by decide⟩ rfl hl.1 rfl (Nat.le_of_ble_eq_true rfl) dX4_readBy_83 ⟨Nat.zero_le _, Nat.zero_le _⟩ hW hA [0, 1, 2, 3, 4] rfl (by decide) (fun _ => rfl) (fun u => (rW cI cJ hd qd (uV (uV (uV (uV vd 2 u.1) 3 u.2.1) 4 u.2.2.1) 5 u.2.2.2) ad) ++ ((sW cI cJ (qd 0) qo vo ao) ++ (lW cI cJ he qe (uV ve 9 4) ae))) (fun _ => rfl) (fun u => []) (fun _ => rfl) 0 rfl rfl rfl (fun u H locs hp83 hW => ?_)
    obtain ⟨b2_29, b3_30, b4_31, b5_32⟩ := u
    have hp83 : RT T z (tkB T z y) ((vo 3)) b3_30 b4_31 b5_32 b2_29 := hp83
    have hW : zW G (tyZ cI cJ cO) A s ((rW cI cJ hd qd (uV (uV (uV (uV vd 2 b2_29) 3 b3_30) 4 b4_31) 5 b5_32) ad) ++ ((sW cI cJ (qd 0) qo vo ao) ++ (lW cI cJ he qe (uV ve 9 4) ae))) H locs := hW
    have hR : RT T z (tkB T z y) (vo 3) b3_30 b4_31 b5_32 b2_29 := hp83
    clear hp83
    have hy9 := hR.1
    have hk9 := KND_R (T := T) (z := z) (y := tkB T z y)
    have ek9 := hR.2.2.2.1
    refine lv_iload_n hx hb dX4_readBy_86 rfl (lv_at hl 0 rfl) ?_
    refine z_bipush hx hb dX4_readBy_87 (by decide +kernel) ?_
    refine z_icmp_ne (tgt := 94) hx hb dX4_readBy_89 (by decide) (by decide) (by decide) (fun c89 => ?_) (fun c89 => ?_)
    · refine lv_aload_n hx hb dX4_readBy_94 rfl (lv_at hl 1 rfl) ?_
      refine z_iconst (n := 0) hx hb dX4_readBy_95 ?_
      refine lv_iload_n hx hb dX4_readBy_96 rfl (lv_at hl 0 rfl) ?_
      refine z_bipush hx hb dX4_readBy_97 (by decide +kernel) ?_
      refine z_icmp_ne (tgt := 107) hx hb dX4_readBy_99 (by decide) (by decide) (by decide) (fun c99 => ?_) (fun c99 => ?_)
      · refine z_sipush hx hb dX4_readBy_107 (by decide +kernel) ?_
        refine z_callV (As := [.int (iI 0), .int (iI 999)]) (rest := []) F (c_X4_takeNumber  hd qd (uV (uV (uV (uV vd 2 b2_29) 3 b3_30) 4 b4_31) 5 b5_32) ad qo vo ao 0 999 T z (tkB T z y) hK hR (show -2147483648 ≤ 0 ∧ 0 < 2147483648 by omega) (show -2147483648 ≤ 999 ∧ 999 < 2147483648 by omega)) gX4_readBy_X4_takeNumber rfl ziX4_takeNumber ⟨rfl, rfl, by decide, by decide⟩ rfl hl.1 rfl (Nat.le_of_ble_eq_true rfl) dX4_readBy_110 ⟨Nat.zero_le _, Nat.zero_le _⟩ hW hA [0, 1, 2, 3, 4] rfl (by decide) (fun _ => rfl) (fun u => (rW cI cJ hd qd (uV (uV (uV (uV (uV (uV vd 1 u.2.2.1) 2 u.2.2.2.1) 3 u.2.2.2.2.1) 4 u.2.2.2.2.2.1) 5 u.2.2.2.2.2.2.1) 6 u.2.2.2.2.2.2.2) ad) ++ ((sW cI cJ (qd 0) qo vo ao) ++ (lW cI cJ he qe (uV ve 9 4) ae))) (fun _ => rfl) (fun u => [.int (iI (bI (u.1 = 0)))]) (fun _ => rfl) 0 rfl rfl rfl (fun u H locs hp110 hW => ?_)
        obtain ⟨ff_33, yy_34, b1_35, b2_36, b3_37, b4_38, b5_39, b6_40⟩ := u
        have hp110 : Ptn T z 0 999 (tkB T z y) = (ff_33, yy_34) ∧ RT T z yy_34 ((vo 3)) b3_37 b4_38 b5_39 b2_36 ∧ NF1 ff_33 b1_35 ∧ N8 ff_33 b1_35 ((vd 1)) ∧ N8 ff_33 b6_40 (tkN T z (tkB T z y)) := hp110
        have hW : zW G (tyZ cI cJ cO) A s ((rW cI cJ hd qd (uV (uV (uV (uV (uV (uV vd 1 b1_35) 2 b2_36) 3 b3_37) 4 b4_38) 5 b5_39) 6 b6_40) ad) ++ ((sW cI cJ (qd 0) qo vo ao) ++ (lW cI cJ he qe (uV ve 9 4) ae))) H locs := hW
        have hR : RT T z yy_34 (vo 3) b3_37 b4_38 b5_39 b2_36 := hp110.2.1
        have hk9 := KND_R (T := T) (z := z) (y := yy_34)
        have ek9 := hR.2.2.2.1
        refine z_b_ne (tgt := 118) hx hb dX4_readBy_113 (by decide) (fun c113 => ?_) (fun c113 => ?_)
        · refine lv_aload_n hx hb dX4_readBy_118 rfl (lv_at hl 2 rfl) ?_
          refine lv_aload_n hx hb dX4_readBy_119 rfl (lv_at hl 1 rfl) ?_
          refine z_get (v := .int (iI b6_40)) hx hb hts hiX4_readBy_X4 hown hW 0 6 3 rfl rfl rfl (by decide) rfl dX4_readBy_120 ?_
          refine z_put hx hb hts hiX4_readBy_X2 tyX2 tyX2_ok nmX2 hown hW 5 10 4 rfl rfl (by decide) (Nat.le_of_ble_eq_true rfl) rfl rfl rfl rfl dX4_readBy_123 (fun H locs hW => ?_)
          have hW : zW G (tyZ cI cJ cO) A s ((rW cI cJ hd qd (uV (uV (uV (uV (uV (uV vd 1 b1_35) 2 b2_36) 3 b3_37) 4 b4_38) 5 b5_39) 6 b6_40) ad) ++ ((sW cI cJ (qd 0) qo vo ao) ++ (lW cI cJ he qe (uV (uV ve 9 4) 10 b6_40) ae))) H locs := hW
          refine z_iconst (n := 1) hx hb dX4_readBy_126 ?_
          exact z_zret hx hb hr hlk (by first | exact Or.inl rfl | exact Or.inr rfl | omega) hW (⟨ff_33, yy_34, uI (uI N (483 + 500 * x + 5) 4) (483 + 500 * x + 6) (tkN T z (tkB T z y)), b1_35, b2_36, b3_37, b4_38, b5_39, b6_40, 4, b6_40⟩) (bI_t c113) (show _ = _ ∧ RT _ _ _ _ _ _ _ _ ∧ NF1 _ _ ∧ N8 _ _ _ ∧ BYo _ _ _ _ _ _ _ from ⟨by unfold Pby; rw [e9, if_neg (by decide), if_neg (by decide), if_neg (by decide), (Ptn_0 hp110.1 c113).1], hR, (fun q => absurd c113 q), (fun q => hp110.2.2.2.1 q), (fun _ => Or.inr (by rw [← hp110.2.2.2.2 c113]))⟩) rfl dX4_readBy_127
        · refine z_iconst (n := 0) hx hb dX4_readBy_116 ?_
          exact z_zret hx hb hr hlk (by first | exact Or.inl rfl | exact Or.inr rfl | omega) hW (⟨ff_33, yy_34, uI N (483 + 500 * x + 5) 4, b1_35, b2_36, b3_37, b4_38, b5_39, b6_40, 4, ve 10⟩) (bI_f c113) (show _ = _ ∧ RT _ _ _ _ _ _ _ _ ∧ NF1 _ _ ∧ N8 _ _ _ ∧ BYo _ _ _ _ _ _ _ from ⟨by unfold Pby; rw [e9, if_neg (by decide), if_neg (by decide), if_neg (by decide), Ptn_1 hp110.1 c113], hR, hp110.2.2.1, (fun q => absurd q c113), (fun q => absurd q c113)⟩) rfl dX4_readBy_117
      · exfalso; omega
    · exfalso; omega
theorem hiX4_isPart_X4 : ∀ w ∈ wsX40, w ∈ wsX4_isPart := fun _ h => List.mem_cons_of_mem _ (List.mem_append_right _ h)
theorem ziX4_isPart : yX4_isPart.cls = RX4 ∧ yX4_isPart.cls ≠ "java/lang/invoke/MethodHandle" ∧ yX4_isPart.cls ≠ "java/lang/invoke/VarHandle" ∧ (parseMethodDescriptor yX4_isPart.desc).map (fun d => d.parameters.length) = some 0 := by decide +kernel
set_option maxHeartbeats 4000000 in
set_option maxRecDepth 100000 in
theorem c_X4_isPart {l : Launch} {G : va_G} {cI cJ cO : ClassId}  (hd : Nat) (qd : Nat → Nat) (vd : Nat → Int) (ad : Nat → Int → Int)  (T : Int → Int) (z : Int) (y : Int) (hk0 : vd 4 = KND T z y) : zC l yX4_isPart wsX4_isPart { frames := 0, cells := 0, slots := 0, locals := 0 } G (tyZ cI cJ cO) (S := Unit) [.ref hd] (rW cI cJ hd qd vd ad) (zI (fun _ => bI (PB (KND T z y) ≠ 0))) (fun _ => True) (fun _ => rW cI cJ hd qd vd ad) 0 0 := by
  refine z_start (cc := cX4_isPart) (maxL := 1) (ret := (some .boolean)) (by decide) rfl (Nat.le_of_ble_eq_true rfl) ?_
  intro p e s m below meth c A ls F hr hlk hnm hAe hA hW hl
  have hx := F.1
  have hb := F.2.1
  have hown : s.vm.findClass RX4 = some m.cls := F.2.2.2.1
  have hts := F.2.2.2.2
  have hl : lv_has ls 1 [(0, .ref hd)] := hl
  have hk9 := KND_R (T := T) (z := z) (y := y)
  have hpi := PB_iff (KND T z y)
  refine lv_aload_n hx hb dX4_isPart_0 rfl (lv_at hl 0 rfl) ?_
  refine z_get (v := .int (iI (vd 4))) hx hb hts hiX4_isPart_X4 hown hW 0 4 1 rfl rfl rfl (by decide) rfl dX4_isPart_1 ?_
  refine z_bipush hx hb dX4_isPart_4 (by decide +kernel) ?_
  refine z_icmp_eq (tgt := 45) hx hb dX4_isPart_6 (by decide) ⟨by omega, by omega⟩ (by decide) (fun c6 => ?_) (fun c6 => ?_)
  · refine z_iconst (n := 1) hx hb dX4_isPart_45 ?_
    refine lv_goto (tgt := 50) hx hb dX4_isPart_46 (by decide) ?_
    exact z_zret hx hb hr hlk (by first | exact Or.inl rfl | exact Or.inr rfl | omega) hW () (bI_t (hpi.mpr (by omega))) trivial rfl dX4_isPart_50
  · refine lv_aload_n hx hb dX4_isPart_9 rfl (lv_at hl 0 rfl) ?_
    refine z_get (v := .int (iI (vd 4))) hx hb hts hiX4_isPart_X4 hown hW 0 4 1 rfl rfl rfl (by decide) rfl dX4_isPart_10 ?_
    refine z_bipush hx hb dX4_isPart_13 (by decide +kernel) ?_
    refine z_icmp_eq (tgt := 45) hx hb dX4_isPart_15 (by decide) ⟨by omega, by omega⟩ (by decide) (fun c15 => ?_) (fun c15 => ?_)
    · refine z_iconst (n := 1) hx hb dX4_isPart_45 ?_
      refine lv_goto (tgt := 50) hx hb dX4_isPart_46 (by decide) ?_
      exact z_zret hx hb hr hlk (by first | exact Or.inl rfl | exact Or.inr rfl | omega) hW () (bI_t (hpi.mpr (by omega))) trivial rfl dX4_isPart_50
    · refine lv_aload_n hx hb dX4_isPart_18 rfl (lv_at hl 0 rfl) ?_
      refine z_get (v := .int (iI (vd 4))) hx hb hts hiX4_isPart_X4 hown hW 0 4 1 rfl rfl rfl (by decide) rfl dX4_isPart_19 ?_
      refine z_bipush hx hb dX4_isPart_22 (by decide +kernel) ?_
      refine z_icmp_eq (tgt := 45) hx hb dX4_isPart_24 (by decide) ⟨by omega, by omega⟩ (by decide) (fun c24 => ?_) (fun c24 => ?_)
      · refine z_iconst (n := 1) hx hb dX4_isPart_45 ?_
        refine lv_goto (tgt := 50) hx hb dX4_isPart_46 (by decide) ?_
        exact z_zret hx hb hr hlk (by first | exact Or.inl rfl | exact Or.inr rfl | omega) hW () (bI_t (hpi.mpr (by omega))) trivial rfl dX4_isPart_50
      · refine lv_aload_n hx hb dX4_isPart_27 rfl (lv_at hl 0 rfl) ?_
        refine z_get (v := .int (iI (vd 4))) hx hb hts hiX4_isPart_X4 hown hW 0 4 1 rfl rfl rfl (by decide) rfl dX4_isPart_28 ?_
        refine z_bipush hx hb dX4_isPart_31 (by decide +kernel) ?_
        refine z_icmp_eq (tgt := 45) hx hb dX4_isPart_33 (by decide) ⟨by omega, by omega⟩ (by decide) (fun c33 => ?_) (fun c33 => ?_)
        · refine z_iconst (n := 1) hx hb dX4_isPart_45 ?_
          refine lv_goto (tgt := 50) hx hb dX4_isPart_46 (by decide) ?_
          exact z_zret hx hb hr hlk (by first | exact Or.inl rfl | exact Or.inr rfl | omega) hW () (bI_t (hpi.mpr (by omega))) trivial rfl dX4_isPart_50
        · refine lv_aload_n hx hb dX4_isPart_36 rfl (lv_at hl 0 rfl) ?_
          refine z_get (v := .int (iI (vd 4))) hx hb hts hiX4_isPart_X4 hown hW 0 4 1 rfl rfl rfl (by decide) rfl dX4_isPart_37 ?_
          refine z_bipush hx hb dX4_isPart_40 (by decide +kernel) ?_
          refine z_icmp_ne (tgt := 49) hx hb dX4_isPart_42 (by decide) ⟨by omega, by omega⟩ (by decide) (fun c42 => ?_) (fun c42 => ?_)
          · refine z_iconst (n := 0) hx hb dX4_isPart_49 ?_
            exact z_zret hx hb hr hlk (by first | exact Or.inl rfl | exact Or.inr rfl | omega) hW () (bI_f (fun q => by have := hpi.mp q; omega)) trivial rfl dX4_isPart_50
          · refine z_iconst (n := 1) hx hb dX4_isPart_45 ?_
            refine lv_goto (tgt := 50) hx hb dX4_isPart_46 (by decide) ?_
            exact z_zret hx hb hr hlk (by first | exact Or.inl rfl | exact Or.inr rfl | omega) hW () (bI_t (hpi.mpr (by omega))) trivial rfl dX4_isPart_50
theorem hiX4_isToldIn_X4 : ∀ w ∈ wsX40, w ∈ wsX4_isToldIn := fun _ h => List.mem_cons_of_mem _ (List.mem_append_left _ (List.mem_append_left _ (List.mem_append_right _ h)))
theorem hiX4_isToldIn_X2 : ∀ w ∈ wsX20, w ∈ wsX4_isToldIn := fun _ h => List.mem_cons_of_mem _ (List.mem_append_left _ (List.mem_append_right _ h))
theorem hiX4_isToldIn_X3 : ∀ w ∈ wsX30, w ∈ wsX4_isToldIn := fun _ h => List.mem_cons_of_mem _ (List.mem_append_right _ h)
theorem ziX4_isToldIn : yX4_isToldIn.cls = RX4 ∧ yX4_isToldIn.cls ≠ "java/lang/invoke/MethodHandle" ∧ yX4_isToldIn.cls ≠ "java/lang/invoke/VarHandle" ∧ (parseMethodDescriptor yX4_isToldIn.desc).map (fun d => d.parameters.length) = some 1 := by decide +kernel
set_option maxHeartbeats 4000000 in
set_option maxRecDepth 100000 in
theorem c_X4_isToldIn {l : Launch} {G : va_G} {cI cJ cO : ClassId} (N : Int → Int) (x : Int) (hd : Nat) (qd : Nat → Nat) (vd : Nat → Int) (ad : Nat → Int → Int) (he : Nat) (qe : Nat → Nat) (ve : Nat → Int) (ae : Nat → Int → Int)  (T : Int → Int) (z : Int) (y : Int) (hk0 : vd 4 = KND T z y) (hp9 : PB (KND T z y) ≠ 0) (hlx : LX N x ve) (hlq : LQ N x) : zC l yX4_isToldIn wsX4_isToldIn { frames := 0, cells := 0, slots := 0, locals := 0 } G (tyZ cI cJ cO) (S := Unit) [.ref hd, .ref he] ((rW cI cJ hd qd vd ad) ++ (lW cI cJ he qe ve ae)) (zI (fun _ => bI (zand (LF N x 7) (PB (KND T z y)) ≠ 0))) (fun _ => True) (fun _ => (rW cI cJ hd qd vd ad) ++ (lW cI cJ he qe ve ae)) 0 0 := by
  refine z_start (cc := cX4_isToldIn) (maxL := 2) (ret := (some .boolean)) (by decide) rfl (Nat.le_of_ble_eq_true rfl) ?_
  intro p e s m below meth c A ls F hr hlk hnm hAe hA hW hl
  have hx := F.1
  have hb := F.2.1
  have hown : s.vm.findClass RX4 = some m.cls := F.2.2.2.1
  have hts := F.2.2.2.2
  have hl : lv_has ls 2 [(0, .ref hd), (1, .ref he)] := hl
  obtain ⟨_, _, _, _, _, hx9, _, hx11, hx12, _, hx20, _, _, hx30, _, _⟩ := hlx
  have hl5 := hlq.1.2.2.2.2.2.1
  have hl12 : -1 ≤ ve 12 ∧ ve 12 ≤ 239 := by rw [hx12]; have := hlq.1.2.2.2.2.2.2.2.2.2.2.2.2.1; split <;> omega
  refine lv_aload_n hx hb dX4_isToldIn_0 rfl (lv_at hl 0 rfl) ?_
  refine z_get (v := .int (iI (vd 4))) hx hb hts hiX4_isToldIn_X4 hown hW 0 4 1 rfl rfl rfl (by decide) rfl dX4_isToldIn_1 ?_
  refine z_name (fun kk ek => ?_)
  rcases PBc (KND T z y) with e9 | ⟨hkn, e9⟩ | ⟨hkn, e9⟩ | ⟨hkn, e9⟩ | ⟨hkn, e9⟩ | ⟨hkn, e9⟩
  · exact absurd e9 hp9
  · have e1 : kk = 8 := ek.trans (hk0.trans hkn)
    subst e1
    rw [e9]
    refine z_tabIn (z := 8) (tgt := 48) hx hb dX4_isToldIn_4 rfl (by decide) (by decide) (by decide) rfl (by decide) ?_
    refine lv_aload_n hx hb dX4_isToldIn_48 rfl (lv_at hl 1 rfl) ?_
    refine z_get (v := .int (iI (ve 9))) hx hb hts hiX4_isToldIn_X2 hown hW 1 9 2 rfl rfl rfl (by decide) rfl dX4_isToldIn_49 ?_
    refine z_if_eq (tgt := 59) hx hb dX4_isToldIn_52 (by decide) ⟨by omega, by omega⟩ (fun c52 => ?_) (fun c52 => ?_)
    · refine z_iconst (n := 0) hx hb dX4_isToldIn_59 ?_
      exact z_zret hx hb hr hlk (by first | exact Or.inl rfl | exact Or.inr rfl | omega) hW () (bI_f (fun q => by have := hlq.2.2.1.mpr q; omega)) trivial rfl dX4_isToldIn_60
    · refine z_iconst (n := 1) hx hb dX4_isToldIn_55 ?_
      refine lv_goto (tgt := 60) hx hb dX4_isToldIn_56 (by decide) ?_
      exact z_zret hx hb hr hlk (by first | exact Or.inl rfl | exact Or.inr rfl | omega) hW () (bI_t (hlq.2.2.1.mp (by omega))) trivial rfl dX4_isToldIn_60
  · have e1 : kk = 12 := ek.trans (hk0.trans hkn)
    subst e1
    rw [e9]
    refine z_tabIn (z := 12) (tgt := 61) hx hb dX4_isToldIn_4 rfl (by decide) (by decide) (by decide) rfl (by decide) ?_
    refine lv_aload_n hx hb dX4_isToldIn_61 rfl (lv_at hl 1 rfl) ?_
    refine z_get (v := .ref (qe 0)) hx hb hts hiX4_isToldIn_X2 hown hW 1 0 3 rfl rfl rfl (by decide) rfl dX4_isToldIn_62 ?_
    refine z_get (v := .int (iI (ve 20))) hx hb hts hiX4_isToldIn_X3 hown hW 2 0 4 rfl rfl rfl (by decide) rfl dX4_isToldIn_65 ?_
    exact z_zret hx hb hr hlk (by rw [hx20]; unfold bI; split <;> omega) hW () hx20.symm trivial rfl dX4_isToldIn_68
  · have e1 : kk = 13 := ek.trans (hk0.trans hkn)
    subst e1
    rw [e9]
    refine z_tabIn (z := 13) (tgt := 69) hx hb dX4_isToldIn_4 rfl (by decide) (by decide) (by decide) rfl (by decide) ?_
    refine lv_aload_n hx hb dX4_isToldIn_69 rfl (lv_at hl 1 rfl) ?_
    refine z_get (v := .ref (qe 1)) hx hb hts hiX4_isToldIn_X2 hown hW 1 1 5 rfl rfl rfl (by decide) rfl dX4_isToldIn_70 ?_
    refine z_get (v := .int (iI (ve 30))) hx hb hts hiX4_isToldIn_X3 hown hW 3 0 4 rfl rfl rfl (by decide) rfl dX4_isToldIn_73 ?_
    exact z_zret hx hb hr hlk (by rw [hx30]; unfold bI; split <;> omega) hW () hx30.symm trivial rfl dX4_isToldIn_76
  · have e1 : kk = 14 := ek.trans (hk0.trans hkn)
    subst e1
    rw [e9]
    refine z_tabIn (z := 14) (tgt := 77) hx hb dX4_isToldIn_4 rfl (by decide) (by decide) (by decide) rfl (by decide) ?_
    refine lv_aload_n hx hb dX4_isToldIn_77 rfl (lv_at hl 1 rfl) ?_
    refine z_get (v := .int (iI (ve 11))) hx hb hts hiX4_isToldIn_X2 hown hW 1 11 6 rfl rfl rfl (by decide) rfl dX4_isToldIn_78 ?_
    exact z_zret hx hb hr hlk (by rw [hx11]; unfold bI; split <;> omega) hW () hx11.symm trivial rfl dX4_isToldIn_81
  · have e1 : kk = 15 := ek.trans (hk0.trans hkn)
    subst e1
    rw [e9]
    refine z_tabOut (tgt := 82) hx hb dX4_isToldIn_4 (by decide) (by omega) (by decide) ?_
    refine lv_aload_n hx hb dX4_isToldIn_82 rfl (lv_at hl 1 rfl) ?_
    refine z_get (v := .int (iI (ve 12))) hx hb hts hiX4_isToldIn_X2 hown hW 1 12 7 rfl rfl rfl (by decide) rfl dX4_isToldIn_83 ?_
    refine z_iconst (n := -1) hx hb dX4_isToldIn_86 ?_
    refine z_icmp_eq (tgt := 94) hx hb dX4_isToldIn_87 (by decide) ⟨by omega, by omega⟩ (by decide) (fun c87 => ?_) (fun c87 => ?_)
    · refine z_iconst (n := 0) hx hb dX4_isToldIn_94 ?_
      exact z_zret hx hb hr hlk (by first | exact Or.inl rfl | exact Or.inr rfl | omega) hW () (bI_f (fun q => by have t := hlq.2.1 q; have l0 := hlq.1.1; rw [if_pos q] at hx12; omega)) trivial rfl dX4_isToldIn_95
    · refine z_iconst (n := 1) hx hb dX4_isToldIn_90 ?_
      refine lv_goto (tgt := 95) hx hb dX4_isToldIn_91 (by decide) ?_
      exact z_zret hx hb hr hlk (by first | exact Or.inl rfl | exact Or.inr rfl | omega) hW () (bI_t (Classical.byContradiction (fun q => by rw [if_neg q] at hx12; omega))) trivial rfl dX4_isToldIn_95
