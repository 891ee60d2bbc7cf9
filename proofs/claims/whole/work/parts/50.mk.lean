/-! the model: the reader -/
def NB (b6 b7 : Int) : Prop := b6 = 3 → 0 ≤ b7 ∧ b7 ≤ 99999
def WB (b6 b10 : Int) : Prop := b6 = 2 → -9223372036854775808 ≤ b10 ∧ b10 < 9223372036854775808
def NF (ff b8 b9 t : Int) : Prop := ff ≠ 0 → b8 = ff ∧ b9 = t
def N8 (ff b8 o : Int) : Prop := ff = 0 → b8 = o
theorem MT_Rw {T : Int → Int} {z y b4 b5 b6 b7 b10 : Int} (h : MT T z y b4 b5 b6 b7 b10) (hz : z ≤ 640) (hT : ∀ j : Int, 0 ≤ j → j < 640 → 0 ≤ T j ∧ T j ≤ 255) : (0 ≤ b4 ∧ b4 ≤ z ∧ 0 ≤ b5 ∧ b5 ≤ 640 ∧ 0 ≤ b6 ∧ b6 ≤ 4) ∧ NB b6 b7 ∧ WB b6 b10 := MT_R h hz hT
set_option maxHeartbeats 4000000 in
set_option maxRecDepth 100000 in
theorem c_isWordw {l : Launch} {G : va_G} {cI cJ cO : ClassId} (h : Nat) (q : Nat → Nat) (v : Nat → Int) (a : Nat → Int → Int) (z : Int)  (h1 : -9223372036854775808 ≤ z ∧ z < 9223372036854775808) (h6 : 0 ≤ v 6 ∧ v 6 ≤ 4) (h10 : v 6 = 2 → -9223372036854775808 ≤ v 10 ∧ v 10 < 9223372036854775808) : zC l yX11_isWord wsX11_isWord { frames := 0, cells := 0, slots := 0, locals := 0 } G (tyZ cI cJ cO) (S := Unit) [.ref h, .long (lI z)] (mW cI cJ h q v a) (zI (fun _ => bI (v 6 = 2 ∧ v 10 = z))) (fun _ => True) (fun _ => mW cI cJ h q v a) 0 0 := by
  refine z_start (cc := cX11_isWord) (maxL := 3) (ret := (some .boolean)) (by decide) rfl (Nat.le_of_ble_eq_true rfl) ?_
  intro p e s m below meth c A ls F hr hlk hnm hAe hA hW hl
  have hx := F.1
  have hb := F.2.1
  have hown : s.vm.findClass RX11 = some m.cls := F.2.2.2.1
  have hts := F.2.2.2.2
  have hl : lv_has ls 3 [(0, .ref h), (1, .long (lI z))] := hl
  refine lv_aload_n hx hb dX11_isWord_0 rfl (lv_at hl 0 rfl) ?_
  refine z_get (v := .int (iI (v 6))) hx hb hts hiX11_isWord_X11 hown hW 0 6 1 rfl rfl rfl (by decide) rfl dX11_isWord_1 ?_
  refine z_iconst (n := 2) hx hb dX11_isWord_4 ?_
  refine z_icmp_ne (tgt := 21) hx hb dX11_isWord_5 (by decide) ⟨by omega, by omega⟩ (by decide) (fun c5 => ?_) (fun c5 => ?_)
  · refine z_iconst (n := 0) hx hb dX11_isWord_21 ?_
    exact z_zret hx hb hr hlk (by first | exact Or.inl rfl | exact Or.inr rfl | omega) hW () (by first | exact bI_t (by omega) | exact bI_f (by omega)) trivial rfl dX11_isWord_22
  · refine lv_aload_n hx hb dX11_isWord_8 rfl (lv_at hl 0 rfl) ?_
    refine z_get (v := .long (lI (v 10))) hx hb hts hiX11_isWord_X11 hown hW 0 10 2 rfl rfl rfl (by decide) rfl dX11_isWord_9 ?_
    refine lv_lload_n hx hb dX11_isWord_12 rfl (lv_at hl 1 rfl) ?_
    refine z_lcmp_ne (tgt := 21) hx hb dX11_isWord_13 dX11_isWord_14 (by decide) ⟨by omega, by omega⟩ ⟨by omega, by omega⟩ (fun c13 => ?_) (fun c13 => ?_)
    · refine z_iconst (n := 0) hx hb dX11_isWord_21 ?_
      exact z_zret hx hb hr hlk (by first | exact Or.inl rfl | exact Or.inr rfl | omega) hW () (by first | exact bI_t (by omega) | exact bI_f (by omega)) trivial rfl dX11_isWord_22
    · refine z_iconst (n := 1) hx hb dX11_isWord_17 ?_
      refine lv_goto (tgt := 22) hx hb dX11_isWord_18 (by decide) ?_
      exact z_zret hx hb hr hlk (by first | exact Or.inl rfl | exact Or.inr rfl | omega) hW () (by first | exact bI_t (by omega) | exact bI_f (by omega)) trivial rfl dX11_isWord_22
set_option maxHeartbeats 4000000 in
set_option maxRecDepth 100000 in
theorem c_isIndexWordw {l : Launch} {G : va_G} {cI cJ cO : ClassId} (h : Nat) (q : Nat → Nat) (v : Nat → Int) (a : Nat → Int → Int)   (h6 : 0 ≤ v 6 ∧ v 6 ≤ 4) (h10 : v 6 = 2 → -9223372036854775808 ≤ v 10 ∧ v 10 < 9223372036854775808) : zC l yX11_isIndexWord wsX11_isIndexWord { frames := 3, cells := 0, slots := 0, locals := 68 } G (tyZ cI cJ cO) (S := Unit) [.ref h] (mW cI cJ h q v a) (zI (fun _ => bI (v 6 = 2 ∧ v 10 = 5061606))) (fun _ => True) (fun _ => mW cI cJ h q v a) 0 0 := by
  refine z_start (cc := cX11_isIndexWord) (maxL := 1) (ret := (some .boolean)) (by decide) rfl (Nat.le_of_ble_eq_true rfl) ?_
  intro p e s m below meth c A ls F hr hlk hnm hAe hA hW hl
  have hx := F.1
  have hb := F.2.1
  have hown : s.vm.findClass RX11 = some m.cls := F.2.2.2.1
  have hts := F.2.2.2.2
  have hl : lv_has ls 1 [(0, .ref h)] := hl
  refine lv_aload_n hx hb dX11_isIndexWord_0 rfl (lv_at hl 0 rfl) ?_
  refine z_bipush hx hb dX11_isIndexWord_1 (by decide +kernel) ?_
  refine z_bipush hx hb dX11_isIndexWord_3 (by decide +kernel) ?_
  refine z_bipush hx hb dX11_isIndexWord_5 (by decide +kernel) ?_
  refine z_bipush hx hb dX11_isIndexWord_7 (by decide +kernel) ?_
  refine z_bipush hx hb dX11_isIndexWord_9 (by decide +kernel) ?_
  refine z_callS (As := [.int (iI 105), .int (iI 110), .int (iI 100), .int (iI 101), .int (iI 120)]) (rest := [.ref h]) F (c_five 105 110 100 101 120  (show 0 ≤ 105 ∧ 105 ≤ 255 by omega) (show 0 ≤ 110 ∧ 110 ≤ 255 by omega) (show 0 ≤ 100 ∧ 100 ≤ 255 by omega) (show 0 ≤ 101 ∧ 101 ≤ 255 by omega) (show 0 ≤ 120 ∧ 120 ≤ 255 by omega)) gX11_isIndexWord_X11_five rfl ziX11_five ⟨rfl, rfl, by decide, by decide⟩ rfl hl.1 rfl (Nat.le_of_ble_eq_true rfl) dX11_isIndexWord_11 ⟨Nat.zero_le _, Nat.zero_le _⟩ hW hA [] rfl (by decide) (fun _ => rfl) (fun _ => mW cI cJ h q v a) (fun _ => rfl) (fun _ => [.long (lI (27 * (729 * (27 * (105 - 96) + 110 - 96) + (27 * (100 - 96) + 101 - 96)) + 120 - 96)), .ref h]) (fun _ => rfl) (fun _ H locs hp11 hW => ?_)
  refine z_callV (As := [.long (lI (27 * (729 * (27 * (105 - 96) + 110 - 96) + (27 * (100 - 96) + 101 - 96)) + 120 - 96))]) (rest := []) F (c_isWordw h q v a (27 * (729 * (27 * (105 - 96) + 110 - 96) + (27 * (100 - 96) + 101 - 96)) + 120 - 96)  (show -9223372036854775808 ≤ (27 * (729 * (27 * (105 - 96) + 110 - 96) + (27 * (100 - 96) + 101 - 96)) + 120 - 96) ∧ (27 * (729 * (27 * (105 - 96) + 110 - 96) + (27 * (100 - 96) + 101 - 96)) + 120 - 96) < 9223372036854775808 by omega) (show 0 ≤ (v 6) ∧ (v 6) ≤ 4 by omega) (show (v 6) = 2 → -9223372036854775808 ≤ (v 10) ∧ (v 10) < 9223372036854775808 by omega)) gX11_isIndexWord_X11_isWord rfl ziX11_isWord ⟨rfl, rfl, by decide, by decide⟩ rfl hl.1 rfl (Nat.le_of_ble_eq_true rfl) dX11_isIndexWord_14 ⟨Nat.zero_le _, Nat.zero_le _⟩ hW hA [0, 1, 2, 3, 4, 5, 6, 7, 8, 9, 10] rfl (by decide) (fun _ => rfl) (fun _ => mW cI cJ h q v a) (fun _ => rfl) (fun _ => [.int (iI (bI ((v 6) = 2 ∧ (v 10) = (27 * (729 * (27 * (105 - 96) + 110 - 96) + (27 * (100 - 96) + 101 - 96)) + 120 - 96))))]) (fun _ => rfl) 0 rfl rfl rfl (fun _ H locs hp14 hW => ?_)
  exact z_zret hx hb hr hlk (by unfold bI; split <;> omega) hW () rfl trivial rfl dX11_isIndexWord_17
theorem hiX11_told_X11 : ∀ w ∈ wsX110, w ∈ wsX11_told := fun _ h => List.mem_cons_of_mem _ (List.mem_append_right _ h)
theorem ziX11_told : yX11_told.cls = RX11 ∧ yX11_told.cls ≠ "java/lang/invoke/MethodHandle" ∧ yX11_told.cls ≠ "java/lang/invoke/VarHandle" ∧ (parseMethodDescriptor yX11_told.desc).map (fun d => d.parameters.length) = some 3 := by decide +kernel
set_option maxHeartbeats 4000000 in
set_option maxRecDepth 100000 in
theorem c_told {l : Launch} {G : va_G} {cI cJ cO : ClassId} (h : Nat) (q : Nat → Nat) (v : Nat → Int) (a : Nat → Int → Int) (w lo hi : Int) (y : Int) (h3 : 0 ≤ v 3 ∧ v 3 ≤ 640) (hT : ∀ j : Int, 0 ≤ j → j < 640 → 0 ≤ a 1 j ∧ a 1 j ≤ 255) (hM : MT (a 1) (v 3) y (v 4) (v 5) (v 6) (v 7) (v 10)) (hw : 0 ≤ w ∧ w < 3483) (hlo : -2147483648 ≤ lo ∧ lo < 2147483648) (hhi : -2147483648 ≤ hi ∧ hi < 2147483648) : zC l yX11_told wsX11_told { frames := 2, cells := 0, slots := 0, locals := 45 } G (tyZ cI cJ cO) (S := (Int) × (Int) × (Int → Int) × Int × Int × Int × Int × Int × Int × Int) [.ref h, .int (iI w), .int (iI lo), .int (iI hi)] (mW cI cJ h q v a) (zI (fun u => bI (u.1 = 0))) (fun u => Pnum (a 1) (v 3) w lo hi y (a 12) = (u.1, u.2.1, u.2.2.1) ∧ MT (a 1) (v 3) u.2.1 u.2.2.2.1 u.2.2.2.2.1 u.2.2.2.2.2.1 u.2.2.2.2.2.2.1 u.2.2.2.2.2.2.2.1 ∧ NF u.1 u.2.2.2.2.2.2.2.2.1 u.2.2.2.2.2.2.2.2.2 (tkP (a 1) (v 3) u.2.1) ∧ N8 u.1 u.2.2.2.2.2.2.2.2.1 (v 8)) (fun u => mW cI cJ h q (uV (uV (uV (uV (uV (uV (uV v 4 u.2.2.2.1) 5 u.2.2.2.2.1) 6 u.2.2.2.2.2.1) 7 u.2.2.2.2.2.2.1) 10 u.2.2.2.2.2.2.2.1) 8 u.2.2.2.2.2.2.2.2.1) 9 u.2.2.2.2.2.2.2.2.2) (uA a 12 u.2.2.1)) 0 0 := by
  refine z_start (cc := cX11_told) (maxL := 4) (ret := (some .boolean)) (by decide) rfl (Nat.le_of_ble_eq_true rfl) ?_
  intro p e s m below meth c A ls F hr hlk hnm hAe hA hW hl
  have hx := F.1
  have hb := F.2.1
  have hown : s.vm.findClass RX11 = some m.cls := F.2.2.2.1
  have hts := F.2.2.2.2
  have hl : lv_has ls 4 [(0, .ref h), (1, .int (iI w)), (2, .int (iI lo)), (3, .int (iI hi))] := hl
  have hR := MT_Rw hM (by omega) hT
  have hM0 := hM
  refine lv_aload_n hx hb dX11_told_0 rfl (lv_at hl 0 rfl) ?_
  refine z_get (v := .int (iI (v 6))) hx hb hts hiX11_told_X11 hown hW 0 6 1 rfl rfl rfl (by decide) rfl dX11_told_1 ?_
  refine z_iconst (n := 3) hx hb dX11_told_4 ?_
  refine z_icmp_eq (tgt := 14) hx hb dX11_told_5 (by decide) ⟨by omega, by omega⟩ (by decide) (fun c5 => ?_) (fun c5 => ?_)
  · have hn7 := hR.2.1 c5
    refine lv_aload_n hx hb dX11_told_14 rfl (lv_at hl 0 rfl) ?_
    refine z_get (v := .int (iI (v 7))) hx hb hts hiX11_told_X11 hown hW 0 7 2 rfl rfl rfl (by decide) rfl dX11_told_15 ?_
    refine lv_iload_n hx hb dX11_told_18 rfl (lv_at hl 2 rfl) ?_
    refine lv_iload_n hx hb dX11_told_19 rfl (lv_at hl 3 rfl) ?_
    refine z_callS (As := [.int (iI (v 7)), .int (iI lo), .int (iI hi)]) (rest := []) F (c_isIn (v 7) lo hi  (show -2147483648 ≤ (v 7) ∧ (v 7) < 2147483648 by omega) (show -2147483648 ≤ lo ∧ lo < 2147483648 by omega) (show -2147483648 ≤ hi ∧ hi < 2147483648 by omega)) gX11_told_X11_isIn rfl ziX11_isIn ⟨rfl, rfl, by decide, by decide⟩ rfl hl.1 rfl (Nat.le_of_ble_eq_true rfl) dX11_told_20 ⟨Nat.zero_le _, Nat.zero_le _⟩ hW hA [] rfl (by decide) (fun _ => rfl) (fun _ => mW cI cJ h q v a) (fun _ => rfl) (fun _ => [.int (iI (bI (lo ≤ (v 7) ∧ (v 7) ≤ hi)))]) (fun _ => rfl) (fun _ H locs hp20 hW => ?_)
    refine z_b_ne (tgt := 32) hx hb dX11_told_23 (by decide) (fun c23 => ?_) (fun c23 => ?_)
    · refine lv_aload_n hx hb dX11_told_32 rfl (lv_at hl 0 rfl) ?_
      refine z_get (v := .ref (q 12)) hx hb hts hiX11_told_X11 hown hW 0 12 3 rfl rfl rfl (by decide) rfl dX11_told_33 ?_
      refine lv_iload_n hx hb dX11_told_36 rfl (lv_at hl 1 rfl) ?_
      refine lv_aload_n hx hb dX11_told_37 rfl (lv_at hl 0 rfl) ?_
      refine z_get (v := .int (iI (v 7))) hx hb hts hiX11_told_X11 hown hW 0 7 2 rfl rfl rfl (by decide) rfl dX11_told_38 ?_
      refine z_iast (f := a 12) (i := w) (z := v 7) hx hb hW 3 0 rfl rfl (by decide) ⟨by omega, by omega⟩ dX11_told_41 (fun H locs hW => ?_)
      have hW : zW G (tyZ cI cJ cO) A s (mW cI cJ h q v (uA a 12 (uI (a 12) w (v 7)))) H locs := hW
      refine lv_aload_n hx hb dX11_told_42 rfl (lv_at hl 0 rfl) ?_
      refine z_callV (As := []) (rest := []) F (c_go h q v (uA a 12 (uI (a 12) w (v 7)))   (show 0 ≤ (v 3) ∧ (v 3) ≤ 640 by omega) (show 0 ≤ (v 4) ∧ (v 4) ≤ (v 3) by omega) hT) gX11_told_X11_go rfl ziX11_go ⟨rfl, rfl, by decide, by decide⟩ rfl hl.1 rfl (Nat.le_of_ble_eq_true rfl) dX11_told_43 ⟨Nat.zero_le _, Nat.zero_le _⟩ hW hA [0, 1, 2, 3, 4, 5, 6, 7, 8, 9, 10] rfl (by decide) (fun _ => rfl) (fun u => mW cI cJ h q (uV (uV (uV (uV (uV v 4 u.1) 5 u.2.1) 6 u.2.2.1) 7 u.2.2.2.1) 10 u.2.2.2.2) (uA a 12 (uI (a 12) w (v 7)))) (fun _ => rfl) (fun u => []) (fun _ => rfl) 0 rfl rfl rfl (fun u H locs hp43 hW => ?_)
      obtain ⟨b4_1, b5_2, b6_3, b7_4, b10_5⟩ := u
      have hp43 : b4_1 = tkB ((a 1)) ((v 3)) ((v 4)) ∧ b5_2 = tkP ((a 1)) ((v 3)) ((v 4)) ∧ b6_3 = tkS ((a 1)) ((v 3)) ((v 4)) ∧ (b6_3 = 2 → b10_5 = tkW ((a 1)) ((v 3)) ((v 4))) ∧ (b6_3 = 3 → b7_4 = tkN ((a 1)) ((v 3)) ((v 4))) := hp43
      have hW : zW G (tyZ cI cJ cO) A s (mW cI cJ h q (uV (uV (uV (uV (uV v 4 b4_1) 5 b5_2) 6 b6_3) 7 b7_4) 10 b10_5) (uA a 12 (uI (a 12) w (v 7)))) H locs := hW
      have hM : MT (a 1) (v 3) (tkB (a 1) (v 3) y) b4_1 b5_2 b6_3 b7_4 b10_5 := MT_go hM hp43
      clear hR hp43
      have hR := MT_Rw hM (by omega) hT
      refine z_iconst (n := 1) hx hb dX11_told_46 ?_
      exact z_zret hx hb hr hlk (by first | exact Or.inl rfl | exact Or.inr rfl | omega) hW (⟨0, tkB (a 1) (v 3) y, uI (a 12) w (v 7), b4_1, b5_2, b6_3, b7_4, b10_5, v 8, v 9⟩) (bI_t (show (0 : Int) = 0 from rfl)) (show _ = _ ∧ MT _ _ _ _ _ _ _ _ ∧ NF _ _ _ _ ∧ N8 _ _ _ from ⟨by unfold Pnum; rw [if_neg (by have := hM0.2.2.2.1; omega), if_neg (by have := hM0.2.2.2.2.2 c5; omega), ← hM0.2.2.2.2.2 c5], hM, (fun q => absurd rfl q), (fun _ => rfl)⟩) rfl dX11_told_47
    · refine lv_aload_n hx hb dX11_told_26 rfl (lv_at hl 0 rfl) ?_
      refine z_iconst (n := 2) hx hb dX11_told_27 ?_
      refine z_callV (As := [.int (iI 2)]) (rest := []) F (c_bad h q v a 2  (show 1 ≤ 2 ∧ 2 ≤ 4 by omega) (show 0 ≤ (v 6) ∧ (v 6) ≤ 4 by omega)) gX11_told_X11_bad rfl ziX11_bad ⟨rfl, rfl, by decide, by decide⟩ rfl hl.1 rfl (Nat.le_of_ble_eq_true rfl) dX11_told_28 ⟨Nat.zero_le _, Nat.zero_le _⟩ hW hA [0, 1, 2, 3, 4, 5, 6, 7, 8, 9, 10] rfl (by decide) (fun _ => rfl) (fun _ => mW cI cJ h q (uV (uV v 8 (if (v 6) = 1 then 1 else 2)) 9 (v 5)) a) (fun _ => rfl) (fun _ => [.int (iI 0)]) (fun _ => rfl) 0 rfl rfl rfl (fun _ H locs hp28 hW => ?_)
      exact z_zret hx hb hr hlk (by first | exact Or.inl rfl | exact Or.inr rfl | omega) hW (⟨2, y, a 12, v 4, v 5, v 6, v 7, v 10, if (v 6) = 1 then 1 else 2, (v 5)⟩) (bI_f (show ¬ (2 : Int) = 0 by decide)) (show _ = _ ∧ MT _ _ _ _ _ _ _ _ ∧ NF _ _ _ _ ∧ N8 _ _ _ from ⟨by unfold Pnum; rw [if_neg (by have := hM.2.2.2.1; omega), if_pos (by have := hM.2.2.2.2.2 c5; omega)], hM, (fun _ => ⟨(by show (if _ = (1 : Int) then (1 : Int) else _) = _; split <;> omega), hM.2.2.1⟩), (fun q => absurd (show (2 : Int) = 0 from q) (by decide))⟩) rfl dX11_told_31
  · refine lv_aload_n hx hb dX11_told_8 rfl (lv_at hl 0 rfl) ?_
    refine z_iconst (n := 1) hx hb dX11_told_9 ?_
    refine z_callV (As := [.int (iI 1)]) (rest := []) F (c_bad h q v a 1  (show 1 ≤ 1 ∧ 1 ≤ 4 by omega) (show 0 ≤ (v 6) ∧ (v 6) ≤ 4 by omega)) gX11_told_X11_bad rfl ziX11_bad ⟨rfl, rfl, by decide, by decide⟩ rfl hl.1 rfl (Nat.le_of_ble_eq_true rfl) dX11_told_10 ⟨Nat.zero_le _, Nat.zero_le _⟩ hW hA [0, 1, 2, 3, 4, 5, 6, 7, 8, 9, 10] rfl (by decide) (fun _ => rfl) (fun _ => mW cI cJ h q (uV (uV v 8 (if (v 6) = 1 then 1 else 1)) 9 (v 5)) a) (fun _ => rfl) (fun _ => [.int (iI 0)]) (fun _ => rfl) 0 rfl rfl rfl (fun _ H locs hp10 hW => ?_)
    exact z_zret hx hb hr hlk (by first | exact Or.inl rfl | exact Or.inr rfl | omega) hW (⟨1, y, a 12, v 4, v 5, v 6, v 7, v 10, if (v 6) = 1 then 1 else 1, (v 5)⟩) (bI_f (show ¬ (1 : Int) = 0 by decide)) (show _ = _ ∧ MT _ _ _ _ _ _ _ _ ∧ NF _ _ _ _ ∧ N8 _ _ _ from ⟨by unfold Pnum; rw [if_pos (by have := hM.2.2.2.1; omega)], hM, (fun _ => ⟨(by show (if _ = (1 : Int) then (1 : Int) else _) = _; split <;> omega), hM.2.2.1⟩), (fun q => absurd (show (1 : Int) = 0 from q) (by decide))⟩) rfl dX11_told_13
theorem hiX11_readEnd_X11 : ∀ w ∈ wsX110, w ∈ wsX11_readEnd := fun _ h => List.mem_cons_of_mem _ (List.mem_append_right _ h)
theorem ziX11_readEnd : yX11_readEnd.cls = RX11 ∧ yX11_readEnd.cls ≠ "java/lang/invoke/MethodHandle" ∧ yX11_readEnd.cls ≠ "java/lang/invoke/VarHandle" ∧ (parseMethodDescriptor yX11_readEnd.desc).map (fun d => d.parameters.length) = some 0 := by decide +kernel
set_option maxHeartbeats 4000000 in
set_option maxRecDepth 100000 in
theorem c_readEnd {l : Launch} {G : va_G} {cI cJ cO : ClassId} (h : Nat) (q : Nat → Nat) (v : Nat → Int) (a : Nat → Int → Int)  (y : Int) (h3 : 0 ≤ v 3 ∧ v 3 ≤ 640) (hT : ∀ j : Int, 0 ≤ j → j < 640 → 0 ≤ a 1 j ∧ a 1 j ≤ 255) (hM : MT (a 1) (v 3) y (v 4) (v 5) (v 6) (v 7) (v 10)) : zC l yX11_readEnd wsX11_readEnd { frames := 2, cells := 0, slots := 0, locals := 45 } G (tyZ cI cJ cO) (S := (Int) × (Int) × (Int → Int) × Int × Int × Int × Int × Int × Int × Int) [.ref h] (mW cI cJ h q v a) (zI (fun u => bI (u.1 = 0))) (fun u => Pend (a 1) (v 3) y (a 12) = (u.1, u.2.1, u.2.2.1) ∧ MT (a 1) (v 3) u.2.1 u.2.2.2.1 u.2.2.2.2.1 u.2.2.2.2.2.1 u.2.2.2.2.2.2.1 u.2.2.2.2.2.2.2.1 ∧ NF u.1 u.2.2.2.2.2.2.2.2.1 u.2.2.2.2.2.2.2.2.2 (tkP (a 1) (v 3) u.2.1) ∧ N8 u.1 u.2.2.2.2.2.2.2.2.1 (v 8)) (fun u => mW cI cJ h q (uV (uV (uV (uV (uV (uV (uV v 4 u.2.2.2.1) 5 u.2.2.2.2.1) 6 u.2.2.2.2.2.1) 7 u.2.2.2.2.2.2.1) 10 u.2.2.2.2.2.2.2.1) 8 u.2.2.2.2.2.2.2.2.1) 9 u.2.2.2.2.2.2.2.2.2) (uA a 12 u.2.2.1)) 0 0 := by
  refine z_start (cc := cX11_readEnd) (maxL := 1) (ret := (some .boolean)) (by decide) rfl (Nat.le_of_ble_eq_true rfl) ?_
  intro p e s m below meth c A ls F hr hlk hnm hAe hA hW hl
  have hx := F.1
  have hb := F.2.1
  have hown : s.vm.findClass RX11 = some m.cls := F.2.2.2.1
  have hts := F.2.2.2.2
  have hl : lv_has ls 1 [(0, .ref h)] := hl
  have hR := MT_Rw hM (by omega) hT
  have hM0 := hM
  refine lv_aload_n hx hb dX11_readEnd_0 rfl (lv_at hl 0 rfl) ?_
  refine z_get (v := .int (iI (v 6))) hx hb hts hiX11_readEnd_X11 hown hW 0 6 1 rfl rfl rfl (by decide) rfl dX11_readEnd_1 ?_
  refine z_iconst (n := 4) hx hb dX11_readEnd_4 ?_
  refine z_icmp_eq (tgt := 14) hx hb dX11_readEnd_5 (by decide) ⟨by omega, by omega⟩ (by decide) (fun c5 => ?_) (fun c5 => ?_)
  · refine lv_aload_n hx hb dX11_readEnd_14 rfl (lv_at hl 0 rfl) ?_
    refine z_callV (As := []) (rest := []) F (c_go h q v a   (show 0 ≤ (v 3) ∧ (v 3) ≤ 640 by omega) (show 0 ≤ (v 4) ∧ (v 4) ≤ (v 3) by omega) hT) gX11_readEnd_X11_go rfl ziX11_go ⟨rfl, rfl, by decide, by decide⟩ rfl hl.1 rfl (Nat.le_of_ble_eq_true rfl) dX11_readEnd_15 ⟨Nat.zero_le _, Nat.zero_le _⟩ hW hA [0, 1, 2, 3, 4, 5, 6, 7, 8, 9, 10] rfl (by decide) (fun _ => rfl) (fun u => mW cI cJ h q (uV (uV (uV (uV (uV v 4 u.1) 5 u.2.1) 6 u.2.2.1) 7 u.2.2.2.1) 10 u.2.2.2.2) a) (fun _ => rfl) (fun u => []) (fun _ => rfl) 0 rfl rfl rfl (fun u H locs hp15 hW => ?_)
    obtain ⟨b4_1, b5_2, b6_3, b7_4, b10_5⟩ := u
    have hp15 : b4_1 = tkB ((a 1)) ((v 3)) ((v 4)) ∧ b5_2 = tkP ((a 1)) ((v 3)) ((v 4)) ∧ b6_3 = tkS ((a 1)) ((v 3)) ((v 4)) ∧ (b6_3 = 2 → b10_5 = tkW ((a 1)) ((v 3)) ((v 4))) ∧ (b6_3 = 3 → b7_4 = tkN ((a 1)) ((v 3)) ((v 4))) := hp15
    have hW : zW G (tyZ cI cJ cO) A s (mW cI cJ h q (uV (uV (uV (uV (uV v 4 b4_1) 5 b5_2) 6 b6_3) 7 b7_4) 10 b10_5) a) H locs := hW
    have hM : MT (a 1) (v 3) (tkB (a 1) (v 3) y) b4_1 b5_2 b6_3 b7_4 b10_5 := MT_go hM hp15
    clear hR hp15
    have hR := MT_Rw hM (by omega) hT
    refine z_iconst (n := 1) hx hb dX11_readEnd_18 ?_
    exact z_zret hx hb hr hlk (by first | exact Or.inl rfl | exact Or.inr rfl | omega) hW (⟨0, tkB (a 1) (v 3) y, a 12, b4_1, b5_2, b6_3, b7_4, b10_5, v 8, v 9⟩) (bI_t (show (0 : Int) = 0 from rfl)) (show _ = _ ∧ MT _ _ _ _ _ _ _ _ ∧ NF _ _ _ _ ∧ N8 _ _ _ from ⟨by unfold Pend; rw [if_neg (by have := hM0.2.2.2.1; omega)], hM, (fun q => absurd rfl q), (fun _ => rfl)⟩) rfl dX11_readEnd_19
  · refine lv_aload_n hx hb dX11_readEnd_8 rfl (lv_at hl 0 rfl) ?_
    refine z_iconst (n := 1) hx hb dX11_readEnd_9 ?_
    refine z_callV (As := [.int (iI 1)]) (rest := []) F (c_bad h q v a 1  (show 1 ≤ 1 ∧ 1 ≤ 4 by omega) (show 0 ≤ (v 6) ∧ (v 6) ≤ 4 by omega)) gX11_readEnd_X11_bad rfl ziX11_bad ⟨rfl, rfl, by decide, by decide⟩ rfl hl.1 rfl (Nat.le_of_ble_eq_true rfl) dX11_readEnd_10 ⟨Nat.zero_le _, Nat.zero_le _⟩ hW hA [0, 1, 2, 3, 4, 5, 6, 7, 8, 9, 10] rfl (by decide) (fun _ => rfl) (fun _ => mW cI cJ h q (uV (uV v 8 (if (v 6) = 1 then 1 else 1)) 9 (v 5)) a) (fun _ => rfl) (fun _ => [.int (iI 0)]) (fun _ => rfl) 0 rfl rfl rfl (fun _ H locs hp10 hW => ?_)
    exact z_zret hx hb hr hlk (by first | exact Or.inl rfl | exact Or.inr rfl | omega) hW (⟨1, y, a 12, v 4, v 5, v 6, v 7, v 10, if (v 6) = 1 then 1 else 1, (v 5)⟩) (bI_f (show ¬ (1 : Int) = 0 by decide)) (show _ = _ ∧ MT _ _ _ _ _ _ _ _ ∧ NF _ _ _ _ ∧ N8 _ _ _ from ⟨by unfold Pend; rw [if_pos (by have := hM.2.2.2.1; omega)], hM, (fun _ => ⟨(by show (if _ = (1 : Int) then (1 : Int) else _) = _; split <;> omega), hM.2.2.1⟩), (fun q => absurd (show (1 : Int) = 0 from q) (by decide))⟩) rfl dX11_readEnd_13
