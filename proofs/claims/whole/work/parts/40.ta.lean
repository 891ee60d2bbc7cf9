/-! the text: signs, runs -/
abbrev isLt (z : Int) : Prop := 97 ≤ z ∧ z ≤ 122
abbrev isDg (z : Int) : Prop := 48 ≤ z ∧ z ≤ 57
/-- behind the run from y on, n steps at most -/
def RUN (T : Int → Int) (z y : Int) : Nat → Int
  | 0 => y
  | n + 1 => if y < z ∧ (isLt (T y) ∨ isDg (T y)) then RUN T z (y + 1) n else y
/-- behind the run that is at y -/
def BHD (T : Int → Int) (z y : Int) : Int := RUN T z y (z - y).toNat
theorem BHD_go {T : Int → Int} {z y : Int} (h : y < z ∧ (isLt (T y) ∨ isDg (T y))) : BHD T z y = BHD T z (y + 1) := by
  unfold BHD
  rw [show (z - y).toNat = (z - (y + 1)).toNat + 1 by omega]
  exact if_pos h
theorem BHD_end {T : Int → Int} {z y : Int} (h : ¬ (y < z ∧ (isLt (T y) ∨ isDg (T y)))) : BHD T z y = y := by
  unfold BHD
  cases (z - y).toNat with
  | zero => rfl
  | succ n => exact if_neg h
theorem RUN_R {T : Int → Int} {z : Int} : ∀ (n : Nat) (y : Int), y ≤ RUN T z y n ∧ (RUN T z y n ≤ z ∨ RUN T z y n = y) := by
  intro n
  induction n with
  | zero => intro y; exact ⟨Int.le_refl _, Or.inr rfl⟩
  | succ n ih =>
    intro y
    show y ≤ (if y < z ∧ (isLt (T y) ∨ isDg (T y)) then RUN T z (y + 1) n else y) ∧ ((if y < z ∧ (isLt (T y) ∨ isDg (T y)) then RUN T z (y + 1) n else y) ≤ z ∨ (if y < z ∧ (isLt (T y) ∨ isDg (T y)) then RUN T z (y + 1) n else y) = y)
    have t := ih (y + 1)
    split <;> omega
theorem BHD_R {T : Int → Int} {z y : Int} : y ≤ BHD T z y ∧ (BHD T z y ≤ z ∨ BHD T z y = y) := RUN_R _ _
theorem ziX7_isBlank : yX7_isBlank.cls = RX7 ∧ yX7_isBlank.cls ≠ "java/lang/invoke/MethodHandle" ∧ yX7_isBlank.cls ≠ "java/lang/invoke/VarHandle" ∧ (parseMethodDescriptor yX7_isBlank.desc).map (fun d => d.parameters.length) = some 1 := by decide +kernel
set_option maxHeartbeats 4000000 in
set_option maxRecDepth 100000 in
theorem c_X7_isBlank {l : Launch} {G : va_G} {cI cJ cO : ClassId}   (z : Int)  (h1 : -2147483648 ≤ z ∧ z < 2147483648) : zC l yX7_isBlank wsX7_isBlank { frames := 0, cells := 0, slots := 0, locals := 0 } G (tyZ cI cJ cO) (S := Unit) [.int (iI z)] ([]) (zI (fun _ => bI (z = 32 ∨ z = 10))) (fun _ => True) (fun _ => []) 0 0 := by
  refine z_start (cc := cX7_isBlank) (maxL := 1) (ret := (some .boolean)) (by decide) rfl (Nat.le_of_ble_eq_true rfl) ?_
  intro p e s m below meth c A ls F hr hlk hnm hAe hA hW hl
  have hx := F.1
  have hb := F.2.1
  have hown : s.vm.findClass RX7 = some m.cls := F.2.2.2.1
  have hts := F.2.2.2.2
  have hl : lv_has ls 1 [(0, .int (iI z))] := hl
  refine lv_iload_n hx hb dX7_isBlank_0 rfl (lv_at hl 0 rfl) ?_
  refine z_bipush hx hb dX7_isBlank_1 (by decide +kernel) ?_
  refine z_icmp_eq (tgt := 12) hx hb dX7_isBlank_3 (by decide) ⟨by omega, by omega⟩ (by decide) (fun c3 => ?_) (fun c3 => ?_)
  · refine z_iconst (n := 1) hx hb dX7_isBlank_12 ?_
    refine lv_goto (tgt := 17) hx hb dX7_isBlank_13 (by decide) ?_
    exact z_zret hx hb hr hlk (by first | exact Or.inl rfl | exact Or.inr rfl | omega) hW () (by first | exact bI_t (by omega) | exact bI_f (by omega)) trivial rfl dX7_isBlank_17
  · refine lv_iload_n hx hb dX7_isBlank_6 rfl (lv_at hl 0 rfl) ?_
    refine z_bipush hx hb dX7_isBlank_7 (by decide +kernel) ?_
    refine z_icmp_ne (tgt := 16) hx hb dX7_isBlank_9 (by decide) ⟨by omega, by omega⟩ (by decide) (fun c9 => ?_) (fun c9 => ?_)
    · refine z_iconst (n := 0) hx hb dX7_isBlank_16 ?_
      exact z_zret hx hb hr hlk (by first | exact Or.inl rfl | exact Or.inr rfl | omega) hW () (by first | exact bI_t (by omega) | exact bI_f (by omega)) trivial rfl dX7_isBlank_17
    · refine z_iconst (n := 1) hx hb dX7_isBlank_12 ?_
      refine lv_goto (tgt := 17) hx hb dX7_isBlank_13 (by decide) ?_
      exact z_zret hx hb hr hlk (by first | exact Or.inl rfl | exact Or.inr rfl | omega) hW () (by first | exact bI_t (by omega) | exact bI_f (by omega)) trivial rfl dX7_isBlank_17
theorem ziX7_isLetter : yX7_isLetter.cls = RX7 ∧ yX7_isLetter.cls ≠ "java/lang/invoke/MethodHandle" ∧ yX7_isLetter.cls ≠ "java/lang/invoke/VarHandle" ∧ (parseMethodDescriptor yX7_isLetter.desc).map (fun d => d.parameters.length) = some 1 := by decide +kernel
set_option maxHeartbeats 4000000 in
set_option maxRecDepth 100000 in
theorem c_X7_isLetter {l : Launch} {G : va_G} {cI cJ cO : ClassId}   (z : Int)  (h1 : -2147483648 ≤ z ∧ z < 2147483648) : zC l yX7_isLetter wsX7_isLetter { frames := 0, cells := 0, slots := 0, locals := 0 } G (tyZ cI cJ cO) (S := Unit) [.int (iI z)] ([]) (zI (fun _ => bI (isLt z))) (fun _ => True) (fun _ => []) 0 0 := by
  refine z_start (cc := cX7_isLetter) (maxL := 1) (ret := (some .boolean)) (by decide) rfl (Nat.le_of_ble_eq_true rfl) ?_
  intro p e s m below meth c A ls F hr hlk hnm hAe hA hW hl
  have hx := F.1
  have hb := F.2.1
  have hown : s.vm.findClass RX7 = some m.cls := F.2.2.2.1
  have hts := F.2.2.2.2
  have hl : lv_has ls 1 [(0, .int (iI z))] := hl
  refine lv_iload_n hx hb dX7_isLetter_0 rfl (lv_at hl 0 rfl) ?_
  refine z_bipush hx hb dX7_isLetter_1 (by decide +kernel) ?_
  refine z_icmp_lt (tgt := 16) hx hb dX7_isLetter_3 (by decide) ⟨by omega, by omega⟩ (by decide) (fun c3 => ?_) (fun c3 => ?_)
  · refine z_iconst (n := 0) hx hb dX7_isLetter_16 ?_
    exact z_zret hx hb hr hlk (by first | exact Or.inl rfl | exact Or.inr rfl | omega) hW () (by first | exact bI_t (by omega) | exact bI_f (by omega)) trivial rfl dX7_isLetter_17
  · refine lv_iload_n hx hb dX7_isLetter_6 rfl (lv_at hl 0 rfl) ?_
    refine z_bipush hx hb dX7_isLetter_7 (by decide +kernel) ?_
    refine z_icmp_gt (tgt := 16) hx hb dX7_isLetter_9 (by decide) ⟨by omega, by omega⟩ (by decide) (fun c9 => ?_) (fun c9 => ?_)
    · refine z_iconst (n := 0) hx hb dX7_isLetter_16 ?_
      exact z_zret hx hb hr hlk (by first | exact Or.inl rfl | exact Or.inr rfl | omega) hW () (by first | exact bI_t (by omega) | exact bI_f (by omega)) trivial rfl dX7_isLetter_17
    · refine z_iconst (n := 1) hx hb dX7_isLetter_12 ?_
      refine lv_goto (tgt := 17) hx hb dX7_isLetter_13 (by decide) ?_
      exact z_zret hx hb hr hlk (by first | exact Or.inl rfl | exact Or.inr rfl | omega) hW () (by first | exact bI_t (by omega) | exact bI_f (by omega)) trivial rfl dX7_isLetter_17
theorem ziX7_isDigit : yX7_isDigit.cls = RX7 ∧ yX7_isDigit.cls ≠ "java/lang/invoke/MethodHandle" ∧ yX7_isDigit.cls ≠ "java/lang/invoke/VarHandle" ∧ (parseMethodDescriptor yX7_isDigit.desc).map (fun d => d.parameters.length) = some 1 := by decide +kernel
set_option maxHeartbeats 4000000 in
set_option maxRecDepth 100000 in
theorem c_X7_isDigit {l : Launch} {G : va_G} {cI cJ cO : ClassId}   (z : Int)  (h1 : -2147483648 ≤ z ∧ z < 2147483648) : zC l yX7_isDigit wsX7_isDigit { frames := 0, cells := 0, slots := 0, locals := 0 } G (tyZ cI cJ cO) (S := Unit) [.int (iI z)] ([]) (zI (fun _ => bI (isDg z))) (fun _ => True) (fun _ => []) 0 0 := by
  refine z_start (cc := cX7_isDigit) (maxL := 1) (ret := (some .boolean)) (by decide) rfl (Nat.le_of_ble_eq_true rfl) ?_
  intro p e s m below meth c A ls F hr hlk hnm hAe hA hW hl
  have hx := F.1
  have hb := F.2.1
  have hown : s.vm.findClass RX7 = some m.cls := F.2.2.2.1
  have hts := F.2.2.2.2
  have hl : lv_has ls 1 [(0, .int (iI z))] := hl
  refine lv_iload_n hx hb dX7_isDigit_0 rfl (lv_at hl 0 rfl) ?_
  refine z_bipush hx hb dX7_isDigit_1 (by decide +kernel) ?_
  refine z_icmp_lt (tgt := 16) hx hb dX7_isDigit_3 (by decide) ⟨by omega, by omega⟩ (by decide) (fun c3 => ?_) (fun c3 => ?_)
  · refine z_iconst (n := 0) hx hb dX7_isDigit_16 ?_
    exact z_zret hx hb hr hlk (by first | exact Or.inl rfl | exact Or.inr rfl | omega) hW () (by first | exact bI_t (by omega) | exact bI_f (by omega)) trivial rfl dX7_isDigit_17
  · refine lv_iload_n hx hb dX7_isDigit_6 rfl (lv_at hl 0 rfl) ?_
    refine z_bipush hx hb dX7_isDigit_7 (by decide +kernel) ?_
    refine z_icmp_gt (tgt := 16) hx hb dX7_isDigit_9 (by decide) ⟨by omega, by omega⟩ (by decide) (fun c9 => ?_) (fun c9 => ?_)
    · refine z_iconst (n := 0) hx hb dX7_isDigit_16 ?_
      exact z_zret hx hb hr hlk (by first | exact Or.inl rfl | exact Or.inr rfl | omega) hW () (by first | exact bI_t (by omega) | exact bI_f (by omega)) trivial rfl dX7_isDigit_17
    · refine z_iconst (n := 1) hx hb dX7_isDigit_12 ?_
      refine lv_goto (tgt := 17) hx hb dX7_isDigit_13 (by decide) ?_
      exact z_zret hx hb hr hlk (by first | exact Or.inl rfl | exact Or.inr rfl | omega) hW () (by first | exact bI_t (by omega) | exact bI_f (by omega)) trivial rfl dX7_isDigit_17
theorem hiX7_endOfRun_X6 : ∀ w ∈ wsX60, w ∈ wsX7_endOfRun := fun _ h => List.mem_cons_of_mem _ (List.mem_append_right _ h)
theorem ziX7_endOfRun : yX7_endOfRun.cls = RX7 ∧ yX7_endOfRun.cls ≠ "java/lang/invoke/MethodHandle" ∧ yX7_endOfRun.cls ≠ "java/lang/invoke/VarHandle" ∧ (parseMethodDescriptor yX7_endOfRun.desc).map (fun d => d.parameters.length) = some 2 := by decide +kernel
set_option maxHeartbeats 4000000 in
set_option maxRecDepth 100000 in
theorem c_X7_endOfRun {l : Launch} {G : va_G} {cI cJ cO : ClassId}  (h : Nat) (q : Nat → Nat) (v : Nat → Int) (a : Nat → Int → Int) (y : Int)  (h1 : 0 ≤ y ∧ y ≤ 640) (h2 : 0 ≤ v 1 ∧ v 1 ≤ 640) (hT : ∀ j : Int, 0 ≤ j → j < 640 → 0 ≤ a 0 j ∧ a 0 j ≤ 255) : zC l yX7_endOfRun wsX7_endOfRun { frames := 1, cells := 0, slots := 0, locals := 21 } G (tyZ cI cJ cO) (S := Unit) [.ref h, .int (iI y)] (tW cI cJ h q v a) (zI (fun _ => BHD (a 0) (v 1) y)) (fun _ => True) (fun _ => tW cI cJ h q v a) 0 0 := by
  refine z_start (cc := cX7_endOfRun) (maxL := 3) (ret := (some .int)) (by decide) rfl (Nat.le_of_ble_eq_true rfl) ?_
  intro p e s m below meth c A ls F hr hlk hnm hAe hA hW hl
  have hx := F.1
  have hb := F.2.1
  have hown : s.vm.findClass RX7 = some m.cls := F.2.2.2.1
  have hts := F.2.2.2.2
  have hl : lv_has ls 3 [(0, .ref h), (1, .int (iI y))] := hl
  refine lv_iload_n hx hb dX7_endOfRun_0 rfl (lv_at hl 1 rfl) ?_
  refine lv_istore_n (lv' := [(2, .int (iI y)), (0, .ref h), (1, .int (iI y))]) hx hb dX7_endOfRun_1 rfl hl (by decide) rfl (fun ls hl => ?_)
  refine z_loop1 (fun (j2 : Int) (ls : Array Slot) (H : Heap) (locs : List Loc) => (y ≤ j2 ∧ (j2 ≤ v 1 ∨ j2 = y)) ∧ (BHD (a 0) (v 1) j2 = BHD (a 0) (v 1) y) ∧ zW G (tyZ cI cJ cO) A s (tW cI cJ h q v a) H locs ∧ lv_has ls 3 [(2, .int (iI j2)), (0, .ref h), (1, .int (iI y))]) (fun j2 => (v 1 - j2).toNat) ?_ y _ _ _ ⟨(by omega), rfl, hW, (lv_sub hl [0, 1, 2] rfl)⟩
  intro j2 ls H locs hI ih
  obtain ⟨i1, i2, hW, hl⟩ := hI
  refine lv_iload_n hx hb dX7_endOfRun_2 rfl (lv_at hl 0 rfl) ?_
  refine lv_aload_n hx hb dX7_endOfRun_3 rfl (lv_at hl 1 rfl) ?_
  refine z_get (v := .int (iI (v 1))) hx hb hts hiX7_endOfRun_X6 hown hW 0 1 1 rfl rfl rfl (by decide) rfl dX7_endOfRun_4 ?_
  refine z_icmp_ge (tgt := 38) hx hb dX7_endOfRun_7 (by decide) ⟨by omega, by omega⟩ ⟨by omega, by omega⟩ (fun c7 => ?_) (fun c7 => ?_)
  · refine lv_iload_n hx hb dX7_endOfRun_38 rfl (lv_at hl 0 rfl) ?_
    exact z_iret hx hb hr hlk hW () (by rw [← i2]; exact BHD_end (fun q9 => by first | exact absurd q9.1 (by omega) | exact q9.2.elim c18 c29)) trivial rfl dX7_endOfRun_39
  · refine lv_aload_n hx hb dX7_endOfRun_10 rfl (lv_at hl 1 rfl) ?_
    refine lv_iload_n hx hb dX7_endOfRun_11 rfl (lv_at hl 0 rfl) ?_
    refine z_callV (As := [.int (iI j2)]) (rest := []) F (c_X6_byteAt  h q v a j2  (show -2147483648 ≤ j2 ∧ j2 < 2147483648 by omega) (show 0 ≤ (v 1) ∧ (v 1) ≤ 640 by omega)) gX7_endOfRun_X6_byteAt rfl ziX6_byteAt ⟨rfl, rfl, by decide, by decide⟩ rfl hl.1 rfl (Nat.le_of_ble_eq_true rfl) dX7_endOfRun_12 ⟨Nat.zero_le _, Nat.zero_le _⟩ hW hA [0, 1] rfl (by decide) (fun _ => rfl) (fun _ => tW cI cJ h q v a) (fun _ => rfl) (fun _ => [.int (iI (if 0 ≤ j2 ∧ j2 < (v 1) then (a 0) j2 else -1))]) (fun _ => rfl) 0 rfl rfl rfl (fun _ H locs hp12 hW => ?_)
    rw [if_pos (show 0 ≤ j2 ∧ j2 < v 1 by omega)]
    have hj := hT j2 (by omega) (by omega)
    refine z_callS (As := [.int (iI (a 0 j2))]) (rest := []) F (c_X7_isLetter   (a 0 j2)  (show -2147483648 ≤ (a 0 j2) ∧ (a 0 j2) < 2147483648 by omega)) gX7_endOfRun_X7_isLetter rfl ziX7_isLetter ⟨rfl, rfl, by decide, by decide⟩ rfl hl.1 rfl (Nat.le_of_ble_eq_true rfl) dX7_endOfRun_15 ⟨Nat.zero_le _, Nat.zero_le _⟩ hW hA [] rfl (by decide) (fun _ => rfl) (fun _ => tW cI cJ h q v a) (fun _ => rfl) (fun _ => [.int (iI (bI (isLt (a 0 j2))))]) (fun _ => rfl) (fun _ H locs hp15 hW => ?_)
    refine z_b_ne (tgt := 32) hx hb dX7_endOfRun_18 (by decide) (fun c18 => ?_) (fun c18 => ?_)
    · refine z_iinc (k := 0) (lv' := [(2, .int (iI (j2 + 1))), (0, .ref h), (1, .int (iI y))]) hx hb dX7_endOfRun_32 hl rfl (by decide) rfl (fun ls hl => ?_)
      refine lv_goto (tgt := 2) hx hb dX7_endOfRun_35 (by decide) ?_
      exact ih (j2 + 1) _ _ _ ⟨(by omega), (by rw [← i2]; symm; exact BHD_go ⟨by omega, by first | exact Or.inl c18 | exact Or.inr c29⟩), hW, (lv_sub hl [0, 1, 2] rfl)⟩ (by omega)
    · refine lv_aload_n hx hb dX7_endOfRun_21 rfl (lv_at hl 1 rfl) ?_
      refine lv_iload_n hx hb dX7_endOfRun_22 rfl (lv_at hl 0 rfl) ?_
      refine z_callV (As := [.int (iI j2)]) (rest := []) F (c_X6_byteAt  h q v a j2  (show -2147483648 ≤ j2 ∧ j2 < 2147483648 by omega) (show 0 ≤ (v 1) ∧ (v 1) ≤ 640 by omega)) gX7_endOfRun_X6_byteAt rfl ziX6_byteAt ⟨rfl, rfl, by decide, by decide⟩ rfl hl.1 rfl (Nat.le_of_ble_eq_true rfl) dX7_endOfRun_23 ⟨Nat.zero_le _, Nat.zero_le _⟩ hW hA [0, 1] rfl (by decide) (fun _ => rfl) (fun _ => tW cI cJ h q v a) (fun _ => rfl) (fun _ => [.int (iI (if 0 ≤ j2 ∧ j2 < (v 1) then (a 0) j2 else -1))]) (fun _ => rfl) 0 rfl rfl rfl (fun _ H locs hp23 hW => ?_)
      rw [if_pos (show 0 ≤ j2 ∧ j2 < v 1 by omega)]
      have hj := hT j2 (by omega) (by omega)
      refine z_callS (As := [.int (iI (a 0 j2))]) (rest := []) F (c_X7_isDigit   (a 0 j2)  (show -2147483648 ≤ (a 0 j2) ∧ (a 0 j2) < 2147483648 by omega)) gX7_endOfRun_X7_isDigit rfl ziX7_isDigit ⟨rfl, rfl, by decide, by decide⟩ rfl hl.1 rfl (Nat.le_of_ble_eq_true rfl) dX7_endOfRun_26 ⟨Nat.zero_le _, Nat.zero_le _⟩ hW hA [] rfl (by decide) (fun _ => rfl) (fun _ => tW cI cJ h q v a) (fun _ => rfl) (fun _ => [.int (iI (bI (isDg (a 0 j2))))]) (fun _ => rfl) (fun _ H locs hp26 hW => ?_)
      refine z_b_eq (tgt := 38) hx hb dX7_endOfRun_29 (by decide) (fun c29 => ?_) (fun c29 => ?_)
      · refine lv_iload_n hx hb dX7_endOfRun_38 rfl (lv_at hl 0 rfl) ?_
        exact z_iret hx hb hr hlk hW () (by rw [← i2]; exact BHD_end (fun q9 => by first | exact absurd q9.1 (by omega) | exact q9.2.elim c18 c29)) trivial rfl dX7_endOfRun_39
      · refine z_iinc (k := 0) (lv' := [(2, .int (iI (j2 + 1))), (0, .ref h), (1, .int (iI y))]) hx hb dX7_endOfRun_32 hl rfl (by decide) rfl (fun ls hl => ?_)
        refine lv_goto (tgt := 2) hx hb dX7_endOfRun_35 (by decide) ?_
        exact ih (j2 + 1) _ _ _ ⟨(by omega), (by rw [← i2]; symm; exact BHD_go ⟨by omega, by first | exact Or.inl c18 | exact Or.inr c29⟩), hW, (lv_sub hl [0, 1, 2] rfl)⟩ (by omega)
theorem hiX7_add_X7 : ∀ w ∈ wsX70, w ∈ wsX7_add := fun _ h => List.mem_cons_of_mem _ (List.mem_append_right _ h)
theorem ziX7_add : yX7_add.cls = RX7 ∧ yX7_add.cls ≠ "java/lang/invoke/MethodHandle" ∧ yX7_add.cls ≠ "java/lang/invoke/VarHandle" ∧ (parseMethodDescriptor yX7_add.desc).map (fun d => d.parameters.length) = some 3 := by decide +kernel
set_option maxHeartbeats 4000000 in
set_option maxRecDepth 100000 in
theorem c_X7_add {l : Launch} {G : va_G} {cI cJ cO : ClassId}  (h : Nat) (q : Nat → Nat) (v : Nat → Int) (a : Nat → Int → Int) (x y z : Int)  (h1 : 0 ≤ v 3 ∧ v 3 ≤ 600) : zC l yX7_add wsX7_add { frames := 0, cells := 0, slots := 0, locals := 0 } G (tyZ cI cJ cO) (S := Unit) [.ref h, .int (iI x), .int (iI y), .int (iI z)] (sW cI cJ h q v a) (zN) (fun _ => True) (fun _ => sW cI cJ h q (uV v 3 (v 3 + 1)) (uA (uA (uA a 0 (uI (a 0) (v 3) x)) 1 (uI (a 1) (v 3) y)) 2 (uI (a 2) (v 3) z))) 0 0 := by
  refine z_start (cc := cX7_add) (maxL := 4) (ret := none) (by decide) rfl (Nat.le_of_ble_eq_true rfl) ?_
  intro p e s m below meth c A ls F hr hlk hnm hAe hA hW hl
  have hx := F.1
  have hb := F.2.1
  have hown : s.vm.findClass RX7 = some m.cls := F.2.2.2.1
  have hts := F.2.2.2.2
  have hl : lv_has ls 4 [(0, .ref h), (1, .int (iI x)), (2, .int (iI y)), (3, .int (iI z))] := hl
  refine lv_aload_n hx hb dX7_add_0 rfl (lv_at hl 0 rfl) ?_
  refine z_get (v := .int (iI (v 3))) hx hb hts hiX7_add_X7 hown hW 0 3 1 rfl rfl rfl (by decide) rfl dX7_add_1 ?_
  refine lv_aload_n hx hb dX7_add_4 rfl (lv_at hl 0 rfl) ?_
  refine z_get (v := .ref (q 0)) hx hb hts hiX7_add_X7 hown hW 0 0 2 rfl rfl rfl (by decide) rfl dX7_add_5 ?_
  refine z_alen hx hb hW 1 0 rfl rfl dX7_add_8 ?_
  refine W.eq (g2 := F0 m 9 ls [.int (iI 601), .int (iI (v 3))]) rfl ?_
  refine z_icmp_ge (tgt := 76) hx hb dX7_add_9 (by decide) ⟨by omega, by omega⟩ (by decide) (fun c9 => ?_) (fun c9 => ?_)
  · exfalso; omega
  · refine lv_aload_n hx hb dX7_add_12 rfl (lv_at hl 0 rfl) ?_
    refine z_get (v := .int (iI (v 3))) hx hb hts hiX7_add_X7 hown hW 0 3 1 rfl rfl rfl (by decide) rfl dX7_add_13 ?_
    refine lv_aload_n hx hb dX7_add_16 rfl (lv_at hl 0 rfl) ?_
    refine z_get (v := .ref (q 1)) hx hb hts hiX7_add_X7 hown hW 0 1 3 rfl rfl rfl (by decide) rfl dX7_add_17 ?_
    refine z_alen hx hb hW 2 0 rfl rfl dX7_add_20 ?_
    refine W.eq (g2 := F0 m 21 ls [.int (iI 601), .int (iI (v 3))]) rfl ?_
    refine z_icmp_ge (tgt := 76) hx hb dX7_add_21 (by decide) ⟨by omega, by omega⟩ (by decide) (fun c21 => ?_) (fun c21 => ?_)
    · exfalso; omega
    · refine lv_aload_n hx hb dX7_add_24 rfl (lv_at hl 0 rfl) ?_
      refine z_get (v := .int (iI (v 3))) hx hb hts hiX7_add_X7 hown hW 0 3 1 rfl rfl rfl (by decide) rfl dX7_add_25 ?_
      refine lv_aload_n hx hb dX7_add_28 rfl (lv_at hl 0 rfl) ?_
      refine z_get (v := .ref (q 2)) hx hb hts hiX7_add_X7 hown hW 0 2 4 rfl rfl rfl (by decide) rfl dX7_add_29 ?_
      refine z_alen hx hb hW 3 0 rfl rfl dX7_add_32 ?_
      refine W.eq (g2 := F0 m 33 ls [.int (iI 601), .int (iI (v 3))]) rfl ?_
      refine z_icmp_ge (tgt := 76) hx hb dX7_add_33 (by decide) ⟨by omega, by omega⟩ (by decide) (fun c33 => ?_) (fun c33 => ?_)
      · exfalso; omega
      · refine lv_aload_n hx hb dX7_add_36 rfl (lv_at hl 0 rfl) ?_
        refine z_get (v := .ref (q 0)) hx hb hts hiX7_add_X7 hown hW 0 0 2 rfl rfl rfl (by decide) rfl dX7_add_37 ?_
        refine lv_aload_n hx hb dX7_add_40 rfl (lv_at hl 0 rfl) ?_
        refine z_get (v := .int (iI (v 3))) hx hb hts hiX7_add_X7 hown hW 0 3 1 rfl rfl rfl (by decide) rfl dX7_add_41 ?_
        refine lv_iload_n hx hb dX7_add_44 rfl (lv_at hl 1 rfl) ?_
        refine z_iast (f := a 0) (i := v 3) (z := x) hx hb hW 1 0 rfl rfl (by decide) ⟨by omega, by omega⟩ dX7_add_45 (fun H locs hW => ?_)
        have hW : zW G (tyZ cI cJ cO) A s (sW cI cJ h q v (uA a 0 (uI (a 0) (v 3) x))) H locs := hW
        refine lv_aload_n hx hb dX7_add_46 rfl (lv_at hl 0 rfl) ?_
        refine z_get (v := .ref (q 1)) hx hb hts hiX7_add_X7 hown hW 0 1 3 rfl rfl rfl (by decide) rfl dX7_add_47 ?_
        refine lv_aload_n hx hb dX7_add_50 rfl (lv_at hl 0 rfl) ?_
        refine z_get (v := .int (iI (v 3))) hx hb hts hiX7_add_X7 hown hW 0 3 1 rfl rfl rfl (by decide) rfl dX7_add_51 ?_
        refine lv_iload_n hx hb dX7_add_54 rfl (lv_at hl 2 rfl) ?_
        refine z_iast (f := a 1) (i := v 3) (z := y) hx hb hW 2 0 rfl rfl (by decide) ⟨by omega, by omega⟩ dX7_add_55 (fun H locs hW => ?_)
        have hW : zW G (tyZ cI cJ cO) A s (sW cI cJ h q v (uA (uA a 0 (uI (a 0) (v 3) x)) 1 (uI (a 1) (v 3) y))) H locs := hW
        refine lv_aload_n hx hb dX7_add_56 rfl (lv_at hl 0 rfl) ?_
        refine z_get (v := .ref (q 2)) hx hb hts hiX7_add_X7 hown hW 0 2 4 rfl rfl rfl (by decide) rfl dX7_add_57 ?_
        refine lv_aload_n hx hb dX7_add_60 rfl (lv_at hl 0 rfl) ?_
        refine z_get (v := .int (iI (v 3))) hx hb hts hiX7_add_X7 hown hW 0 3 1 rfl rfl rfl (by decide) rfl dX7_add_61 ?_
        refine lv_iload_n hx hb dX7_add_64 rfl (lv_at hl 3 rfl) ?_
        refine z_iast (f := a 2) (i := v 3) (z := z) hx hb hW 3 0 rfl rfl (by decide) ⟨by omega, by omega⟩ dX7_add_65 (fun H locs hW => ?_)
        have hW : zW G (tyZ cI cJ cO) A s (sW cI cJ h q v (uA (uA (uA a 0 (uI (a 0) (v 3) x)) 1 (uI (a 1) (v 3) y)) 2 (uI (a 2) (v 3) z))) H locs := hW
        refine lv_aload_n hx hb dX7_add_66 rfl (lv_at hl 0 rfl) ?_
        refine lv_dup hx hb dX7_add_67 rfl ?_
        refine z_get (v := .int (iI (v 3))) hx hb hts hiX7_add_X7 hown hW 0 3 1 rfl rfl rfl (by decide) rfl dX7_add_68 ?_
        refine z_iconst (n := 1) hx hb dX7_add_71 ?_
        refine z_iadd hx hb dX7_add_72 ?_
        refine z_put hx hb hts hiX7_add_X7 tyX7 tyX7_ok nmX7 hown hW 0 3 1 rfl rfl (by decide) (Nat.le_of_ble_eq_true rfl) rfl rfl rfl rfl dX7_add_73 (fun H locs hW => ?_)
        have hW : zW G (tyZ cI cJ cO) A s (sW cI cJ h q (uV v 3 ((v 3) + 1)) (uA (uA (uA a 0 (uI (a 0) (v 3) x)) 1 (uI (a 1) (v 3) y)) 2 (uI (a 2) (v 3) z))) H locs := hW
        exact z_vret hx hb hr hlk hW () trivial rfl dX7_add_76
