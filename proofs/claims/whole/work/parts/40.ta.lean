/-! the text: signs, runs -/
abbrev isLt (z : Int) : Prop := 97 ≤ z ∧ z ≤ 122
abbrev isDg (z : Int) : Prop := 48 ≤ z ∧ z ≤ 57
/-- behind the run from y on, n steps at most -/
def RUN (T : Int → Int) (z y : Int) : Nat → Int
  | 0 => y
  | n + 1 => if y < z ∧ (isLt (T y) ∨ isDg (T y)) then RUN T z (y + 1) n else y
/-- behind the run that is at y -/
def BHD (T : Int → Int) (z y : Int) : Int := RUN T z y (z - y).toNat
theorem BHD_go {T : Int → Int} {z y : Int} (h : y < z ∧ (isLt (T y) ∨ isDg (T y))) : BHD T z y = BHD T z (y + 1) := by
  unfold BHD
  rw [show (z - y).toNat = (z - (y + 1)).toNat + 1 by omega]
  exact if_pos h
theorem BHD_end {T : Int → Int} {z y : Int} (h : ¬ (y < z ∧ (isLt (T y) ∨ isDg (T y)))) : BHD T z y = y := by
  unfold BHD
  cases (z - y).toNat with
  | zero => rfl
  | succ n => exact if_neg h
theorem RUN_R {T : Int → Int} {z : Int} : ∀ (n : Nat) (y : Int), y ≤ RUN T z y n ∧ (RUN T z y n ≤ z ∨ RUN T z y n = y) := by
  intro n
  induction n with
  | zero => intro y; exact ⟨Int.le_refl _, Or.inr rfl⟩
  | succ n ih =>
    intro y
    show y ≤ (if y < z ∧ (isLt (T y) ∨ isDg (T y)) then RUN T z (y + 1) n else y) ∧ ((if y < z ∧ (isLt (T y) ∨ isDg (T y)) then RUN T z (y + 1) n else y) ≤ z ∨ (if y < z ∧ (isLt (T y) ∨ isDg (T y)) then RUN T z (y + 1) n else y) = y)
    have t := ih (y + 1)
    split <;> omega
theorem BHD_R {T : Int → Int} {z y : Int} : y ≤ BHD T z y ∧ (BHD T z y ≤ z ∨ BHD T z y = y) := RUN_R _ _
theorem ziX7_isBlank : yX7_isBlank.cls = RX7 ∧ yX7_isBlank.cls ≠ "java/lang/invoke/MethodHandle" ∧ yX7_isBlank.cls ≠ "java/lang/invoke/VarHandle" ∧ (parseMethodDescriptor yX7_isBlank.desc).map (fun d => d.parameters.length) = some 1 := by decide +kernel
set_option maxHeartbeats 4000000 in
set_option maxRecDepth 100000 in
theorem c_X7_isBlank {l : Launch} {G : va_G} {cI cJ cO : ClassId}   (z : Int)  (h1 : -2147483648 ≤ z ∧ z < 2147483648) : zC l yX7_isBlank wsX7_isBlank { frames := 0, cells := 0, slots := 0, locals := 0 } G (tyZ cI cJ cO) (S := Unit) [.int (iI z)] ([]) (zI (fun _ => bI (z = 32 ∨ z = 10))) (fun _ => True) (fun _ => []) 0 0 := by
  refine z_start (cc := cX7_isBlank) (maxL := 1) (ret := (some .boolean)) (by decide) rfl (Nat.le_of_ble_eq_true rfl) ?_
  intro p e s m below meth c A ls F hr hlk hnm hAe hA hW hl
  have hx := F.1
  have hb := F.2.1
  have hown : s.vm.findClass RX7 = some m.cls := F.2.2.2.1
  have hts := F.2.2.2.2
  have hl : lv_has ls 1 [(0, .int (iI z))] := hl
  refine lv_iload_n hx hb dX7_isBlank_0 rfl (lv_at hl 0 rfl) ?_
  refine z_bipush hx hb dX7_isBlank_1 (by decide +kernel) ?_
  refine z_icmp_eq (tgt := 12) hx hb dX7_isBlank_3 (by decide) ⟨by omega, by omega⟩ (by decide) (fun c3 => ?_) (fun c3 => ?_)
  · refine z_iconst (n := 1) hx hb dX7_isBlank_12 ?_
    refine lv_goto (tgt := 17) hx hb dX7_isBlank_13 (by decide) ?_
    exact z_zret hx hb hr hlk (by first | exact Or.inl rfl | exact Or.inr rfl | omega) hW () (by first | exact bI_t (by omega) | exact bI_f (by omega)) trivial rfl dX7_isBlank_17
  · refine lv_iload_n hx hb dX7_isBlank_6 rfl (lv_at hl 0 rfl) ?_
    refine z_bipush hx hb dX7_isBlank_7 (by decide +kernel) ?_
    refine z_icmp_ne (tgt := 16) hx hb dX7_isBlank_9 (by decide) ⟨by omega, by omega⟩ (by decide) (fun c9 => ?_) (fun c9 => ?_)
    · refine z_iconst (n := 0) hx hb dX7_isBlank_16 ?_
      exact z_zret hx hb hr hlk (by first | exact Or.inl rfl | exact Or.inr rfl | omega) hW () (by first | exact bI_t (by omega) | exact bI_f (by omega)) trivial rfl dX7_isBlank_17
    · refine z_iconst (n := 1) hx hb dX7_isBlank_12 ?_
      refine lv_goto (tgt := 17) hx hb dX7_isBlank_13 (by decide) ?_
      exact z_zret hx hb hr hlk (by first | exact Or.inl rfl | exact Or.inr rfl | omega) hW () (by first | exact bI_t (by omega) | exact bI_f (by omega)) trivial rfl dX7_isBlank_17
theorem ziX7_isLetter : yX7_isLetter.cls = RX7 ∧ yX7_isLetter.cls ≠ "java/lang/invoke/MethodHandle" ∧ yX7_isLetter.cls ≠ "java/lang/invoke/VarHandle" ∧ (parseMethodDescriptor yX7_isLetter.desc).map (fun d => d.parameters.length) = some 1 := by decide +kernel
set_option maxHeartbeats 4000000 in
set_option maxRecDepth 100000 in
theorem c_X7_isLetter {l : Launch} {G : va_G} {cI cJ cO : ClassId}   (z : Int)  (h1 : -2147483648 ≤ z ∧ z < 2147483648) : zC l yX7_isLetter wsX7_isLetter { frames := 0, cells := 0, slots := 0, locals := 0 } G (tyZ cI cJ cO) (S := Unit) [.int (iI z)] ([]) (zI (fun _ => bI (isLt z))) (fun _ => True) (fun _ => []) 0 0 := by
  refine z_start (cc := cX7_isLetter) (maxL := 1) (ret := (some .boolean)) (by decide) rfl (Nat.le_of_ble_eq_true rfl) ?_
  intro p e s m below meth c A ls F hr hlk hnm hAe hA hW hl
  have hx := F.1
  have hb := F.2.1
  have hown : s.vm.findClass RX7 = some m.cls := F.2.2.2.1
  have hts := F.2.2.2.2
  have hl : lv_has ls 1 [(0, .int (iI z))] := hl
  refine lv_iload_n hx hb dX7_isLetter_0 rfl (lv_at hl 0 rfl) ?_
  refine z_bipush hx hb dX7_isLetter_1 (by decide +kernel) ?_
  refine z_icmp_lt (tgt := 16) hx hb dX7_isLetter_3 (by decide) ⟨by omega, by omega⟩ (by decide) (fun c3 => ?_) (fun c3 => ?_)
  · refine z_iconst (n := 0) hx hb dX7_isLetter_16 ?_
    exact z_zret hx hb hr hlk (by first | exact Or.inl rfl | exact Or.inr rfl | omega) hW () (by first | exact bI_t (by omega) | exact bI_f (by omega)) trivial rfl dX7_isLetter_17
  · refine lv_iload_n hx hb dX7_isLetter_6 rfl (lv_at hl 0 rfl) ?_
    refine z_bipush hx hb dX7_isLetter_7 (by decide +kernel) ?_
    refine z_icmp_gt (tgt := 16) hx hb dX7_isLetter_9 (by decide) ⟨by omega, by omega⟩ (by decide) (fun c9 => ?_) (fun c9 => ?_)
    · refine z_iconst (n := 0) hx hb dX7_isLetter_16 ?_
      exact z_zret hx hb hr hlk (by first | exact Or.inl rfl | exact Or.inr rfl | omega) hW () (by first | exact bI_t (by omega) | exact bI_f (by omega)) trivial rfl dX7_isLetter_17
    · refine z_iconst (n := 1) hx hb dX7_isLetter_12 ?_
      refine lv_goto (tgt := 17) hx hb dX7_isLetter_13 (by decide) ?_
      exact z_zret hx hb hr hlk (by first | exact Or.inl rfl | exact Or.inr rfl | omega) hW () (by first | exact bI_t (by omega) | exact bI_f (by omega)) trivial rfl dX7_isLetter_17
theorem ziX7_isDigit : yX7_isDigit.cls = RX7 ∧ yX7_isDigit.cls ≠ "java/lang/invoke/MethodHandle" ∧ yX7_isDigit.cls ≠ "java/lang/invoke/VarHandle" ∧ (parseMethodDescriptor yX7_isDigit.desc).map (fun d => d.parameters.length) = some 1 := by decide +kernel
set_option maxHeartbeats 4000000 in
set_option maxRecDepth 100000 in
theorem c_X7_isDigit {l : Launch} {G : va_G} {cI cJ cO : ClassId}   (z : Int)  (h1 : -2147483648 ≤ z ∧ z < 2147483648) : zC l yX7_isDigit wsX7_isDigit { frames := 0, cells := 0, slots := 0, locals := 0 } G (tyZ cI cJ cO) (S := Unit) [.int (iI z)] ([]) (zI (fun _ => bI (isDg z))) (fun _ => True) (fun _ => []) 0 0 := by
  refine z_start (cc := cX7_isDigit) (maxL := 1) (ret := (some .boolean)) (by decide) rfl (Nat.le_of_ble_eq_true rfl) ?_
  intro p e s m below meth c A ls F hr hlk hnm hAe hA hW hl
  have hx := F.1
  have hb := F.2.1
  have hown : s.vm.findClass RX7 = some m.cls := F.2.2.2.1
  have hts := F.2.2.2.2
  have hl : lv_has ls 1 [(0, .int (iI z))] := hl
  refine lv_iload_n hx hb dX7_isDigit_0 rfl (lv_at hl 0 rfl) ?_
  refine z_bipush hx hb dX7_isDigit_1 (by decide +kernel) ?_
  refine z_icmp_lt (tgt := 16) hx hb dX7_isDigit_3 (by decide) ⟨by omega, by omega⟩ (by decide) (fun c3 => ?_) (fun c3 => ?_)
  · refine z_iconst (n := 0) hx hb dX7_isDigit_16 ?_
    exact z_zret hx hb hr hlk (by first | exact Or.inl rfl | exact Or.inr rfl | omega) hW () (by first | exact bI_t (by omega) | exact bI_f (by omega)) trivial rfl dX7_isDigit_17
  · refine lv_iload_n hx hb dX7_isDigit_6 rfl (lv_at hl 0 rfl) ?_
    refine z_bipush hx hb dX7_isDigit_7 (by decide +kernel) ?_
    refine z_icmp_gt (tgt := 16) hx hb dX7_isDigit_9 (by decide) ⟨by omega, by omega⟩ (by decide) (fun c9 => ?_) (fun c9 => ?_)
    · refine z_iconst (n := 0) hx hb dX7_isDigit_16 ?_
      exact z_zret hx hb hr hlk (by first | exact Or.inl rfl | exact Or.inr rfl | omega) hW () (by first | exact bI_t (by omega) | exact bI_f (by omega)) trivial rfl dX7_isDigit_17
    · refine z_iconst (n := 1) hx hb dX7_isDigit_12 ?_
      refine lv_goto (tgt := 17) hx hb dX7_isDigit_13 (by decide) ?_
      exact z_zret hx hb hr hlk (by first | exact Or.inl rfl | exact Or.inr rfl | omega) hW () (by first | exact bI_t (by omega) | exact bI_f (by omega)) trivial rfl dX7_isDigit_17
