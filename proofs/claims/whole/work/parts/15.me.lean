/-! the model: what is asked -/
abbrev isL (N : Int → Int) (x : Int) : Prop := 0 ≤ x ∧ x ≤ N 2 - 1
abbrev isO (N : Int → Int) (x y : Int) : Prop := (0 ≤ x ∧ x ≤ N 2 - 1) ∧ LF N x 0 ≤ y ∧ y < LF N x 0 + LF N x 1
def A_index (N : Int → Int) (y k : Int) : Int := if 0 ≤ k ∧ k ≤ 239 then IDX N y k else -1
def A_rent (N : Int → Int) (x y k : Int) : Int := if isO N x y ∧ (0 ≤ k ∧ k ≤ 239) then RNTm N x k y else -1
def A_review (N : Int → Int) (x r k w : Int) : Int :=
  if (0 ≤ x ∧ x ≤ N 2 - 1) ∧ (1 ≤ r ∧ r ≤ REV N x) ∧ (0 ≤ k ∧ k ≤ 239) ∧ (0 ≤ w ∧ w ≤ 4) then
    (if w = 0 then LF N x 0 + r * LF N x 3 else if w = 1 then WNT N x k (RNT N x k (r - 1).toNat) r else if w = 2 then RNT N x k r.toNat else if zand (LF N x 7) 4 ≠ 0 then (if w = 3 then LST N x r.toNat else MST N x r.toNat) else -1)
  else -100000000
def A_billed (N : Int → Int) (x y : Int) : Int := if isO N x y ∧ y < END N x y then DUE N x y y else -1
def A_trued (N : Int → Int) (x k : Int) : Int := if (0 ≤ x ∧ x ≤ N 2 - 1) ∧ (1 ≤ k ∧ k ≤ 239) then TRUED N x k else -100000000
def A_inted (N : Int → Int) (x k : Int) : Int := if (0 ≤ x ∧ x ≤ N 2 - 1) ∧ (1 ≤ k ∧ k ≤ 239) then INTED N x k else -100000000
def A_spread (N : Int → Int) (x y : Int) : Int := if isO N x y then SPR N x y else -100000000
/-- the first month that ahead() leaves out -/
def AHE (N : Int → Int) (x y : Int) : Int := if END N x y ≤ y then END N x y else y + 1
def A_ahead (N : Int → Int) (x y : Int) : Int := if isO N x y then SUM (fun m => SPR N x m - DUE N x y m) (LF N x 0) (AHE N x y - LF N x 0).toNat else -100000000
def A_lease (N : Int → Int) (x w : Int) : Int := if w < 6 then LF N x w else if w = 6 then END N x (N 0) else REV N x
theorem TRI_eq {N : Int → Int} {x k z i : Int} {n : Nat} : SUM (fun j => if z = 0 then TRU N x k j else INTR N x k j) i n = if z = 0 then SUM (TRU N x k) i n else SUM (INTR N x k) i n := by
  by_cases hz : z = 0
  · simp only [hz, if_true]
  · simp only [hz, if_false]
theorem SUM_succ {f : Int → Int} {i j : Int} (h : i ≤ j) : SUM f i (j + 1 - i).toNat = SUM f i (j - i).toNat + f j := by
  rw [show (j + 1 - i).toNat = (j - i).toNat + 1 by omega]
  show SUM f i (j - i).toNat + f (i + ((j - i).toNat : Int)) = _
  rw [show i + ((j - i).toNat : Int) = j by omega]
theorem hiX11_isOf_X11 : ∀ w ∈ wsX110, w ∈ wsX11_isOf := fun _ h => List.mem_cons_of_mem _ (List.mem_append_right _ h)
theorem ziX11_isOf : yX11_isOf.cls = RX11 ∧ yX11_isOf.cls ≠ "java/lang/invoke/MethodHandle" ∧ yX11_isOf.cls ≠ "java/lang/invoke/VarHandle" ∧ (parseMethodDescriptor yX11_isOf.desc).map (fun d => d.parameters.length) = some 2 := by decide +kernel
set_option maxHeartbeats 4000000 in
set_option maxRecDepth 100000 in
theorem c_isOf {l : Launch} {G : va_G} {cI cJ cO : ClassId} (h : Nat) (q : Nat → Nat) (v : Nat → Int) (a : Nat → Int → Int) (x y : Int)  (h1 : -2147483648 ≤ x ∧ x < 2147483648) (h2 : -2147483648 ≤ y ∧ y < 2147483648) (hWF : WF (a 11)) : zC l yX11_isOf wsX11_isOf { frames := 2, cells := 0, slots := 0, locals := 43 } G (tyZ cI cJ cO) (S := Unit) [.ref h, .int (iI x), .int (iI y)] (mW cI cJ h q v a) (zI (fun _ => bI (isO (a 11) x y))) (fun _ => True) (fun _ => mW cI cJ h q v a) 0 0 := by
  refine z_start (cc := cX11_isOf) (maxL := 3) (ret := (some .boolean)) (by decide) rfl (Nat.le_of_ble_eq_true rfl) ?_
  intro p e s m below meth c A ls F hr hlk hnm hAe hA hW hl
  have hx := F.1
  have hb := F.2.1
  have hown : s.vm.findClass RX11 = some m.cls := F.2.2.2.1
  have hts := F.2.2.2.2
  have hl : lv_has ls 3 [(0, .ref h), (1, .int (iI x)), (2, .int (iI y))] := hl
  obtain ⟨w0, w1, w2, hV, hls⟩ := id hWF
  refine lv_aload_n hx hb dX11_isOf_0 rfl (lv_at hl 0 rfl) ?_
  refine lv_iload_n hx hb dX11_isOf_1 rfl (lv_at hl 1 rfl) ?_
  refine z_callV (As := [.int (iI x)]) (rest := []) F (c_isLease h q v a x  (show -2147483648 ≤ x ∧ x < 2147483648 by omega) (show 0 ≤ (a 11) 2 ∧ (a 11) 2 ≤ 6 by omega)) gX11_isOf_X11_isLease rfl ziX11_isLease ⟨rfl, rfl, by decide, by decide⟩ rfl hl.1 rfl (Nat.le_of_ble_eq_true rfl) dX11_isOf_2 ⟨Nat.zero_le _, Nat.zero_le _⟩ hW hA [0, 1, 2, 3, 4, 5, 6, 7, 8, 9, 10] rfl (by decide) (fun _ => rfl) (fun _ => mW cI cJ h q v a) (fun _ => rfl) (fun _ => [.int (iI (bI (0 ≤ x ∧ x ≤ (a 11) 2 - 1)))]) (fun _ => rfl) 0 rfl rfl rfl (fun _ H locs hp2 hW => ?_)
  refine z_b_eq (tgt := 31) hx hb dX11_isOf_5 (by decide) (fun c5 => ?_) (fun c5 => ?_)
  · refine z_iconst (n := 0) hx hb dX11_isOf_31 ?_
    exact z_zret hx hb hr hlk (by first | exact Or.inl rfl | exact Or.inr rfl | omega) hW () (by first | exact bI_t ⟨by omega, by omega, by omega⟩ | exact bI_f (fun hq => by obtain ⟨q1, q2, q3⟩ := hq; omega)) trivial rfl dX11_isOf_32
  · obtain ⟨hL, hT⟩ := hls x (by omega) (by omega)
    obtain ⟨l0, l1, l2, l3, l4, l5, l6, l7, l8, l9, l10, l11, l12, l13, l14, l15⟩ := id hL
    refine lv_iload_n hx hb dX11_isOf_8 rfl (lv_at hl 2 rfl) ?_
    refine lv_aload_n hx hb dX11_isOf_9 rfl (lv_at hl 0 rfl) ?_
    refine lv_iload_n hx hb dX11_isOf_10 rfl (lv_at hl 1 rfl) ?_
    refine z_iconst (n := 0) hx hb dX11_isOf_11 ?_
    refine z_callV (As := [.int (iI x), .int (iI 0)]) (rest := [.int (iI y)]) F (c_its h q v a x 0  (show 0 ≤ 483 + 500 * x + 0 ∧ 483 + 500 * x + 0 < 3483 by omega)) gX11_isOf_X11_its rfl ziX11_its ⟨rfl, rfl, by decide, by decide⟩ rfl hl.1 rfl (Nat.le_of_ble_eq_true rfl) dX11_isOf_12 ⟨Nat.zero_le _, Nat.zero_le _⟩ hW hA [0, 1, 2, 3, 4, 5, 6, 7, 8, 9, 10] rfl (by decide) (fun _ => rfl) (fun _ => mW cI cJ h q v a) (fun _ => rfl) (fun _ => [.int (iI (LF ((a 11)) x 0)), .int (iI y)]) (fun _ => rfl) 0 rfl rfl rfl (fun _ H locs hp12 hW => ?_)
    refine z_icmp_lt (tgt := 31) hx hb dX11_isOf_15 (by decide) ⟨by omega, by omega⟩ ⟨by omega, by omega⟩ (fun c15 => ?_) (fun c15 => ?_)
    · refine z_iconst (n := 0) hx hb dX11_isOf_31 ?_
      exact z_zret hx hb hr hlk (by first | exact Or.inl rfl | exact Or.inr rfl | omega) hW () (by first | exact bI_t ⟨by omega, by omega, by omega⟩ | exact bI_f (fun hq => by obtain ⟨q1, q2, q3⟩ := hq; omega)) trivial rfl dX11_isOf_32
    · refine lv_iload_n hx hb dX11_isOf_18 rfl (lv_at hl 2 rfl) ?_
      refine lv_aload_n hx hb dX11_isOf_19 rfl (lv_at hl 0 rfl) ?_
      refine lv_iload_n hx hb dX11_isOf_20 rfl (lv_at hl 1 rfl) ?_
      refine z_callV (As := [.int (iI x)]) (rest := [.int (iI y)]) F (c_endAsTold h q v a x  (show 0 ≤ x ∧ x < 6 by omega)) gX11_isOf_X11_endAsTold rfl ziX11_endAsTold ⟨rfl, rfl, by decide, by decide⟩ rfl hl.1 rfl (Nat.le_of_ble_eq_true rfl) dX11_isOf_21 ⟨Nat.zero_le _, Nat.zero_le _⟩ hW hA [0, 1, 2, 3, 4, 5, 6, 7, 8, 9, 10] rfl (by decide) (fun _ => rfl) (fun _ => mW cI cJ h q v a) (fun _ => rfl) (fun _ => [.int (iI (LF ((a 11)) x 0 + LF ((a 11)) x 1)), .int (iI y)]) (fun _ => rfl) 0 rfl rfl rfl (fun _ H locs hp21 hW => ?_)
      refine z_icmp_ge (tgt := 31) hx hb dX11_isOf_24 (by decide) ⟨by omega, by omega⟩ ⟨by omega, by omega⟩ (fun c24 => ?_) (fun c24 => ?_)
      · refine z_iconst (n := 0) hx hb dX11_isOf_31 ?_
        exact z_zret hx hb hr hlk (by first | exact Or.inl rfl | exact Or.inr rfl | omega) hW () (by first | exact bI_t ⟨by omega, by omega, by omega⟩ | exact bI_f (fun hq => by obtain ⟨q1, q2, q3⟩ := hq; omega)) trivial rfl dX11_isOf_32
      · refine z_iconst (n := 1) hx hb dX11_isOf_27 ?_
        refine lv_goto (tgt := 32) hx hb dX11_isOf_28 (by decide) ?_
        exact z_zret hx hb hr hlk (by first | exact Or.inl rfl | exact Or.inr rfl | omega) hW () (by first | exact bI_t ⟨by omega, by omega, by omega⟩ | exact bI_f (fun hq => by obtain ⟨q1, q2, q3⟩ := hq; omega)) trivial rfl dX11_isOf_32
theorem hiX11_thrown_X11 : ∀ w ∈ wsX110, w ∈ wsX11_thrown := fun _ h => List.mem_cons_of_mem _ (List.mem_append_right _ h)
theorem ziX11_thrown : yX11_thrown.cls = RX11 ∧ yX11_thrown.cls ≠ "java/lang/invoke/MethodHandle" ∧ yX11_thrown.cls ≠ "java/lang/invoke/VarHandle" ∧ (parseMethodDescriptor yX11_thrown.desc).map (fun d => d.parameters.length) = some 0 := by decide +kernel
set_option maxHeartbeats 4000000 in
set_option maxRecDepth 100000 in
theorem c_thrown {l : Launch} {G : va_G} {cI cJ cO : ClassId} (h : Nat) (q : Nat → Nat) (v : Nat → Int) (a : Nat → Int → Int)    : zC l yX11_thrown wsX11_thrown { frames := 0, cells := 0, slots := 0, locals := 0 } G (tyZ cI cJ cO) (S := Unit) [.ref h] (mW cI cJ h q v a) (zI (fun _ => v 0)) (fun _ => True) (fun _ => mW cI cJ h q v a) 0 0 := by
  refine z_start (cc := cX11_thrown) (maxL := 1) (ret := (some .int)) (by decide) rfl (Nat.le_of_ble_eq_true rfl) ?_
  intro p e s m below meth c A ls F hr hlk hnm hAe hA hW hl
  have hx := F.1
  have hb := F.2.1
  have hown : s.vm.findClass RX11 = some m.cls := F.2.2.2.1
  have hts := F.2.2.2.2
  have hl : lv_has ls 1 [(0, .ref h)] := hl
  refine lv_aload_n hx hb dX11_thrown_0 rfl (lv_at hl 0 rfl) ?_
  refine z_get (v := .int (iI (v 0))) hx hb hts hiX11_thrown_X11 hown hW 0 0 1 rfl rfl rfl (by decide) rfl dX11_thrown_1 ?_
  exact z_iret hx hb hr hlk hW () (by first | rfl | omega) trivial rfl dX11_thrown_4
theorem hiX11_fault_X11 : ∀ w ∈ wsX110, w ∈ wsX11_fault := fun _ h => List.mem_cons_of_mem _ (List.mem_append_right _ h)
theorem ziX11_fault : yX11_fault.cls = RX11 ∧ yX11_fault.cls ≠ "java/lang/invoke/MethodHandle" ∧ yX11_fault.cls ≠ "java/lang/invoke/VarHandle" ∧ (parseMethodDescriptor yX11_fault.desc).map (fun d => d.parameters.length) = some 0 := by decide +kernel
set_option maxHeartbeats 4000000 in
set_option maxRecDepth 100000 in
theorem c_fault {l : Launch} {G : va_G} {cI cJ cO : ClassId} (h : Nat) (q : Nat → Nat) (v : Nat → Int) (a : Nat → Int → Int)    : zC l yX11_fault wsX11_fault { frames := 0, cells := 0, slots := 0, locals := 0 } G (tyZ cI cJ cO) (S := Unit) [.ref h] (mW cI cJ h q v a) (zI (fun _ => v 8)) (fun _ => True) (fun _ => mW cI cJ h q (uV v 0 0) a) 0 0 := by
  refine z_start (cc := cX11_fault) (maxL := 1) (ret := (some .int)) (by decide) rfl (Nat.le_of_ble_eq_true rfl) ?_
  intro p e s m below meth c A ls F hr hlk hnm hAe hA hW hl
  have hx := F.1
  have hb := F.2.1
  have hown : s.vm.findClass RX11 = some m.cls := F.2.2.2.1
  have hts := F.2.2.2.2
  have hl : lv_has ls 1 [(0, .ref h)] := hl
  refine lv_aload_n hx hb dX11_fault_0 rfl (lv_at hl 0 rfl) ?_
  refine z_iconst (n := 0) hx hb dX11_fault_1 ?_
  refine z_put hx hb hts hiX11_fault_X11 tyX11 tyX11_ok nmX11 hown hW 0 0 1 rfl rfl (by decide) (Nat.le_of_ble_eq_true rfl) rfl rfl rfl rfl dX11_fault_2 (fun H locs hW => ?_)
  have hW : zW G (tyZ cI cJ cO) A s (mW cI cJ h q (uV v 0 0) a) H locs := hW
  refine lv_aload_n hx hb dX11_fault_5 rfl (lv_at hl 0 rfl) ?_
  refine z_get (v := .int (iI (v 8))) hx hb hts hiX11_fault_X11 hown hW 0 8 2 rfl rfl rfl (by decide) rfl dX11_fault_6 ?_
  exact z_iret hx hb hr hlk hW () (by first | rfl | omega) trivial rfl dX11_fault_9
theorem hiX11_now_X11 : ∀ w ∈ wsX110, w ∈ wsX11_now := fun _ h => List.mem_cons_of_mem _ (List.mem_append_right _ h)
theorem ziX11_now : yX11_now.cls = RX11 ∧ yX11_now.cls ≠ "java/lang/invoke/MethodHandle" ∧ yX11_now.cls ≠ "java/lang/invoke/VarHandle" ∧ (parseMethodDescriptor yX11_now.desc).map (fun d => d.parameters.length) = some 1 := by decide +kernel
set_option maxHeartbeats 4000000 in
set_option maxRecDepth 100000 in
theorem c_now {l : Launch} {G : va_G} {cI cJ cO : ClassId} (h : Nat) (q : Nat → Nat) (v : Nat → Int) (a : Nat → Int → Int) (w : Int)  (h1 : -2147483648 ≤ w ∧ w < 2147483648) (hWF : WF (a 11)) : zC l yX11_now wsX11_now { frames := 1, cells := 0, slots := 0, locals := 22 } G (tyZ cI cJ cO) (S := Unit) [.ref h, .int (iI w)] (mW cI cJ h q v a) (zI (fun _ => if w = 0 then a 11 0 else if w = 1 then a 11 1 else if w = 2 then a 11 2 else if w = 3 then CNTV (a 11) 240 else if w = 4 then v 14 else if w = 5 then v 2 else -1)) (fun _ => True) (fun _ => mW cI cJ h q (uV v 0 0) a) 0 0 := by
  refine z_start (cc := cX11_now) (maxL := 2) (ret := (some .int)) (by decide) rfl (Nat.le_of_ble_eq_true rfl) ?_
  intro p e s m below meth c A ls F hr hlk hnm hAe hA hW hl
  have hx := F.1
  have hb := F.2.1
  have hown : s.vm.findClass RX11 = some m.cls := F.2.2.2.1
  have hts := F.2.2.2.2
  have hl : lv_has ls 2 [(0, .ref h), (1, .int (iI w))] := hl
  obtain ⟨w0, w1, w2, hV, hls⟩ := id hWF
  refine lv_aload_n hx hb dX11_now_0 rfl (lv_at hl 0 rfl) ?_
  refine z_iconst (n := 0) hx hb dX11_now_1 ?_
  refine z_put hx hb hts hiX11_now_X11 tyX11 tyX11_ok nmX11 hown hW 0 0 1 rfl rfl (by decide) (Nat.le_of_ble_eq_true rfl) rfl rfl rfl rfl dX11_now_2 (fun H locs hW => ?_)
  have hW : zW G (tyZ cI cJ cO) A s (mW cI cJ h q (uV v 0 0) a) H locs := hW
  refine lv_iload_n hx hb dX11_now_5 rfl (lv_at hl 1 rfl) ?_
  by_cases c6_0 : w = 0
  · refine z_tabIn (z := 0) (tgt := 44) hx hb dX11_now_6 c6_0 (by decide) (by decide) (by decide) rfl (by decide) ?_
    refine lv_aload_n hx hb dX11_now_44 rfl (lv_at hl 0 rfl) ?_
    refine z_get (v := .ref (q 11)) hx hb hts hiX11_now_X11 hown hW 0 11 2 rfl rfl rfl (by decide) rfl dX11_now_45 ?_
    refine z_iconst (n := 0) hx hb dX11_now_48 ?_
    refine z_iald (f := a 11) (i := 0) hx hb hW 2 0 rfl rfl (by decide) ⟨by omega, by omega⟩ dX11_now_49 ?_
    exact z_iret hx hb hr hlk hW () (by first | rw [if_pos (by assumption)] | rw [if_neg (by assumption), if_pos (by assumption)] | rw [if_neg (by assumption), if_neg (by assumption), if_pos (by assumption)] | rw [if_neg (by assumption), if_neg (by assumption), if_neg (by assumption), if_pos (by assumption)] | rw [if_neg (by assumption), if_neg (by assumption), if_neg (by assumption), if_neg (by assumption), if_pos (by assumption)] | rw [if_neg (by assumption), if_neg (by assumption), if_neg (by assumption), if_neg (by assumption), if_neg (by assumption), if_pos (by assumption)] | rw [if_neg (by assumption), if_neg (by assumption), if_neg (by assumption), if_neg (by assumption), if_neg (by assumption), if_neg (by assumption)]) trivial rfl dX11_now_50
  by_cases c6_1 : w = 1
  · refine z_tabIn (z := 1) (tgt := 51) hx hb dX11_now_6 c6_1 (by decide) (by decide) (by decide) rfl (by decide) ?_
    refine lv_aload_n hx hb dX11_now_51 rfl (lv_at hl 0 rfl) ?_
    refine z_get (v := .ref (q 11)) hx hb hts hiX11_now_X11 hown hW 0 11 2 rfl rfl rfl (by decide) rfl dX11_now_52 ?_
    refine z_iconst (n := 1) hx hb dX11_now_55 ?_
    refine z_iald (f := a 11) (i := 1) hx hb hW 2 0 rfl rfl (by decide) ⟨by omega, by omega⟩ dX11_now_56 ?_
    exact z_iret hx hb hr hlk hW () (by first | rw [if_pos (by assumption)] | rw [if_neg (by assumption), if_pos (by assumption)] | rw [if_neg (by assumption), if_neg (by assumption), if_pos (by assumption)] | rw [if_neg (by assumption), if_neg (by assumption), if_neg (by assumption), if_pos (by assumption)] | rw [if_neg (by assumption), if_neg (by assumption), if_neg (by assumption), if_neg (by assumption), if_pos (by assumption)] | rw [if_neg (by assumption), if_neg (by assumption), if_neg (by assumption), if_neg (by assumption), if_neg (by assumption), if_pos (by assumption)] | rw [if_neg (by assumption), if_neg (by assumption), if_neg (by assumption), if_neg (by assumption), if_neg (by assumption), if_neg (by assumption)]) trivial rfl dX11_now_57
  by_cases c6_2 : w = 2
  · refine z_tabIn (z := 2) (tgt := 58) hx hb dX11_now_6 c6_2 (by decide) (by decide) (by decide) rfl (by decide) ?_
    refine lv_aload_n hx hb dX11_now_58 rfl (lv_at hl 0 rfl) ?_
    refine z_get (v := .ref (q 11)) hx hb hts hiX11_now_X11 hown hW 0 11 2 rfl rfl rfl (by decide) rfl dX11_now_59 ?_
    refine z_iconst (n := 2) hx hb dX11_now_62 ?_
    refine z_iald (f := a 11) (i := 2) hx hb hW 2 0 rfl rfl (by decide) ⟨by omega, by omega⟩ dX11_now_63 ?_
    exact z_iret hx hb hr hlk hW () (by first | rw [if_pos (by assumption)] | rw [if_neg (by assumption), if_pos (by assumption)] | rw [if_neg (by assumption), if_neg (by assumption), if_pos (by assumption)] | rw [if_neg (by assumption), if_neg (by assumption), if_neg (by assumption), if_pos (by assumption)] | rw [if_neg (by assumption), if_neg (by assumption), if_neg (by assumption), if_neg (by assumption), if_pos (by assumption)] | rw [if_neg (by assumption), if_neg (by assumption), if_neg (by assumption), if_neg (by assumption), if_neg (by assumption), if_pos (by assumption)] | rw [if_neg (by assumption), if_neg (by assumption), if_neg (by assumption), if_neg (by assumption), if_neg (by assumption), if_neg (by assumption)]) trivial rfl dX11_now_64
  by_cases c6_3 : w = 3
  · refine z_tabIn (z := 3) (tgt := 65) hx hb dX11_now_6 c6_3 (by decide) (by decide) (by decide) rfl (by decide) ?_
    refine lv_aload_n hx hb dX11_now_65 rfl (lv_at hl 0 rfl) ?_
    refine z_callV (As := []) (rest := []) F (c_valueMany h q (uV v 0 0) a   hV) gX11_now_X11_valueMany rfl ziX11_valueMany ⟨rfl, rfl, by decide, by decide⟩ rfl hl.1 rfl (Nat.le_of_ble_eq_true rfl) dX11_now_66 ⟨Nat.zero_le _, Nat.zero_le _⟩ hW hA [0, 1, 2, 3, 4, 5, 6, 7, 8, 9, 10] rfl (by decide) (fun _ => rfl) (fun _ => mW cI cJ h q (uV v 0 0) a) (fun _ => rfl) (fun _ => [.int (iI (CNTV ((a 11)) 240))]) (fun _ => rfl) 0 rfl rfl rfl (fun _ H locs hp66 hW => ?_)
    exact z_iret hx hb hr hlk hW () (by first | rw [if_pos (by assumption)] | rw [if_neg (by assumption), if_pos (by assumption)] | rw [if_neg (by assumption), if_neg (by assumption), if_pos (by assumption)] | rw [if_neg (by assumption), if_neg (by assumption), if_neg (by assumption), if_pos (by assumption)] | rw [if_neg (by assumption), if_neg (by assumption), if_neg (by assumption), if_neg (by assumption), if_pos (by assumption)] | rw [if_neg (by assumption), if_neg (by assumption), if_neg (by assumption), if_neg (by assumption), if_neg (by assumption), if_pos (by assumption)] | rw [if_neg (by assumption), if_neg (by assumption), if_neg (by assumption), if_neg (by assumption), if_neg (by assumption), if_neg (by assumption)]) trivial rfl dX11_now_69
  by_cases c6_4 : w = 4
  · refine z_tabIn (z := 4) (tgt := 70) hx hb dX11_now_6 c6_4 (by decide) (by decide) (by decide) rfl (by decide) ?_
    refine lv_aload_n hx hb dX11_now_70 rfl (lv_at hl 0 rfl) ?_
    refine z_get (v := .int (iI (v 14))) hx hb hts hiX11_now_X11 hown hW 0 14 3 rfl rfl rfl (by decide) rfl dX11_now_71 ?_
    exact z_iret hx hb hr hlk hW () (by first | rw [if_pos (by assumption)] | rw [if_neg (by assumption), if_pos (by assumption)] | rw [if_neg (by assumption), if_neg (by assumption), if_pos (by assumption)] | rw [if_neg (by assumption), if_neg (by assumption), if_neg (by assumption), if_pos (by assumption)] | rw [if_neg (by assumption), if_neg (by assumption), if_neg (by assumption), if_neg (by assumption), if_pos (by assumption)] | rw [if_neg (by assumption), if_neg (by assumption), if_neg (by assumption), if_neg (by assumption), if_neg (by assumption), if_pos (by assumption)] | rw [if_neg (by assumption), if_neg (by assumption), if_neg (by assumption), if_neg (by assumption), if_neg (by assumption), if_neg (by assumption)]) trivial rfl dX11_now_74
  by_cases c6_5 : w = 5
  · refine z_tabIn (z := 5) (tgt := 75) hx hb dX11_now_6 c6_5 (by decide) (by decide) (by decide) rfl (by decide) ?_
    refine lv_aload_n hx hb dX11_now_75 rfl (lv_at hl 0 rfl) ?_
    refine z_get (v := .int (iI (v 2))) hx hb hts hiX11_now_X11 hown hW 0 2 4 rfl rfl rfl (by decide) rfl dX11_now_76 ?_
    exact z_iret hx hb hr hlk hW () (by first | rw [if_pos (by assumption)] | rw [if_neg (by assumption), if_pos (by assumption)] | rw [if_neg (by assumption), if_neg (by assumption), if_pos (by assumption)] | rw [if_neg (by assumption), if_neg (by assumption), if_neg (by assumption), if_pos (by assumption)] | rw [if_neg (by assumption), if_neg (by assumption), if_neg (by assumption), if_neg (by assumption), if_pos (by assumption)] | rw [if_neg (by assumption), if_neg (by assumption), if_neg (by assumption), if_neg (by assumption), if_neg (by assumption), if_pos (by assumption)] | rw [if_neg (by assumption), if_neg (by assumption), if_neg (by assumption), if_neg (by assumption), if_neg (by assumption), if_neg (by assumption)]) trivial rfl dX11_now_79
  refine z_tabOut (tgt := 80) hx hb dX11_now_6 ⟨by omega, by omega⟩ (by omega) (by decide) ?_
  refine z_iconst (n := -1) hx hb dX11_now_80 ?_
  exact z_iret hx hb hr hlk hW () (by first | rw [if_pos (by assumption)] | rw [if_neg (by assumption), if_pos (by assumption)] | rw [if_neg (by assumption), if_neg (by assumption), if_pos (by assumption)] | rw [if_neg (by assumption), if_neg (by assumption), if_neg (by assumption), if_pos (by assumption)] | rw [if_neg (by assumption), if_neg (by assumption), if_neg (by assumption), if_neg (by assumption), if_pos (by assumption)] | rw [if_neg (by assumption), if_neg (by assumption), if_neg (by assumption), if_neg (by assumption), if_neg (by assumption), if_pos (by assumption)] | rw [if_neg (by assumption), if_neg (by assumption), if_neg (by assumption), if_neg (by assumption), if_neg (by assumption), if_neg (by assumption)]) trivial rfl dX11_now_81
theorem hiX11_index_X11 : ∀ w ∈ wsX110, w ∈ wsX11_index := fun _ h => List.mem_cons_of_mem _ (List.mem_append_right _ h)
theorem ziX11_index : yX11_index.cls = RX11 ∧ yX11_index.cls ≠ "java/lang/invoke/MethodHandle" ∧ yX11_index.cls ≠ "java/lang/invoke/VarHandle" ∧ (parseMethodDescriptor yX11_index.desc).map (fun d => d.parameters.length) = some 2 := by decide +kernel
set_option maxHeartbeats 4000000 in
set_option maxRecDepth 100000 in
theorem c_index {l : Launch} {G : va_G} {cI cJ cO : ClassId} (h : Nat) (q : Nat → Nat) (v : Nat → Int) (a : Nat → Int → Int) (y k : Int)  (h1 : -2147483648 ≤ y ∧ y < 2147483648) (h2 : -2147483648 ≤ k ∧ k < 2147483648) (hWF : WF (a 11)) : zC l yX11_index wsX11_index { frames := 4, cells := 0, slots := 0, locals := 89 } G (tyZ cI cJ cO) (S := Unit) [.ref h, .int (iI y), .int (iI k)] (mW cI cJ h q v a) (zI (fun _ => A_index (a 11) y k)) (fun _ => True) (fun _ => mW cI cJ h q (uV v 0 0) a) 0 0 := by
  refine z_start (cc := cX11_index) (maxL := 3) (ret := (some .int)) (by decide) rfl (Nat.le_of_ble_eq_true rfl) ?_
  intro p e s m below meth c A ls F hr hlk hnm hAe hA hW hl
  have hx := F.1
  have hb := F.2.1
  have hown : s.vm.findClass RX11 = some m.cls := F.2.2.2.1
  have hts := F.2.2.2.2
  have hl : lv_has ls 3 [(0, .ref h), (1, .int (iI y)), (2, .int (iI k))] := hl
  obtain ⟨w0, w1, w2, hV, hls⟩ := id hWF
  refine lv_aload_n hx hb dX11_index_0 rfl (lv_at hl 0 rfl) ?_
  refine z_iconst (n := 0) hx hb dX11_index_1 ?_
  refine z_put hx hb hts hiX11_index_X11 tyX11 tyX11_ok nmX11 hown hW 0 0 1 rfl rfl (by decide) (Nat.le_of_ble_eq_true rfl) rfl rfl rfl rfl dX11_index_2 (fun H locs hW => ?_)
  have hW : zW G (tyZ cI cJ cO) A s (mW cI cJ h q (uV v 0 0) a) H locs := hW
  refine lv_iload_n hx hb dX11_index_5 rfl (lv_at hl 2 rfl) ?_
  refine z_callS (As := [.int (iI k)]) (rest := []) F (c_isMonth k  (show -2147483648 ≤ k ∧ k < 2147483648 by omega)) gX11_index_X11_isMonth rfl ziX11_isMonth ⟨rfl, rfl, by decide, by decide⟩ rfl hl.1 rfl (Nat.le_of_ble_eq_true rfl) dX11_index_6 ⟨Nat.zero_le _, Nat.zero_le _⟩ hW hA [] rfl (by decide) (fun _ => rfl) (fun _ => mW cI cJ h q (uV v 0 0) a) (fun _ => rfl) (fun _ => [.int (iI (bI (0 ≤ k ∧ k ≤ 239)))]) (fun _ => rfl) (fun _ H locs hp6 hW => ?_)
  refine z_b_eq (tgt := 21) hx hb dX11_index_9 (by decide) (fun c9 => ?_) (fun c9 => ?_)
  · refine z_iconst (n := -1) hx hb dX11_index_21 ?_
    exact z_iret hx hb hr hlk hW () (by unfold A_index; first | exact if_pos (by omega) | exact if_neg (by omega)) trivial rfl dX11_index_22
  · refine lv_aload_n hx hb dX11_index_12 rfl (lv_at hl 0 rfl) ?_
    refine lv_iload_n hx hb dX11_index_13 rfl (lv_at hl 1 rfl) ?_
    refine lv_iload_n hx hb dX11_index_14 rfl (lv_at hl 2 rfl) ?_
    refine z_callV (As := [.int (iI y), .int (iI k)]) (rest := []) F (c_indexOf h q (uV v 0 0) a y k  (show -2147483648 ≤ y ∧ y < 2147483648 by omega) (show -2147483648 ≤ k ∧ k < 2147483648 by omega) hV) gX11_index_X11_indexOf rfl ziX11_indexOf ⟨rfl, rfl, by decide, by decide⟩ rfl hl.1 rfl (Nat.le_of_ble_eq_true rfl) dX11_index_15 ⟨Nat.zero_le _, Nat.zero_le _⟩ hW hA [0, 1, 2, 3, 4, 5, 6, 7, 8, 9, 10] rfl (by decide) (fun _ => rfl) (fun _ => mW cI cJ h q (uV v 0 0) a) (fun _ => rfl) (fun _ => [.int (iI (IDX ((a 11)) y k))]) (fun _ => rfl) 0 rfl rfl rfl (fun _ H locs hp15 hW => ?_)
    refine lv_goto (tgt := 22) hx hb dX11_index_18 (by decide) ?_
    exact z_iret hx hb hr hlk hW () (by unfold A_index; first | exact if_pos (by omega) | exact if_neg (by omega)) trivial rfl dX11_index_22
theorem hiX11_rent_X11 : ∀ w ∈ wsX110, w ∈ wsX11_rent := fun _ h => List.mem_cons_of_mem _ (List.mem_append_right _ h)
theorem ziX11_rent : yX11_rent.cls = RX11 ∧ yX11_rent.cls ≠ "java/lang/invoke/MethodHandle" ∧ yX11_rent.cls ≠ "java/lang/invoke/VarHandle" ∧ (parseMethodDescriptor yX11_rent.desc).map (fun d => d.parameters.length) = some 3 := by decide +kernel
set_option maxHeartbeats 4000000 in
set_option maxRecDepth 100000 in
theorem c_rent {l : Launch} {G : va_G} {cI cJ cO : ClassId} (h : Nat) (q : Nat → Nat) (v : Nat → Int) (a : Nat → Int → Int) (x y k : Int)  (h1 : -2147483648 ≤ x ∧ x < 2147483648) (h2 : -2147483648 ≤ y ∧ y < 2147483648) (h3 : -2147483648 ≤ k ∧ k < 2147483648) (hWF : WF (a 11)) : zC l yX11_rent wsX11_rent { frames := 7, cells := 0, slots := 0, locals := 160 } G (tyZ cI cJ cO) (S := (Int → Int) × (Int → Int) × (Int → Int) × (Int → Int)) [.ref h, .int (iI x), .int (iI y), .int (iI k)] (mW cI cJ h q v a) (zI (fun _ => A_rent (a 11) x y k)) (fun u => True) (fun u => mW cI cJ h q (uV v 0 0) (uA (uA (uA (uA a 16 u.1) 17 u.2.1) 18 u.2.2.1) 19 u.2.2.2)) 0 0 := by
  refine z_start (cc := cX11_rent) (maxL := 4) (ret := (some .int)) (by decide) rfl (Nat.le_of_ble_eq_true rfl) ?_
  intro p e s m below meth c A ls F hr hlk hnm hAe hA hW hl
  have hx := F.1
  have hb := F.2.1
  have hown : s.vm.findClass RX11 = some m.cls := F.2.2.2.1
  have hts := F.2.2.2.2
  have hl : lv_has ls 4 [(0, .ref h), (1, .int (iI x)), (2, .int (iI y)), (3, .int (iI k))] := hl
  obtain ⟨w0, w1, w2, hV, hls⟩ := id hWF
  refine lv_aload_n hx hb dX11_rent_0 rfl (lv_at hl 0 rfl) ?_
  refine z_iconst (n := 0) hx hb dX11_rent_1 ?_
  refine z_put hx hb hts hiX11_rent_X11 tyX11 tyX11_ok nmX11 hown hW 0 0 1 rfl rfl (by decide) (Nat.le_of_ble_eq_true rfl) rfl rfl rfl rfl dX11_rent_2 (fun H locs hW => ?_)
  have hW : zW G (tyZ cI cJ cO) A s (mW cI cJ h q (uV v 0 0) a) H locs := hW
  refine lv_aload_n hx hb dX11_rent_5 rfl (lv_at hl 0 rfl) ?_
  refine lv_iload_n hx hb dX11_rent_6 rfl (lv_at hl 1 rfl) ?_
  refine lv_iload_n hx hb dX11_rent_7 rfl (lv_at hl 2 rfl) ?_
  refine z_callV (As := [.int (iI x), .int (iI y)]) (rest := []) F (c_isOf h q (uV v 0 0) a x y  (show -2147483648 ≤ x ∧ x < 2147483648 by omega) (show -2147483648 ≤ y ∧ y < 2147483648 by omega) hWF) gX11_rent_X11_isOf rfl ziX11_isOf ⟨rfl, rfl, by decide, by decide⟩ rfl hl.1 rfl (Nat.le_of_ble_eq_true rfl) dX11_rent_8 ⟨Nat.zero_le _, Nat.zero_le _⟩ hW hA [0, 1, 2, 3, 4, 5, 6, 7, 8, 9, 10] rfl (by decide) (fun _ => rfl) (fun _ => mW cI cJ h q (uV v 0 0) a) (fun _ => rfl) (fun _ => [.int (iI (bI (isO ((a 11)) x y)))]) (fun _ => rfl) 0 rfl rfl rfl (fun _ H locs hp8 hW => ?_)
  refine z_b_eq (tgt := 21) hx hb dX11_rent_11 (by decide) (fun c11 => ?_) (fun c11 => ?_)
  · refine z_iconst (n := -1) hx hb dX11_rent_21 ?_
    exact z_iret hx hb hr hlk hW (⟨a 16, a 17, a 18, a 19⟩) (by unfold A_rent; exact if_neg (fun q9 => by first | exact c11 q9.1 | exact c18 q9.2)) trivial rfl dX11_rent_22
  · refine lv_iload_n hx hb dX11_rent_14 rfl (lv_at hl 3 rfl) ?_
    refine z_callS (As := [.int (iI k)]) (rest := []) F (c_isMonth k  (show -2147483648 ≤ k ∧ k < 2147483648 by omega)) gX11_rent_X11_isMonth rfl ziX11_isMonth ⟨rfl, rfl, by decide, by decide⟩ rfl hl.1 rfl (Nat.le_of_ble_eq_true rfl) dX11_rent_15 ⟨Nat.zero_le _, Nat.zero_le _⟩ hW hA [] rfl (by decide) (fun _ => rfl) (fun _ => mW cI cJ h q (uV v 0 0) a) (fun _ => rfl) (fun _ => [.int (iI (bI (0 ≤ k ∧ k ≤ 239)))]) (fun _ => rfl) (fun _ H locs hp15 hW => ?_)
    refine z_b_ne (tgt := 23) hx hb dX11_rent_18 (by decide) (fun c18 => ?_) (fun c18 => ?_)
    · obtain ⟨hL, hT⟩ := hls x (by omega) (by omega)
      obtain ⟨l0, l1, l2, l3, l4, l5, l6, l7, l8, l9, l10, l11, l12, l13, l14, l15⟩ := id hL
      have hv := RVW_R (y := y) hL (by omega) (by omega)
      refine lv_aload_n hx hb dX11_rent_23 rfl (lv_at hl 0 rfl) ?_
      refine lv_iload_n hx hb dX11_rent_24 rfl (lv_at hl 1 rfl) ?_
      refine lv_iload_n hx hb dX11_rent_25 rfl (lv_at hl 3 rfl) ?_
      refine z_callV (As := [.int (iI x), .int (iI k)]) (rest := []) F (c_laysRents h q (uV v 0 0) a x k  (show 0 ≤ x ∧ x < 6 by omega) (show -2147483648 ≤ k ∧ k < 2147483648 by omega) hV hL hT) gX11_rent_X11_laysRents rfl ziX11_laysRents ⟨rfl, rfl, by decide, by decide⟩ rfl hl.1 rfl (Nat.le_of_ble_eq_true rfl) dX11_rent_26 ⟨Nat.zero_le _, Nat.zero_le _⟩ hW hA [0, 1, 2, 3, 4, 5, 6, 7, 8, 9, 10] rfl (by decide) (fun _ => rfl) (fun u => mW cI cJ h q (uV v 0 0) (uA (uA (uA (uA a 16 u.1) 17 u.2.1) 18 u.2.2.1) 19 u.2.2.2)) (fun _ => rfl) (fun u => []) (fun _ => rfl) 0 rfl rfl rfl (fun u H locs hp26 hW => ?_)
      obtain ⟨f16_1, f17_2, f18_3, f19_4⟩ := u
      have hp26 : LD ((a 11)) x k (REV ((a 11)) x + 1) f16_1 f17_2 f18_3 f19_4 := hp26
      have hW : zW G (tyZ cI cJ cO) A s (mW cI cJ h q (uV v 0 0) (uA (uA (uA (uA a 16 f16_1) 17 f17_2) 18 f18_3) 19 f19_4)) H locs := hW
      refine lv_aload_n hx hb dX11_rent_29 rfl (lv_at hl 0 rfl) ?_
      refine lv_iload_n hx hb dX11_rent_30 rfl (lv_at hl 1 rfl) ?_
      refine lv_iload_n hx hb dX11_rent_31 rfl (lv_at hl 2 rfl) ?_
      refine z_callV (As := [.int (iI x), .int (iI y)]) (rest := []) F (c_rentLaid h q (uV v 0 0) (uA (uA (uA (uA a 16 f16_1) 17 f17_2) 18 f18_3) 19 f19_4) x y  (show 0 ≤ x ∧ x < 6 by omega) (show LF ((a 11)) x 0 ≤ y ∧ y ≤ LF ((a 11)) x 0 + 239 by omega) hL) gX11_rent_X11_rentLaid rfl ziX11_rentLaid ⟨rfl, rfl, by decide, by decide⟩ rfl hl.1 rfl (Nat.le_of_ble_eq_true rfl) dX11_rent_32 ⟨Nat.zero_le _, Nat.zero_le _⟩ hW hA [0, 1, 2, 3, 4, 5, 6, 7, 8, 9, 10] rfl (by decide) (fun _ => rfl) (fun _ => mW cI cJ h q (uV v 0 0) (uA (uA (uA (uA a 16 f16_1) 17 f17_2) 18 f18_3) 19 f19_4)) (fun _ => rfl) (fun _ => [.int (iI (f17_2 (RVW ((a 11)) x y)))]) (fun _ => rfl) 0 rfl rfl rfl (fun _ H locs hp32 hW => ?_)
      exact z_iret hx hb hr hlk hW (⟨f16_1, f17_2, f18_3, f19_4⟩) (by unfold A_rent RNTm; rw [if_pos ⟨c11, c18⟩]; exact ((hp26 _ hv.1 (by omega)).1).symm) trivial rfl dX11_rent_35
    · refine z_iconst (n := -1) hx hb dX11_rent_21 ?_
      exact z_iret hx hb hr hlk hW (⟨a 16, a 17, a 18, a 19⟩) (by unfold A_rent; exact if_neg (fun q9 => by first | exact c11 q9.1 | exact c18 q9.2)) trivial rfl dX11_rent_22
theorem hiX11_review_X11 : ∀ w ∈ wsX110, w ∈ wsX11_review := fun _ h => List.mem_cons_of_mem _ (List.mem_append_right _ h)
theorem ziX11_review : yX11_review.cls = RX11 ∧ yX11_review.cls ≠ "java/lang/invoke/MethodHandle" ∧ yX11_review.cls ≠ "java/lang/invoke/VarHandle" ∧ (parseMethodDescriptor yX11_review.desc).map (fun d => d.parameters.length) = some 4 := by decide +kernel
set_option maxHeartbeats 4000000 in
set_option maxRecDepth 100000 in
theorem c_review {l : Launch} {G : va_G} {cI cJ cO : ClassId} (h : Nat) (q : Nat → Nat) (v : Nat → Int) (a : Nat → Int → Int) (x r k w : Int)  (h1 : -2147483648 ≤ x ∧ x < 2147483648) (h2 : -2147483648 ≤ r ∧ r < 2147483648) (h3 : -2147483648 ≤ k ∧ k < 2147483648) (h4 : -2147483648 ≤ w ∧ w < 2147483648) (hWF : WF (a 11)) : zC l yX11_review wsX11_review { frames := 7, cells := 0, slots := 0, locals := 160 } G (tyZ cI cJ cO) (S := (Int → Int) × (Int → Int) × (Int → Int) × (Int → Int)) [.ref h, .int (iI x), .int (iI r), .int (iI k), .int (iI w)] (mW cI cJ h q v a) (zI (fun _ => A_review (a 11) x r k w)) (fun u => True) (fun u => mW cI cJ h q (uV v 0 0) (uA (uA (uA (uA a 16 u.1) 17 u.2.1) 18 u.2.2.1) 19 u.2.2.2)) 0 0 := by
  refine z_start (cc := cX11_review) (maxL := 5) (ret := (some .int)) (by decide) rfl (Nat.le_of_ble_eq_true rfl) ?_
  intro p e s m below meth c A ls F hr hlk hnm hAe hA hW hl
  have hx := F.1
  have hb := F.2.1
  have hown : s.vm.findClass RX11 = some m.cls := F.2.2.2.1
  have hts := F.2.2.2.2
  have hl : lv_has ls 5 [(0, .ref h), (1, .int (iI x)), (2, .int (iI r)), (3, .int (iI k)), (4, .int (iI w))] := hl
  obtain ⟨w0, w1, w2, hV, hls⟩ := id hWF
  refine lv_aload_n hx hb dX11_review_0 rfl (lv_at hl 0 rfl) ?_
  refine z_iconst (n := 0) hx hb dX11_review_1 ?_
  refine z_put hx hb hts hiX11_review_X11 tyX11 tyX11_ok nmX11 hown hW 0 0 1 rfl rfl (by decide) (Nat.le_of_ble_eq_true rfl) rfl rfl rfl rfl dX11_review_2 (fun H locs hW => ?_)
  have hW : zW G (tyZ cI cJ cO) A s (mW cI cJ h q (uV v 0 0) a) H locs := hW
  refine lv_aload_n hx hb dX11_review_5 rfl (lv_at hl 0 rfl) ?_
  refine lv_iload_n hx hb dX11_review_6 rfl (lv_at hl 1 rfl) ?_
  refine z_callV (As := [.int (iI x)]) (rest := []) F (c_isLease h q (uV v 0 0) a x  (show -2147483648 ≤ x ∧ x < 2147483648 by omega) (show 0 ≤ (a 11) 2 ∧ (a 11) 2 ≤ 6 by omega)) gX11_review_X11_isLease rfl ziX11_isLease ⟨rfl, rfl, by decide, by decide⟩ rfl hl.1 rfl (Nat.le_of_ble_eq_true rfl) dX11_review_7 ⟨Nat.zero_le _, Nat.zero_le _⟩ hW hA [0, 1, 2, 3, 4, 5, 6, 7, 8, 9, 10] rfl (by decide) (fun _ => rfl) (fun _ => mW cI cJ h q (uV v 0 0) a) (fun _ => rfl) (fun _ => [.int (iI (bI (0 ≤ x ∧ x ≤ (a 11) 2 - 1)))]) (fun _ => rfl) 0 rfl rfl rfl (fun _ H locs hp7 hW => ?_)
  refine z_b_eq (tgt := 43) hx hb dX11_review_10 (by decide) (fun c10 => ?_) (fun c10 => ?_)
  · refine z_ldc hx hb (-100000000) hown (hts _ (List.mem_of_getElem? (i := 2) rfl)) (by decide +kernel) dX11_review_43 ?_
    exact z_iret hx hb hr hlk hW (⟨a 16, a 17, a 18, a 19⟩) (by unfold A_review; exact if_neg (fun q9 => by first | exact c10 q9.1 | exact c23 q9.2.1 | exact c30 q9.2.2.1 | exact c40 q9.2.2.2)) trivial rfl dX11_review_45
  · obtain ⟨hL, hT⟩ := hls x (by omega) (by omega)
    obtain ⟨l0, l1, l2, l3, l4, l5, l6, l7, l8, l9, l10, l11, l12, l13, l14, l15⟩ := id hL
    have hR := REV_R hL
    refine lv_iload_n hx hb dX11_review_13 rfl (lv_at hl 2 rfl) ?_
    refine z_iconst (n := 1) hx hb dX11_review_14 ?_
    refine lv_aload_n hx hb dX11_review_15 rfl (lv_at hl 0 rfl) ?_
    refine lv_iload_n hx hb dX11_review_16 rfl (lv_at hl 1 rfl) ?_
    refine z_callV (As := [.int (iI x)]) (rest := [.int (iI 1), .int (iI r)]) F (c_reviewsOf h q (uV v 0 0) a x  (show 0 ≤ x ∧ x < 6 by omega) (show 0 ≤ LF ((a 11)) x 5 ∧ LF ((a 11)) x 5 ≤ 4 by omega) (show 1 ≤ LF ((a 11)) x 1 ∧ LF ((a 11)) x 1 ≤ 120 by omega) (show 1 ≤ LF ((a 11)) x 3 ∧ LF ((a 11)) x 3 ≤ 60 by omega)) gX11_review_X11_reviewsOf rfl ziX11_reviewsOf ⟨rfl, rfl, by decide, by decide⟩ rfl hl.1 rfl (Nat.le_of_ble_eq_true rfl) dX11_review_17 ⟨Nat.zero_le _, Nat.zero_le _⟩ hW hA [0, 1, 2, 3, 4, 5, 6, 7, 8, 9, 10] rfl (by decide) (fun _ => rfl) (fun _ => mW cI cJ h q (uV v 0 0) a) (fun _ => rfl) (fun _ => [.int (iI (REV ((a 11)) x)), .int (iI 1), .int (iI r)]) (fun _ => rfl) 0 rfl rfl rfl (fun _ H locs hp17 hW => ?_)
    refine z_callS (As := [.int (iI r), .int (iI 1), .int (iI (REV ((a 11)) x))]) (rest := []) F (c_isIn r 1 (REV ((a 11)) x)  (show -2147483648 ≤ r ∧ r < 2147483648 by omega) (show -2147483648 ≤ 1 ∧ 1 < 2147483648 by omega) (show -2147483648 ≤ (REV ((a 11)) x) ∧ (REV ((a 11)) x) < 2147483648 by omega)) gX11_review_X11_isIn rfl ziX11_isIn ⟨rfl, rfl, by decide, by decide⟩ rfl hl.1 rfl (Nat.le_of_ble_eq_true rfl) dX11_review_20 ⟨Nat.zero_le _, Nat.zero_le _⟩ hW hA [] rfl (by decide) (fun _ => rfl) (fun _ => mW cI cJ h q (uV v 0 0) a) (fun _ => rfl) (fun _ => [.int (iI (bI (1 ≤ r ∧ r ≤ (REV ((a 11)) x))))]) (fun _ => rfl) (fun _ H locs hp20 hW => ?_)
    refine z_b_eq (tgt := 43) hx hb dX11_review_23 (by decide) (fun c23 => ?_) (fun c23 => ?_)
    · refine z_ldc hx hb (-100000000) hown (hts _ (List.mem_of_getElem? (i := 2) rfl)) (by decide +kernel) dX11_review_43 ?_
      exact z_iret hx hb hr hlk hW (⟨a 16, a 17, a 18, a 19⟩) (by unfold A_review; exact if_neg (fun q9 => by first | exact c10 q9.1 | exact c23 q9.2.1 | exact c30 q9.2.2.1 | exact c40 q9.2.2.2)) trivial rfl dX11_review_45
    · refine lv_iload_n hx hb dX11_review_26 rfl (lv_at hl 3 rfl) ?_
      refine z_callS (As := [.int (iI k)]) (rest := []) F (c_isMonth k  (show -2147483648 ≤ k ∧ k < 2147483648 by omega)) gX11_review_X11_isMonth rfl ziX11_isMonth ⟨rfl, rfl, by decide, by decide⟩ rfl hl.1 rfl (Nat.le_of_ble_eq_true rfl) dX11_review_27 ⟨Nat.zero_le _, Nat.zero_le _⟩ hW hA [] rfl (by decide) (fun _ => rfl) (fun _ => mW cI cJ h q (uV v 0 0) a) (fun _ => rfl) (fun _ => [.int (iI (bI (0 ≤ k ∧ k ≤ 239)))]) (fun _ => rfl) (fun _ H locs hp27 hW => ?_)
      refine z_b_eq (tgt := 43) hx hb dX11_review_30 (by decide) (fun c30 => ?_) (fun c30 => ?_)
      · refine z_ldc hx hb (-100000000) hown (hts _ (List.mem_of_getElem? (i := 2) rfl)) (by decide +kernel) dX11_review_43 ?_
        exact z_iret hx hb hr hlk hW (⟨a 16, a 17, a 18, a 19⟩) (by unfold A_review; exact if_neg (fun q9 => by first | exact c10 q9.1 | exact c23 q9.2.1 | exact c30 q9.2.2.1 | exact c40 q9.2.2.2)) trivial rfl dX11_review_45
      · refine lv_iload hx hb dX11_review_33 (lv_at hl 4 rfl) ?_
        refine z_iconst (n := 0) hx hb dX11_review_35 ?_
        refine z_iconst (n := 4) hx hb dX11_review_36 ?_
        refine z_callS (As := [.int (iI w), .int (iI 0), .int (iI 4)]) (rest := []) F (c_isIn w 0 4  (show -2147483648 ≤ w ∧ w < 2147483648 by omega) (show -2147483648 ≤ 0 ∧ 0 < 2147483648 by omega) (show -2147483648 ≤ 4 ∧ 4 < 2147483648 by omega)) gX11_review_X11_isIn rfl ziX11_isIn ⟨rfl, rfl, by decide, by decide⟩ rfl hl.1 rfl (Nat.le_of_ble_eq_true rfl) dX11_review_37 ⟨Nat.zero_le _, Nat.zero_le _⟩ hW hA [] rfl (by decide) (fun _ => rfl) (fun _ => mW cI cJ h q (uV v 0 0) a) (fun _ => rfl) (fun _ => [.int (iI (bI (0 ≤ w ∧ w ≤ 4)))]) (fun _ => rfl) (fun _ H locs hp37 hW => ?_)
        refine z_b_ne (tgt := 46) hx hb dX11_review_40 (by decide) (fun c40 => ?_) (fun c40 => ?_)
        · refine lv_aload_n hx hb dX11_review_46 rfl (lv_at hl 0 rfl) ?_
          refine lv_iload_n hx hb dX11_review_47 rfl (lv_at hl 1 rfl) ?_
          refine lv_iload_n hx hb dX11_review_48 rfl (lv_at hl 3 rfl) ?_
          refine z_callV (As := [.int (iI x), .int (iI k)]) (rest := []) F (c_laysRents h q (uV v 0 0) a x k  (show 0 ≤ x ∧ x < 6 by omega) (show -2147483648 ≤ k ∧ k < 2147483648 by omega) hV hL hT) gX11_review_X11_laysRents rfl ziX11_laysRents ⟨rfl, rfl, by decide, by decide⟩ rfl hl.1 rfl (Nat.le_of_ble_eq_true rfl) dX11_review_49 ⟨Nat.zero_le _, Nat.zero_le _⟩ hW hA [0, 1, 2, 3, 4, 5, 6, 7, 8, 9, 10] rfl (by decide) (fun _ => rfl) (fun u => mW cI cJ h q (uV v 0 0) (uA (uA (uA (uA a 16 u.1) 17 u.2.1) 18 u.2.2.1) 19 u.2.2.2)) (fun _ => rfl) (fun u => []) (fun _ => rfl) 0 rfl rfl rfl (fun u H locs hp49 hW => ?_)
          obtain ⟨f16_1, f17_2, f18_3, f19_4⟩ := u
          have hp49 : LD ((a 11)) x k (REV ((a 11)) x + 1) f16_1 f17_2 f18_3 f19_4 := hp49
          have hW : zW G (tyZ cI cJ cO) A s (mW cI cJ h q (uV v 0 0) (uA (uA (uA (uA a 16 f16_1) 17 f17_2) 18 f18_3) 19 f19_4)) H locs := hW
          have hq := hp49 r (by omega) (by omega)
          refine lv_iload hx hb dX11_review_52 (lv_at hl 4 rfl) ?_
          refine z_if_ne (tgt := 64) hx hb dX11_review_54 (by decide) ⟨by omega, by omega⟩ (fun c54 => ?_) (fun c54 => ?_)
          · refine lv_iload hx hb dX11_review_64 (lv_at hl 4 rfl) ?_
            refine z_iconst (n := 3) hx hb dX11_review_66 ?_
            refine z_icmp_ge (tgt := 93) hx hb dX11_review_67 (by decide) ⟨by omega, by omega⟩ (by decide) (fun c67 => ?_) (fun c67 => ?_)
            · refine lv_aload_n hx hb dX11_review_93 rfl (lv_at hl 0 rfl) ?_
              refine lv_iload_n hx hb dX11_review_94 rfl (lv_at hl 1 rfl) ?_
              refine z_iconst (n := 4) hx hb dX11_review_95 ?_
              refine z_callV (As := [.int (iI x), .int (iI 4)]) (rest := []) F (c_hasPart h q (uV v 0 0) (uA (uA (uA (uA a 16 f16_1) 17 f17_2) 18 f18_3) 19 f19_4) x 4  (show 0 ≤ x ∧ x < 6 by omega)) gX11_review_X11_hasPart rfl ziX11_hasPart ⟨rfl, rfl, by decide, by decide⟩ rfl hl.1 rfl (Nat.le_of_ble_eq_true rfl) dX11_review_96 ⟨Nat.zero_le _, Nat.zero_le _⟩ hW hA [0, 1, 2, 3, 4, 5, 6, 7, 8, 9, 10] rfl (by decide) (fun _ => rfl) (fun _ => mW cI cJ h q (uV v 0 0) (uA (uA (uA (uA a 16 f16_1) 17 f17_2) 18 f18_3) 19 f19_4)) (fun _ => rfl) (fun _ => [.int (iI (bI (zand (LF ((a 11)) x 7) 4 ≠ 0)))]) (fun _ => rfl) 0 rfl rfl rfl (fun _ H locs hp96 hW => ?_)
              refine z_b_ne (tgt := 106) hx hb dX11_review_99 (by decide) (fun c99 => ?_) (fun c99 => ?_)
              · refine lv_iload hx hb dX11_review_106 (lv_at hl 4 rfl) ?_
                refine z_iconst (n := 3) hx hb dX11_review_108 ?_
                refine z_icmp_ne (tgt := 121) hx hb dX11_review_109 (by decide) ⟨by omega, by omega⟩ (by decide) (fun c109 => ?_) (fun c109 => ?_)
                · refine lv_aload_n hx hb dX11_review_121 rfl (lv_at hl 0 rfl) ?_
                  refine z_get (v := .ref (q 19)) hx hb hts hiX11_review_X11 hown hW 0 19 6 rfl rfl rfl (by decide) rfl dX11_review_122 ?_
                  refine lv_iload_n hx hb dX11_review_125 rfl (lv_at hl 2 rfl) ?_
                  refine z_lald (f := f19_4) (i := r) hx hb hW 8 1 rfl rfl (by decide) ⟨by omega, by omega⟩ dX11_review_126 ?_
                  refine z_l2i hx hb dX11_review_127 ?_
                  exact z_iret hx hb hr hlk hW (⟨f16_1, f17_2, f18_3, f19_4⟩) (by unfold A_review; rw [if_pos ⟨c10, c23, c30, c40⟩]; first | exact if_pos c54 | (rw [if_neg (by omega), if_pos (by omega)]; exact ((hq.2.2.2) (by omega)).symm) | (rw [if_neg (by omega), if_neg (by omega), if_pos (by omega)]; exact hq.1.symm) | (rw [if_neg (by omega), if_neg (by omega), if_neg (by omega), if_neg c99]; done) | (rw [if_neg (by omega), if_neg (by omega), if_neg (by omega), if_pos c99, if_pos (by omega)]; exact hq.2.1.symm) | (rw [if_neg (by omega), if_neg (by omega), if_neg (by omega), if_pos c99, if_neg (by omega)]; exact hq.2.2.1.symm)) trivial rfl dX11_review_128
                · refine lv_aload_n hx hb dX11_review_112 rfl (lv_at hl 0 rfl) ?_
                  refine z_get (v := .ref (q 18)) hx hb hts hiX11_review_X11 hown hW 0 18 5 rfl rfl rfl (by decide) rfl dX11_review_113 ?_
                  refine lv_iload_n hx hb dX11_review_116 rfl (lv_at hl 2 rfl) ?_
                  refine z_lald (f := f18_3) (i := r) hx hb hW 7 1 rfl rfl (by decide) ⟨by omega, by omega⟩ dX11_review_117 ?_
                  refine lv_goto (tgt := 127) hx hb dX11_review_118 (by decide) ?_
                  refine z_l2i hx hb dX11_review_127 ?_
                  exact z_iret hx hb hr hlk hW (⟨f16_1, f17_2, f18_3, f19_4⟩) (by unfold A_review; rw [if_pos ⟨c10, c23, c30, c40⟩]; first | exact if_pos c54 | (rw [if_neg (by omega), if_pos (by omega)]; exact ((hq.2.2.2) (by omega)).symm) | (rw [if_neg (by omega), if_neg (by omega), if_pos (by omega)]; exact hq.1.symm) | (rw [if_neg (by omega), if_neg (by omega), if_neg (by omega), if_neg c99]; done) | (rw [if_neg (by omega), if_neg (by omega), if_neg (by omega), if_pos c99, if_pos (by omega)]; exact hq.2.1.symm) | (rw [if_neg (by omega), if_neg (by omega), if_neg (by omega), if_pos c99, if_neg (by omega)]; exact hq.2.2.1.symm)) trivial rfl dX11_review_128
              · refine z_iconst (n := -1) hx hb dX11_review_102 ?_
                refine lv_goto (tgt := 128) hx hb dX11_review_103 (by decide) ?_
                exact z_iret hx hb hr hlk hW (⟨f16_1, f17_2, f18_3, f19_4⟩) (by unfold A_review; rw [if_pos ⟨c10, c23, c30, c40⟩]; first | exact if_pos c54 | (rw [if_neg (by omega), if_pos (by omega)]; exact ((hq.2.2.2) (by omega)).symm) | (rw [if_neg (by omega), if_neg (by omega), if_pos (by omega)]; exact hq.1.symm) | (rw [if_neg (by omega), if_neg (by omega), if_neg (by omega), if_neg c99]; done) | (rw [if_neg (by omega), if_neg (by omega), if_neg (by omega), if_pos c99, if_pos (by omega)]; exact hq.2.1.symm) | (rw [if_neg (by omega), if_neg (by omega), if_neg (by omega), if_pos c99, if_neg (by omega)]; exact hq.2.2.1.symm)) trivial rfl dX11_review_128
            · refine lv_iload hx hb dX11_review_70 (lv_at hl 4 rfl) ?_
              refine z_iconst (n := 1) hx hb dX11_review_72 ?_
              refine z_icmp_ne (tgt := 85) hx hb dX11_review_73 (by decide) ⟨by omega, by omega⟩ (by decide) (fun c73 => ?_) (fun c73 => ?_)
              · refine lv_aload_n hx hb dX11_review_85 rfl (lv_at hl 0 rfl) ?_
                refine z_get (v := .ref (q 17)) hx hb hts hiX11_review_X11 hown hW 0 17 4 rfl rfl rfl (by decide) rfl dX11_review_86 ?_
                refine lv_iload_n hx hb dX11_review_89 rfl (lv_at hl 2 rfl) ?_
                refine z_lald (f := f17_2) (i := r) hx hb hW 6 1 rfl rfl (by decide) ⟨by omega, by omega⟩ dX11_review_90 ?_
                refine z_l2i hx hb dX11_review_91 ?_
                exact z_iret hx hb hr hlk hW (⟨f16_1, f17_2, f18_3, f19_4⟩) (by unfold A_review; rw [if_pos ⟨c10, c23, c30, c40⟩]; first | exact if_pos c54 | (rw [if_neg (by omega), if_pos (by omega)]; exact ((hq.2.2.2) (by omega)).symm) | (rw [if_neg (by omega), if_neg (by omega), if_pos (by omega)]; exact hq.1.symm) | (rw [if_neg (by omega), if_neg (by omega), if_neg (by omega), if_neg c99]; done) | (rw [if_neg (by omega), if_neg (by omega), if_neg (by omega), if_pos c99, if_pos (by omega)]; exact hq.2.1.symm) | (rw [if_neg (by omega), if_neg (by omega), if_neg (by omega), if_pos c99, if_neg (by omega)]; exact hq.2.2.1.symm)) trivial rfl dX11_review_92
              · refine lv_aload_n hx hb dX11_review_76 rfl (lv_at hl 0 rfl) ?_
                refine z_get (v := .ref (q 16)) hx hb hts hiX11_review_X11 hown hW 0 16 3 rfl rfl rfl (by decide) rfl dX11_review_77 ?_
                refine lv_iload_n hx hb dX11_review_80 rfl (lv_at hl 2 rfl) ?_
                refine z_lald (f := f16_1) (i := r) hx hb hW 5 1 rfl rfl (by decide) ⟨by omega, by omega⟩ dX11_review_81 ?_
                refine lv_goto (tgt := 91) hx hb dX11_review_82 (by decide) ?_
                refine z_l2i hx hb dX11_review_91 ?_
                exact z_iret hx hb hr hlk hW (⟨f16_1, f17_2, f18_3, f19_4⟩) (by unfold A_review; rw [if_pos ⟨c10, c23, c30, c40⟩]; first | exact if_pos c54 | (rw [if_neg (by omega), if_pos (by omega)]; exact ((hq.2.2.2) (by omega)).symm) | (rw [if_neg (by omega), if_neg (by omega), if_pos (by omega)]; exact hq.1.symm) | (rw [if_neg (by omega), if_neg (by omega), if_neg (by omega), if_neg c99]; done) | (rw [if_neg (by omega), if_neg (by omega), if_neg (by omega), if_pos c99, if_pos (by omega)]; exact hq.2.1.symm) | (rw [if_neg (by omega), if_neg (by omega), if_neg (by omega), if_pos c99, if_neg (by omega)]; exact hq.2.2.1.symm)) trivial rfl dX11_review_92
          · refine lv_aload_n hx hb dX11_review_57 rfl (lv_at hl 0 rfl) ?_
            refine lv_iload_n hx hb dX11_review_58 rfl (lv_at hl 1 rfl) ?_
            refine lv_iload_n hx hb dX11_review_59 rfl (lv_at hl 2 rfl) ?_
            refine z_callV (As := [.int (iI x), .int (iI r)]) (rest := []) F (c_monthOf h q (uV v 0 0) (uA (uA (uA (uA a 16 f16_1) 17 f17_2) 18 f18_3) 19 f19_4) x r  (show 0 ≤ x ∧ x < 6 by omega)) gX11_review_X11_monthOf rfl ziX11_monthOf ⟨rfl, rfl, by decide, by decide⟩ rfl hl.1 rfl (Nat.le_of_ble_eq_true rfl) dX11_review_60 ⟨Nat.zero_le _, Nat.zero_le _⟩ hW hA [0, 1, 2, 3, 4, 5, 6, 7, 8, 9, 10] rfl (by decide) (fun _ => rfl) (fun _ => mW cI cJ h q (uV v 0 0) (uA (uA (uA (uA a 16 f16_1) 17 f17_2) 18 f18_3) 19 f19_4)) (fun _ => rfl) (fun _ => [.int (iI (LF ((a 11)) x 0 + r * LF ((a 11)) x 3))]) (fun _ => rfl) 0 rfl rfl rfl (fun _ H locs hp60 hW => ?_)
            exact z_iret hx hb hr hlk hW (⟨f16_1, f17_2, f18_3, f19_4⟩) (by unfold A_review; rw [if_pos ⟨c10, c23, c30, c40⟩]; first | exact if_pos c54 | (rw [if_neg (by omega), if_pos (by omega)]; exact ((hq.2.2.2) (by omega)).symm) | (rw [if_neg (by omega), if_neg (by omega), if_pos (by omega)]; exact hq.1.symm) | (rw [if_neg (by omega), if_neg (by omega), if_neg (by omega), if_neg c99]; done) | (rw [if_neg (by omega), if_neg (by omega), if_neg (by omega), if_pos c99, if_pos (by omega)]; exact hq.2.1.symm) | (rw [if_neg (by omega), if_neg (by omega), if_neg (by omega), if_pos c99, if_neg (by omega)]; exact hq.2.2.1.symm)) trivial rfl dX11_review_63
        · refine z_ldc hx hb (-100000000) hown (hts _ (List.mem_of_getElem? (i := 2) rfl)) (by decide +kernel) dX11_review_43 ?_
          exact z_iret hx hb hr hlk hW (⟨a 16, a 17, a 18, a 19⟩) (by unfold A_review; exact if_neg (fun q9 => by first | exact c10 q9.1 | exact c23 q9.2.1 | exact c30 q9.2.2.1 | exact c40 q9.2.2.2)) trivial rfl dX11_review_45
theorem hiX11_billed_X11 : ∀ w ∈ wsX110, w ∈ wsX11_billed := fun _ h => List.mem_cons_of_mem _ (List.mem_append_right _ h)
theorem ziX11_billed : yX11_billed.cls = RX11 ∧ yX11_billed.cls ≠ "java/lang/invoke/MethodHandle" ∧ yX11_billed.cls ≠ "java/lang/invoke/VarHandle" ∧ (parseMethodDescriptor yX11_billed.desc).map (fun d => d.parameters.length) = some 2 := by decide +kernel
set_option maxHeartbeats 4000000 in
set_option maxRecDepth 100000 in
theorem c_billed {l : Launch} {G : va_G} {cI cJ cO : ClassId} (h : Nat) (q : Nat → Nat) (v : Nat → Int) (a : Nat → Int → Int) (x y : Int)  (h1 : -2147483648 ≤ x ∧ x < 2147483648) (h2 : -2147483648 ≤ y ∧ y < 2147483648) (hWF : WF (a 11)) : zC l yX11_billed wsX11_billed { frames := 7, cells := 0, slots := 0, locals := 160 } G (tyZ cI cJ cO) (S := (Int → Int) × (Int → Int) × (Int → Int) × (Int → Int)) [.ref h, .int (iI x), .int (iI y)] (mW cI cJ h q v a) (zI (fun _ => A_billed (a 11) x y)) (fun u => True) (fun u => mW cI cJ h q (uV v 0 0) (uA (uA (uA (uA a 16 u.1) 17 u.2.1) 18 u.2.2.1) 19 u.2.2.2)) 0 0 := by
  refine z_start (cc := cX11_billed) (maxL := 3) (ret := (some .int)) (by decide) rfl (Nat.le_of_ble_eq_true rfl) ?_
  intro p e s m below meth c A ls F hr hlk hnm hAe hA hW hl
  have hx := F.1
  have hb := F.2.1
  have hown : s.vm.findClass RX11 = some m.cls := F.2.2.2.1
  have hts := F.2.2.2.2
  have hl : lv_has ls 3 [(0, .ref h), (1, .int (iI x)), (2, .int (iI y))] := hl
  obtain ⟨w0, w1, w2, hV, hls⟩ := id hWF
  refine lv_aload_n hx hb dX11_billed_0 rfl (lv_at hl 0 rfl) ?_
  refine z_iconst (n := 0) hx hb dX11_billed_1 ?_
  refine z_put hx hb hts hiX11_billed_X11 tyX11 tyX11_ok nmX11 hown hW 0 0 1 rfl rfl (by decide) (Nat.le_of_ble_eq_true rfl) rfl rfl rfl rfl dX11_billed_2 (fun H locs hW => ?_)
  have hW : zW G (tyZ cI cJ cO) A s (mW cI cJ h q (uV v 0 0) a) H locs := hW
  refine lv_aload_n hx hb dX11_billed_5 rfl (lv_at hl 0 rfl) ?_
  refine lv_iload_n hx hb dX11_billed_6 rfl (lv_at hl 1 rfl) ?_
  refine lv_iload_n hx hb dX11_billed_7 rfl (lv_at hl 2 rfl) ?_
  refine z_callV (As := [.int (iI x), .int (iI y)]) (rest := []) F (c_isOf h q (uV v 0 0) a x y  (show -2147483648 ≤ x ∧ x < 2147483648 by omega) (show -2147483648 ≤ y ∧ y < 2147483648 by omega) hWF) gX11_billed_X11_isOf rfl ziX11_isOf ⟨rfl, rfl, by decide, by decide⟩ rfl hl.1 rfl (Nat.le_of_ble_eq_true rfl) dX11_billed_8 ⟨Nat.zero_le _, Nat.zero_le _⟩ hW hA [0, 1, 2, 3, 4, 5, 6, 7, 8, 9, 10] rfl (by decide) (fun _ => rfl) (fun _ => mW cI cJ h q (uV v 0 0) a) (fun _ => rfl) (fun _ => [.int (iI (bI (isO ((a 11)) x y)))]) (fun _ => rfl) 0 rfl rfl rfl (fun _ H locs hp8 hW => ?_)
  refine z_b_eq (tgt := 24) hx hb dX11_billed_11 (by decide) (fun c11 => ?_) (fun c11 => ?_)
  · refine z_iconst (n := -1) hx hb dX11_billed_24 ?_
    exact z_iret hx hb hr hlk hW (⟨a 16, a 17, a 18, a 19⟩) (by unfold A_billed; exact if_neg (fun q9 => by first | exact c11 q9.1 | (have := q9.2; omega))) trivial rfl dX11_billed_25
  · obtain ⟨hL, hT⟩ := hls x (by omega) (by omega)
    obtain ⟨l0, l1, l2, l3, l4, l5, l6, l7, l8, l9, l10, l11, l12, l13, l14, l15⟩ := id hL
    have hE := END_R (k := y) hL
    refine lv_iload_n hx hb dX11_billed_14 rfl (lv_at hl 2 rfl) ?_
    refine lv_aload_n hx hb dX11_billed_15 rfl (lv_at hl 0 rfl) ?_
    refine lv_iload_n hx hb dX11_billed_16 rfl (lv_at hl 1 rfl) ?_
    refine lv_iload_n hx hb dX11_billed_17 rfl (lv_at hl 2 rfl) ?_
    refine z_callV (As := [.int (iI x), .int (iI y)]) (rest := [.int (iI y)]) F (c_endOf h q (uV v 0 0) a x y  (show 0 ≤ x ∧ x < 6 by omega) (show -2147483648 ≤ y ∧ y < 2147483648 by omega) (show 0 ≤ LF ((a 11)) x 13 ∧ LF ((a 11)) x 13 ≤ 240 by omega)) gX11_billed_X11_endOf rfl ziX11_endOf ⟨rfl, rfl, by decide, by decide⟩ rfl hl.1 rfl (Nat.le_of_ble_eq_true rfl) dX11_billed_18 ⟨Nat.zero_le _, Nat.zero_le _⟩ hW hA [0, 1, 2, 3, 4, 5, 6, 7, 8, 9, 10] rfl (by decide) (fun _ => rfl) (fun _ => mW cI cJ h q (uV v 0 0) a) (fun _ => rfl) (fun _ => [.int (iI (END ((a 11)) x y)), .int (iI y)]) (fun _ => rfl) 0 rfl rfl rfl (fun _ H locs hp18 hW => ?_)
    refine z_icmp_lt (tgt := 26) hx hb dX11_billed_21 (by decide) ⟨by omega, by omega⟩ ⟨by omega, by omega⟩ (fun c21 => ?_) (fun c21 => ?_)
    · refine lv_aload_n hx hb dX11_billed_26 rfl (lv_at hl 0 rfl) ?_
      refine lv_iload_n hx hb dX11_billed_27 rfl (lv_at hl 1 rfl) ?_
      refine lv_iload_n hx hb dX11_billed_28 rfl (lv_at hl 2 rfl) ?_
      refine z_callV (As := [.int (iI x), .int (iI y)]) (rest := []) F (c_laysRents h q (uV v 0 0) a x y  (show 0 ≤ x ∧ x < 6 by omega) (show -2147483648 ≤ y ∧ y < 2147483648 by omega) hV hL hT) gX11_billed_X11_laysRents rfl ziX11_laysRents ⟨rfl, rfl, by decide, by decide⟩ rfl hl.1 rfl (Nat.le_of_ble_eq_true rfl) dX11_billed_29 ⟨Nat.zero_le _, Nat.zero_le _⟩ hW hA [0, 1, 2, 3, 4, 5, 6, 7, 8, 9, 10] rfl (by decide) (fun _ => rfl) (fun u => mW cI cJ h q (uV v 0 0) (uA (uA (uA (uA a 16 u.1) 17 u.2.1) 18 u.2.2.1) 19 u.2.2.2)) (fun _ => rfl) (fun u => []) (fun _ => rfl) 0 rfl rfl rfl (fun u H locs hp29 hW => ?_)
      obtain ⟨f16_1, f17_2, f18_3, f19_4⟩ := u
      have hp29 : LD ((a 11)) x y (REV ((a 11)) x + 1) f16_1 f17_2 f18_3 f19_4 := hp29
      have hW : zW G (tyZ cI cJ cO) A s (mW cI cJ h q (uV v 0 0) (uA (uA (uA (uA a 16 f16_1) 17 f17_2) 18 f18_3) 19 f19_4)) H locs := hW
      refine lv_aload_n hx hb dX11_billed_32 rfl (lv_at hl 0 rfl) ?_
      refine lv_iload_n hx hb dX11_billed_33 rfl (lv_at hl 1 rfl) ?_
      refine lv_iload_n hx hb dX11_billed_34 rfl (lv_at hl 2 rfl) ?_
      refine z_callV (As := [.int (iI x), .int (iI y)]) (rest := []) F (c_dueLaid h q (uV v 0 0) (uA (uA (uA (uA a 16 f16_1) 17 f17_2) 18 f18_3) 19 f19_4) x y y (show 0 ≤ x ∧ x < 6 by omega) (show LF ((a 11)) x 0 ≤ y ∧ y ≤ LF ((a 11)) x 0 + 239 by omega) hL (show ∀ r : Int, 0 ≤ r → r ≤ REV ((a 11)) x → f17_2 r = RNT ((a 11)) x y r.toNat by exact fun r r0 r1 => (hp29 r r0 (by omega)).1)) gX11_billed_X11_dueLaid rfl ziX11_dueLaid ⟨rfl, rfl, by decide, by decide⟩ rfl hl.1 rfl (Nat.le_of_ble_eq_true rfl) dX11_billed_35 ⟨Nat.zero_le _, Nat.zero_le _⟩ hW hA [0, 1, 2, 3, 4, 5, 6, 7, 8, 9, 10] rfl (by decide) (fun _ => rfl) (fun _ => mW cI cJ h q (uV v 0 0) (uA (uA (uA (uA a 16 f16_1) 17 f17_2) 18 f18_3) 19 f19_4)) (fun _ => rfl) (fun _ => [.int (iI (DUE ((a 11)) x y y))]) (fun _ => rfl) 0 rfl rfl rfl (fun _ H locs hp35 hW => ?_)
      exact z_iret hx hb hr hlk hW (⟨f16_1, f17_2, f18_3, f19_4⟩) (by unfold A_billed; exact if_pos ⟨c11, by omega⟩) trivial rfl dX11_billed_38
    · refine z_iconst (n := -1) hx hb dX11_billed_24 ?_
      exact z_iret hx hb hr hlk hW (⟨a 16, a 17, a 18, a 19⟩) (by unfold A_billed; exact if_neg (fun q9 => by first | exact c11 q9.1 | (have := q9.2; omega))) trivial rfl dX11_billed_25
theorem hiX11_truedIn_X11 : ∀ w ∈ wsX110, w ∈ wsX11_truedIn := fun _ h => List.mem_cons_of_mem _ (List.mem_append_right _ h)
theorem ziX11_truedIn : yX11_truedIn.cls = RX11 ∧ yX11_truedIn.cls ≠ "java/lang/invoke/MethodHandle" ∧ yX11_truedIn.cls ≠ "java/lang/invoke/VarHandle" ∧ (parseMethodDescriptor yX11_truedIn.desc).map (fun d => d.parameters.length) = some 3 := by decide +kernel
set_option maxHeartbeats 4000000 in
set_option maxRecDepth 100000 in
theorem c_truedIn {l : Launch} {G : va_G} {cI cJ cO : ClassId} (h : Nat) (q : Nat → Nat) (v : Nat → Int) (a : Nat → Int → Int) (x k z : Int)  (hx6 : 0 ≤ x ∧ x < 6) (h2 : 1 ≤ k ∧ k ≤ 239) (h3 : 0 ≤ z ∧ z ≤ 1) (hr1 : 0 ≤ a 11 1 ∧ a 11 1 ≤ 500) (hV : WFv (a 11)) (hL : WFl (a 11) x) (hT : WFt (a 11) x) : zC l yX11_truedIn wsX11_truedIn { frames := 7, cells := 0, slots := 0, locals := 160 } G (tyZ cI cJ cO) (S := (Int → Int) × (Int → Int) × (Int → Int) × (Int → Int) × (Int → Int)) [.ref h, .int (iI x), .int (iI k), .int (iI z)] (mW cI cJ h q v a) (zI (fun _ => if z = 0 then TRUED (a 11) x k else INTED (a 11) x k)) (fun u => True) (fun u => mW cI cJ h q v (uA (uA (uA (uA (uA a 16 u.1) 17 u.2.1) 18 u.2.2.1) 19 u.2.2.2.1) 20 u.2.2.2.2)) 0 0 := by
  refine z_start (cc := cX11_truedIn) (maxL := 11) (ret := (some .int)) (by decide) rfl (Nat.le_of_ble_eq_true rfl) ?_
  intro p e s m below meth c A ls F hr hlk hnm hAe hA hW hl
  have hx := F.1
  have hb := F.2.1
  have hown : s.vm.findClass RX11 = some m.cls := F.2.2.2.1
  have hts := F.2.2.2.2
  have hl : lv_has ls 11 [(0, .ref h), (1, .int (iI x)), (2, .int (iI k)), (3, .int (iI z))] := hl
  obtain ⟨l0, l1, l2, l3, l4, l5, l6, l7, l8, l9, l10, l11, l12, l13, l14, l15⟩ := id hL
  have hE := END_R (k := k) hL
  refine lv_aload_n hx hb dX11_truedIn_0 rfl (lv_at hl 0 rfl) ?_
  refine lv_iload_n hx hb dX11_truedIn_1 rfl (lv_at hl 1 rfl) ?_
  refine z_iconst (n := 0) hx hb dX11_truedIn_2 ?_
  refine z_callV (As := [.int (iI x), .int (iI 0)]) (rest := []) F (c_its h q v a x 0  (show 0 ≤ 483 + 500 * x + 0 ∧ 483 + 500 * x + 0 < 3483 by omega)) gX11_truedIn_X11_its rfl ziX11_its ⟨rfl, rfl, by decide, by decide⟩ rfl hl.1 rfl (Nat.le_of_ble_eq_true rfl) dX11_truedIn_3 ⟨Nat.zero_le _, Nat.zero_le _⟩ hW hA [0, 1, 2, 3, 4, 5, 6, 7, 8, 9, 10] rfl (by decide) (fun _ => rfl) (fun _ => mW cI cJ h q v a) (fun _ => rfl) (fun _ => [.int (iI (LF ((a 11)) x 0))]) (fun _ => rfl) 0 rfl rfl rfl (fun _ H locs hp3 hW => ?_)
  refine lv_istore (lv' := [(4, .int (iI (LF ((a 11)) x 0))), (0, .ref h), (1, .int (iI x)), (2, .int (iI k)), (3, .int (iI z))]) hx hb dX11_truedIn_6 hl (by decide) rfl (fun ls hl => ?_)
  refine z_join1 (fun (x5 : Int) (ls : Array Slot) (H : Heap) (locs : List Loc) => (x5 = AHD (a 11) x k) ∧ zW G (tyZ cI cJ cO) A s (mW cI cJ h q v a) H locs ∧ lv_has ls 11 [(4, .int (iI (LF ((a 11)) x 0))), (0, .ref h), (1, .int (iI x)), (2, .int (iI k)), (3, .int (iI z))]) 28 (fun x5 => [.int (iI x5)]) ?_ ?_
  · intro x5 ls H locs hJ
    obtain ⟨d5, hW, hl⟩ := hJ
    have hA2 : 0 ≤ x5 ∧ x5 ≤ END (a 11) x k ∧ x5 ≤ k := by rw [d5]; unfold AHD; split <;> omega
    refine lv_istore (lv' := [(5, .int (iI x5)), (4, .int (iI (LF ((a 11)) x 0))), (0, .ref h), (1, .int (iI x)), (2, .int (iI k)), (3, .int (iI z))]) hx hb dX11_truedIn_28 hl (by decide) rfl (fun ls hl => ?_)
    refine lv_aload_n hx hb dX11_truedIn_30 rfl (lv_at hl 2 rfl) ?_
    refine lv_iload_n hx hb dX11_truedIn_31 rfl (lv_at hl 3 rfl) ?_
    refine lv_iload_n hx hb dX11_truedIn_32 rfl (lv_at hl 4 rfl) ?_
    refine z_iconst (n := 1) hx hb dX11_truedIn_33 ?_
    refine z_isub hx hb dX11_truedIn_34 ?_
    refine z_callV (As := [.int (iI x), .int (iI (k - 1))]) (rest := []) F (c_laysRents h q v a x (k - 1)  (show 0 ≤ x ∧ x < 6 by omega) (show -2147483648 ≤ (k - 1) ∧ (k - 1) < 2147483648 by omega) hV hL hT) gX11_truedIn_X11_laysRents rfl ziX11_laysRents ⟨rfl, rfl, by decide, by decide⟩ rfl hl.1 rfl (Nat.le_of_ble_eq_true rfl) dX11_truedIn_35 ⟨Nat.zero_le _, Nat.zero_le _⟩ hW hA [0, 1, 2, 3, 4, 5, 6, 7, 8, 9, 10] rfl (by decide) (fun _ => rfl) (fun u => mW cI cJ h q v (uA (uA (uA (uA a 16 u.1) 17 u.2.1) 18 u.2.2.1) 19 u.2.2.2)) (fun _ => rfl) (fun u => []) (fun _ => rfl) 0 rfl rfl rfl (fun u H locs hp35 hW => ?_)
    obtain ⟨f16_1, f17_2, f18_3, f19_4⟩ := u
    have hp35 : LD ((a 11)) x (k - 1) (REV ((a 11)) x + 1) f16_1 f17_2 f18_3 f19_4 := hp35
    have hW : zW G (tyZ cI cJ cO) A s (mW cI cJ h q v (uA (uA (uA (uA a 16 f16_1) 17 f17_2) 18 f18_3) 19 f19_4)) H locs := hW
    refine lv_iload hx hb dX11_truedIn_38 (lv_at hl 1 rfl) ?_
    refine lv_istore (lv' := [(6, .int (iI (LF ((a 11)) x 0))), (5, .int (iI x5)), (4, .int (iI (LF ((a 11)) x 0))), (0, .ref h), (1, .int (iI x)), (2, .int (iI k)), (3, .int (iI z))]) hx hb dX11_truedIn_40 hl (by decide) rfl (fun ls hl => ?_)
    refine z_loop2 (fun (y6 : Int) (f20 : Int → Int) (ls : Array Slot) (H : Heap) (locs : List Loc) => (LF (a 11) x 0 ≤ y6 ∧ y6 ≤ 240 ∧ (LF (a 11) x 0 ≤ x5 → y6 ≤ x5)) ∧ (∀ j : Int, LF (a 11) x 0 ≤ j → j < y6 → f20 (j - LF (a 11) x 0) = DUE (a 11) x (k - 1) j) ∧ zW G (tyZ cI cJ cO) A s (mW cI cJ h q v (uA (uA (uA (uA (uA a 16 f16_1) 17 f17_2) 18 f18_3) 19 f19_4) 20 f20)) H locs ∧ lv_has ls 11 [(6, .int (iI y6)), (5, .int (iI x5)), (4, .int (iI (LF ((a 11)) x 0))), (0, .ref h), (1, .int (iI x)), (2, .int (iI k)), (3, .int (iI z))]) (fun y6 f20 => (x5 - y6).toNat) ?_ (LF ((a 11)) x 0) (a 20) _ _ _ ⟨(by omega), (fun j j1 j2 => by omega), hW, (lv_sub hl [0, 1, 2, 3, 4, 5, 6] rfl)⟩
    intro y6 f20 ls H locs hI ih
    obtain ⟨i1, i2, hW, hl⟩ := hI
    refine lv_iload hx hb dX11_truedIn_42 (lv_at hl 0 rfl) ?_
    refine lv_iload hx hb dX11_truedIn_44 (lv_at hl 1 rfl) ?_
    refine z_icmp_ge (tgt := 72) hx hb dX11_truedIn_46 (by decide) ⟨by omega, by omega⟩ ⟨by omega, by omega⟩ (fun c46 => ?_) (fun c46 => ?_)
    · refine lv_aload_n hx hb dX11_truedIn_72 rfl (lv_at hl 3 rfl) ?_
      refine lv_iload_n hx hb dX11_truedIn_73 rfl (lv_at hl 4 rfl) ?_
      refine lv_iload_n hx hb dX11_truedIn_74 rfl (lv_at hl 5 rfl) ?_
      refine z_callV (As := [.int (iI x), .int (iI k)]) (rest := []) F (c_laysRents h q v (uA (uA (uA (uA (uA a 16 f16_1) 17 f17_2) 18 f18_3) 19 f19_4) 20 f20) x k  (show 0 ≤ x ∧ x < 6 by omega) (show -2147483648 ≤ k ∧ k < 2147483648 by omega) hV hL hT) gX11_truedIn_X11_laysRents rfl ziX11_laysRents ⟨rfl, rfl, by decide, by decide⟩ rfl hl.1 rfl (Nat.le_of_ble_eq_true rfl) dX11_truedIn_75 ⟨Nat.zero_le _, Nat.zero_le _⟩ hW hA [0, 1, 2, 3, 4, 5, 6, 7, 8, 9, 10] rfl (by decide) (fun _ => rfl) (fun u => mW cI cJ h q v (uA (uA (uA (uA (uA a 20 f20) 16 u.1) 17 u.2.1) 18 u.2.2.1) 19 u.2.2.2)) (fun _ => rfl) (fun u => []) (fun _ => rfl) 0 rfl rfl rfl (fun u H locs hp75 hW => ?_)
      obtain ⟨f16_5, f17_6, f18_7, f19_8⟩ := u
      have hp75 : LD ((a 11)) x k (REV ((a 11)) x + 1) f16_5 f17_6 f18_7 f19_8 := hp75
      have hW : zW G (tyZ cI cJ cO) A s (mW cI cJ h q v (uA (uA (uA (uA (uA a 20 f20) 16 f16_5) 17 f17_6) 18 f18_7) 19 f19_8)) H locs := hW
      refine z_lconst (z := 0) hx hb dX11_truedIn_78 (by decide +kernel) ?_
      refine lv_lstore (lv' := [(6, .long (lI 0)), (5, .int (iI x5)), (4, .int (iI (LF ((a 11)) x 0))), (0, .ref h), (1, .int (iI x)), (2, .int (iI k)), (3, .int (iI z))]) hx hb dX11_truedIn_79 hl (by decide) rfl (fun ls hl => ?_)
      refine lv_iload hx hb dX11_truedIn_81 (lv_at hl 2 rfl) ?_
      refine lv_istore (lv' := [(8, .int (iI (LF ((a 11)) x 0))), (6, .long (lI 0)), (5, .int (iI x5)), (4, .int (iI (LF ((a 11)) x 0))), (0, .ref h), (1, .int (iI x)), (2, .int (iI k)), (3, .int (iI z))]) hx hb dX11_truedIn_83 hl (by decide) rfl (fun ls hl => ?_)
      refine z_loop2 (fun (n6 : Int) (y8 : Int) (ls : Array Slot) (H : Heap) (locs : List Loc) => (LF (a 11) x 0 ≤ y8 ∧ y8 ≤ 240 ∧ (LF (a 11) x 0 ≤ x5 → y8 ≤ x5) ∧ (x5 < LF (a 11) x 0 → y8 = LF (a 11) x 0)) ∧ (n6 = SUM (fun j => if z = 0 then TRU (a 11) x k j else INTR (a 11) x k j) (LF (a 11) x 0) (y8 - LF (a 11) x 0).toNat) ∧ zW G (tyZ cI cJ cO) A s (mW cI cJ h q v (uA (uA (uA (uA (uA a 20 f20) 16 f16_5) 17 f17_6) 18 f18_7) 19 f19_8)) H locs ∧ lv_has ls 11 [(8, .int (iI y8)), (6, .long (lI n6)), (5, .int (iI x5)), (4, .int (iI (LF ((a 11)) x 0))), (0, .ref h), (1, .int (iI x)), (2, .int (iI k)), (3, .int (iI z))]) (fun n6 y8 => (x5 - y8).toNat) ?_ 0 (LF ((a 11)) x 0) _ _ _ ⟨(by omega), (by rw [show (LF (a 11) x 0 - LF (a 11) x 0).toNat = 0 by omega]; rfl), hW, (lv_sub hl [0, 1, 2, 3, 4, 5, 6, 7] rfl)⟩
      intro n6 y8 ls H locs hI ih85
      obtain ⟨i3, i4, hW, hl⟩ := hI
      refine lv_iload hx hb dX11_truedIn_85 (lv_at hl 0 rfl) ?_
      refine lv_iload hx hb dX11_truedIn_87 (lv_at hl 2 rfl) ?_
      refine z_icmp_ge (tgt := 153) hx hb dX11_truedIn_89 (by decide) ⟨by omega, by omega⟩ ⟨by omega, by omega⟩ (fun c89 => ?_) (fun c89 => ?_)
      · refine lv_lload hx hb dX11_truedIn_153 (lv_at hl 1 rfl) ?_
        refine z_l2i hx hb dX11_truedIn_155 ?_
        exact z_iret hx hb hr hlk hW (⟨f16_5, f17_6, f18_7, f19_8, f20⟩) (by rw [i4, show (y8 - LF (a 11) x 0).toNat = (AHD (a 11) x k - LF (a 11) x 0).toNat by omega, TRI_eq]; rfl) trivial rfl dX11_truedIn_156
      · have e20 := i2 y8 (by omega) (by omega)
        have dr1 := DUE_R (k := k) (y := y8) hL
        have dr2 := DUE_R (k := k - 1) (y := y8) hL
        refine lv_aload_n hx hb dX11_truedIn_92 rfl (lv_at hl 4 rfl) ?_
        refine lv_iload_n hx hb dX11_truedIn_93 rfl (lv_at hl 5 rfl) ?_
        refine lv_iload hx hb dX11_truedIn_94 (lv_at hl 0 rfl) ?_
        refine z_callV (As := [.int (iI x), .int (iI y8)]) (rest := []) F (c_dueLaid h q v (uA (uA (uA (uA (uA a 20 f20) 16 f16_5) 17 f17_6) 18 f18_7) 19 f19_8) x y8 k (show 0 ≤ x ∧ x < 6 by omega) (show LF ((a 11)) x 0 ≤ y8 ∧ y8 ≤ LF ((a 11)) x 0 + 239 by omega) hL (show ∀ r : Int, 0 ≤ r → r ≤ REV ((a 11)) x → f17_6 r = RNT ((a 11)) x k r.toNat by exact fun r r0 r1 => (hp75 r r0 (by omega)).1)) gX11_truedIn_X11_dueLaid rfl ziX11_dueLaid ⟨rfl, rfl, by decide, by decide⟩ rfl hl.1 rfl (Nat.le_of_ble_eq_true rfl) dX11_truedIn_96 ⟨Nat.zero_le _, Nat.zero_le _⟩ hW hA [0, 1, 2, 3, 4, 5, 6, 7, 8, 9, 10] rfl (by decide) (fun _ => rfl) (fun _ => mW cI cJ h q v (uA (uA (uA (uA (uA a 20 f20) 16 f16_5) 17 f17_6) 18 f18_7) 19 f19_8)) (fun _ => rfl) (fun _ => [.int (iI (DUE ((a 11)) x k y8))]) (fun _ => rfl) 0 rfl rfl rfl (fun _ H locs hp96 hW => ?_)
        refine lv_aload_n hx hb dX11_truedIn_99 rfl (lv_at hl 4 rfl) ?_
        refine z_get (v := .ref (q 20)) hx hb hts hiX11_truedIn_X11 hown hW 0 20 1 rfl rfl rfl (by decide) rfl dX11_truedIn_100 ?_
        refine lv_iload hx hb dX11_truedIn_103 (lv_at hl 0 rfl) ?_
        refine lv_iload hx hb dX11_truedIn_105 (lv_at hl 3 rfl) ?_
        refine z_isub hx hb dX11_truedIn_107 ?_
        refine z_iald (f := f20) (i := y8 - (LF ((a 11)) x 0)) hx hb hW 9 0 rfl rfl (by decide) ⟨by omega, by omega⟩ dX11_truedIn_108 ?_
        refine z_isub hx hb dX11_truedIn_109 ?_
        refine z_i2l hx hb dX11_truedIn_110 ⟨by omega, by omega⟩ ?_
        refine lv_lstore (lv' := [(9, .long (lI ((DUE ((a 11)) x k y8) - (f20 (y8 - (LF ((a 11)) x 0)))))), (8, .int (iI y8)), (6, .long (lI n6)), (5, .int (iI x5)), (4, .int (iI (LF ((a 11)) x 0))), (0, .ref h), (1, .int (iI x)), (2, .int (iI k)), (3, .int (iI z))]) hx hb dX11_truedIn_111 hl (by decide) rfl (fun ls hl => ?_)
        refine lv_lload hx hb dX11_truedIn_113 (lv_at hl 2 rfl) ?_
        refine lv_iload_n hx hb dX11_truedIn_115 rfl (lv_at hl 8 rfl) ?_
        refine z_if_eq (tgt := 142) hx hb dX11_truedIn_116 (by decide) ⟨by omega, by omega⟩ (fun c116 => ?_) (fun c116 => ?_)
        · refine lv_lload hx hb dX11_truedIn_142 (lv_at hl 0 rfl) ?_
          refine z_ladd hx hb dX11_truedIn_144 ?_
          refine lv_lstore (lv' := [(6, .long (lI (n6 + ((DUE ((a 11)) x k y8) - (f20 (y8 - (LF ((a 11)) x 0))))))), (9, .long (lI ((DUE ((a 11)) x k y8) - (f20 (y8 - (LF ((a 11)) x 0)))))), (8, .int (iI y8)), (5, .int (iI x5)), (4, .int (iI (LF ((a 11)) x 0))), (0, .ref h), (1, .int (iI x)), (2, .int (iI k)), (3, .int (iI z))]) hx hb dX11_truedIn_145 hl (by decide) rfl (fun ls hl => ?_)
          refine z_iinc (k := 2) (lv' := [(8, .int (iI (y8 + 1))), (6, .long (lI (n6 + ((DUE ((a 11)) x k y8) - (f20 (y8 - (LF ((a 11)) x 0))))))), (9, .long (lI ((DUE ((a 11)) x k y8) - (f20 (y8 - (LF ((a 11)) x 0)))))), (5, .int (iI x5)), (4, .int (iI (LF ((a 11)) x 0))), (0, .ref h), (1, .int (iI x)), (2, .int (iI k)), (3, .int (iI z))]) hx hb dX11_truedIn_147 hl rfl (by decide) rfl (fun ls hl => ?_)
          refine lv_goto (tgt := 85) hx hb dX11_truedIn_150 (by decide) ?_
          exact ih85 (n6 + ((DUE ((a 11)) x k y8) - (f20 (y8 - (LF ((a 11)) x 0))))) (y8 + 1) _ _ _ ⟨(by omega), (by rw [SUM_succ (by omega), ← i4]; first | (rw [if_pos c116]; unfold TRU; rw [e20]; done) | (rw [if_neg c116]; unfold INTR TRU; rw [e20]; done)), hW, (lv_sub hl [0, 1, 3, 4, 5, 6, 7, 8] rfl)⟩ (by omega)
        · have m1 := mul_R (p := DUE (a 11) x k y8 - f20 (y8 - LF (a 11) x 0)) (q := a 11 1) (P := 999999) (Q := 500) (by omega) (by omega)
          have m2 := mul_R (p := (DUE (a 11) x k y8 - f20 (y8 - LF (a 11) x 0)) * a 11 1) (q := k - y8) (P := 999999 * 500) (Q := 239) (by omega) (by omega)
          refine lv_lload hx hb dX11_truedIn_119 (lv_at hl 0 rfl) ?_
          refine lv_aload_n hx hb dX11_truedIn_121 rfl (lv_at hl 5 rfl) ?_
          refine z_get (v := .ref (q 11)) hx hb hts hiX11_truedIn_X11 hown hW 0 11 2 rfl rfl rfl (by decide) rfl dX11_truedIn_122 ?_
          refine z_iconst (n := 1) hx hb dX11_truedIn_125 ?_
          refine z_iald (f := a 11) (i := 1) hx hb hW 2 0 rfl rfl (by decide) ⟨by omega, by omega⟩ dX11_truedIn_126 ?_
          refine z_i2l hx hb dX11_truedIn_127 ⟨by omega, by omega⟩ ?_
          refine z_lmul hx hb dX11_truedIn_128 ?_
          refine lv_iload_n hx hb dX11_truedIn_129 rfl (lv_at hl 7 rfl) ?_
          refine lv_iload hx hb dX11_truedIn_130 (lv_at hl 1 rfl) ?_
          refine z_isub hx hb dX11_truedIn_132 ?_
          refine z_i2l hx hb dX11_truedIn_133 ⟨by omega, by omega⟩ ?_
          refine z_lmul hx hb dX11_truedIn_134 ?_
          refine z_ldc2 hx hb (12000) hown (hts _ (List.mem_of_getElem? (i := 3) rfl)) (by decide +kernel) dX11_truedIn_135 ?_
          refine z_ldiv hx hb dX11_truedIn_138 ⟨by omega, by omega⟩ (by decide) (by decide) (by omega) ?_
          refine lv_goto (tgt := 144) hx hb dX11_truedIn_139 (by decide) ?_
          refine z_ladd hx hb dX11_truedIn_144 ?_
          refine lv_lstore (lv' := [(6, .long (lI (n6 + (((((DUE ((a 11)) x k y8) - (f20 (y8 - (LF ((a 11)) x 0)))) * ((a 11) 1)) * (k - y8)).tdiv 12000)))), (9, .long (lI ((DUE ((a 11)) x k y8) - (f20 (y8 - (LF ((a 11)) x 0)))))), (8, .int (iI y8)), (5, .int (iI x5)), (4, .int (iI (LF ((a 11)) x 0))), (0, .ref h), (1, .int (iI x)), (2, .int (iI k)), (3, .int (iI z))]) hx hb dX11_truedIn_145 hl (by decide) rfl (fun ls hl => ?_)
          refine z_iinc (k := 2) (lv' := [(8, .int (iI (y8 + 1))), (6, .long (lI (n6 + (((((DUE ((a 11)) x k y8) - (f20 (y8 - (LF ((a 11)) x 0)))) * ((a 11) 1)) * (k - y8)).tdiv 12000)))), (9, .long (lI ((DUE ((a 11)) x k y8) - (f20 (y8 - (LF ((a 11)) x 0)))))), (5, .int (iI x5)), (4, .int (iI (LF ((a 11)) x 0))), (0, .ref h), (1, .int (iI x)), (2, .int (iI k)), (3, .int (iI z))]) hx hb dX11_truedIn_147 hl rfl (by decide) rfl (fun ls hl => ?_)
          refine lv_goto (tgt := 85) hx hb dX11_truedIn_150 (by decide) ?_
          exact ih85 (n6 + (((((DUE ((a 11)) x k y8) - (f20 (y8 - (LF ((a 11)) x 0)))) * ((a 11) 1)) * (k - y8)).tdiv 12000)) (y8 + 1) _ _ _ ⟨(by omega), (by rw [SUM_succ (by omega), ← i4]; first | (rw [if_pos c116]; unfold TRU; rw [e20]; done) | (rw [if_neg c116]; unfold INTR TRU; rw [e20]; done)), hW, (lv_sub hl [0, 1, 3, 4, 5, 6, 7, 8] rfl)⟩ (by omega)
    · refine lv_aload_n hx hb dX11_truedIn_49 rfl (lv_at hl 3 rfl) ?_
      refine z_get (v := .ref (q 20)) hx hb hts hiX11_truedIn_X11 hown hW 0 20 1 rfl rfl rfl (by decide) rfl dX11_truedIn_50 ?_
      refine lv_iload hx hb dX11_truedIn_53 (lv_at hl 0 rfl) ?_
      refine lv_iload hx hb dX11_truedIn_55 (lv_at hl 2 rfl) ?_
      refine z_isub hx hb dX11_truedIn_57 ?_
      refine lv_aload_n hx hb dX11_truedIn_58 rfl (lv_at hl 3 rfl) ?_
      refine lv_iload_n hx hb dX11_truedIn_59 rfl (lv_at hl 4 rfl) ?_
      refine lv_iload hx hb dX11_truedIn_60 (lv_at hl 0 rfl) ?_
      refine z_callV (As := [.int (iI x), .int (iI y6)]) (rest := [.int (iI (y6 - (LF ((a 11)) x 0))), .ref (q 20)]) F (c_dueLaid h q v (uA (uA (uA (uA (uA a 16 f16_1) 17 f17_2) 18 f18_3) 19 f19_4) 20 f20) x y6 (k - 1) (show 0 ≤ x ∧ x < 6 by omega) (show LF ((a 11)) x 0 ≤ y6 ∧ y6 ≤ LF ((a 11)) x 0 + 239 by omega) hL (show ∀ r : Int, 0 ≤ r → r ≤ REV ((a 11)) x → f17_2 r = RNT ((a 11)) x (k - 1) r.toNat by exact fun r r0 r1 => (hp35 r r0 (by omega)).1)) gX11_truedIn_X11_dueLaid rfl ziX11_dueLaid ⟨rfl, rfl, by decide, by decide⟩ rfl hl.1 rfl (Nat.le_of_ble_eq_true rfl) dX11_truedIn_62 ⟨Nat.zero_le _, Nat.zero_le _⟩ hW hA [0, 1, 2, 3, 4, 5, 6, 7, 8, 9, 10] rfl (by decide) (fun _ => rfl) (fun _ => mW cI cJ h q v (uA (uA (uA (uA (uA a 16 f16_1) 17 f17_2) 18 f18_3) 19 f19_4) 20 f20)) (fun _ => rfl) (fun _ => [.int (iI (DUE ((a 11)) x (k - 1) y6)), .int (iI (y6 - (LF ((a 11)) x 0))), .ref (q 20)]) (fun _ => rfl) 0 rfl rfl rfl (fun _ H locs hp62 hW => ?_)
      refine z_iast (f := f20) (i := y6 - (LF ((a 11)) x 0)) (z := DUE ((a 11)) x (k - 1) y6) hx hb hW 9 0 rfl rfl (by decide) ⟨by omega, by omega⟩ dX11_truedIn_65 (fun H locs hW => ?_)
      have hW : zW G (tyZ cI cJ cO) A s (mW cI cJ h q v (uA (uA (uA (uA (uA a 16 f16_1) 17 f17_2) 18 f18_3) 19 f19_4) 20 (uI f20 (y6 - (LF ((a 11)) x 0)) (DUE ((a 11)) x (k - 1) y6)))) H locs := hW
      refine z_iinc (k := 0) (lv' := [(6, .int (iI (y6 + 1))), (5, .int (iI x5)), (4, .int (iI (LF ((a 11)) x 0))), (0, .ref h), (1, .int (iI x)), (2, .int (iI k)), (3, .int (iI z))]) hx hb dX11_truedIn_66 hl rfl (by decide) rfl (fun ls hl => ?_)
      refine lv_goto (tgt := 42) hx hb dX11_truedIn_69 (by decide) ?_
      exact ih (y6 + 1) (uI f20 (y6 - (LF ((a 11)) x 0)) (DUE ((a 11)) x (k - 1) y6)) _ _ _ ⟨(by omega), (fun j j1 j2 => by by_cases je : j = y6; (subst je; exact uI_s); (rw [uI_n (by omega)]; exact i2 j j1 (by omega))), hW, (lv_sub hl [0, 1, 2, 3, 4, 5, 6] rfl)⟩ (by omega)
  · intro J9
    refine lv_aload_n hx hb dX11_truedIn_8 rfl (lv_at hl 1 rfl) ?_
    refine lv_iload_n hx hb dX11_truedIn_9 rfl (lv_at hl 2 rfl) ?_
    refine lv_iload_n hx hb dX11_truedIn_10 rfl (lv_at hl 3 rfl) ?_
    refine z_callV (As := [.int (iI x), .int (iI k)]) (rest := []) F (c_endOf h q v a x k  (show 0 ≤ x ∧ x < 6 by omega) (show -2147483648 ≤ k ∧ k < 2147483648 by omega) (show 0 ≤ LF ((a 11)) x 13 ∧ LF ((a 11)) x 13 ≤ 240 by omega)) gX11_truedIn_X11_endOf rfl ziX11_endOf ⟨rfl, rfl, by decide, by decide⟩ rfl hl.1 rfl (Nat.le_of_ble_eq_true rfl) dX11_truedIn_11 ⟨Nat.zero_le _, Nat.zero_le _⟩ hW hA [0, 1, 2, 3, 4, 5, 6, 7, 8, 9, 10] rfl (by decide) (fun _ => rfl) (fun _ => mW cI cJ h q v a) (fun _ => rfl) (fun _ => [.int (iI (END ((a 11)) x k))]) (fun _ => rfl) 0 rfl rfl rfl (fun _ H locs hp11 hW => ?_)
    refine lv_iload_n hx hb dX11_truedIn_14 rfl (lv_at hl 3 rfl) ?_
    refine z_icmp_ge (tgt := 27) hx hb dX11_truedIn_15 (by decide) ⟨by omega, by omega⟩ ⟨by omega, by omega⟩ (fun c15 => ?_) (fun c15 => ?_)
    · refine lv_iload_n hx hb dX11_truedIn_27 rfl (lv_at hl 3 rfl) ?_
      exact J9 k _ _ _ ⟨(by unfold AHD; first | exact (if_pos (by omega)).symm | exact (if_neg (by omega)).symm), hW, (lv_sub hl [0, 1, 2, 3, 4] rfl)⟩
    · refine lv_aload_n hx hb dX11_truedIn_18 rfl (lv_at hl 1 rfl) ?_
      refine lv_iload_n hx hb dX11_truedIn_19 rfl (lv_at hl 2 rfl) ?_
      refine lv_iload_n hx hb dX11_truedIn_20 rfl (lv_at hl 3 rfl) ?_
      refine z_callV (As := [.int (iI x), .int (iI k)]) (rest := []) F (c_endOf h q v a x k  (show 0 ≤ x ∧ x < 6 by omega) (show -2147483648 ≤ k ∧ k < 2147483648 by omega) (show 0 ≤ LF ((a 11)) x 13 ∧ LF ((a 11)) x 13 ≤ 240 by omega)) gX11_truedIn_X11_endOf rfl ziX11_endOf ⟨rfl, rfl, by decide, by decide⟩ rfl hl.1 rfl (Nat.le_of_ble_eq_true rfl) dX11_truedIn_21 ⟨Nat.zero_le _, Nat.zero_le _⟩ hW hA [0, 1, 2, 3, 4, 5, 6, 7, 8, 9, 10] rfl (by decide) (fun _ => rfl) (fun _ => mW cI cJ h q v a) (fun _ => rfl) (fun _ => [.int (iI (END ((a 11)) x k))]) (fun _ => rfl) 0 rfl rfl rfl (fun _ H locs hp21 hW => ?_)
      refine lv_goto (tgt := 28) hx hb dX11_truedIn_24 (by decide) ?_
      exact J9 (END ((a 11)) x k) _ _ _ ⟨(by unfold AHD; first | exact (if_pos (by omega)).symm | exact (if_neg (by omega)).symm), hW, (lv_sub hl [0, 1, 2, 3, 4] rfl)⟩
theorem hiX11_trued_X11 : ∀ w ∈ wsX110, w ∈ wsX11_trued := fun _ h => List.mem_cons_of_mem _ (List.mem_append_right _ h)
theorem ziX11_trued : yX11_trued.cls = RX11 ∧ yX11_trued.cls ≠ "java/lang/invoke/MethodHandle" ∧ yX11_trued.cls ≠ "java/lang/invoke/VarHandle" ∧ (parseMethodDescriptor yX11_trued.desc).map (fun d => d.parameters.length) = some 2 := by decide +kernel
set_option maxHeartbeats 4000000 in
set_option maxRecDepth 100000 in
theorem c_trued {l : Launch} {G : va_G} {cI cJ cO : ClassId} (h : Nat) (q : Nat → Nat) (v : Nat → Int) (a : Nat → Int → Int) (x k : Int)  (h1 : -2147483648 ≤ x ∧ x < 2147483648) (h2 : -2147483648 ≤ k ∧ k < 2147483648) (hWF : WF (a 11)) : zC l yX11_trued wsX11_trued { frames := 8, cells := 0, slots := 0, locals := 190 } G (tyZ cI cJ cO) (S := (Int → Int) × (Int → Int) × (Int → Int) × (Int → Int) × (Int → Int)) [.ref h, .int (iI x), .int (iI k)] (mW cI cJ h q v a) (zI (fun _ => A_trued (a 11) x k)) (fun u => True) (fun u => mW cI cJ h q (uV v 0 0) (uA (uA (uA (uA (uA a 16 u.1) 17 u.2.1) 18 u.2.2.1) 19 u.2.2.2.1) 20 u.2.2.2.2)) 0 0 := by
  refine z_start (cc := cX11_trued) (maxL := 3) (ret := (some .int)) (by decide) rfl (Nat.le_of_ble_eq_true rfl) ?_
  intro p e s m below meth c A ls F hr hlk hnm hAe hA hW hl
  have hx := F.1
  have hb := F.2.1
  have hown : s.vm.findClass RX11 = some m.cls := F.2.2.2.1
  have hts := F.2.2.2.2
  have hl : lv_has ls 3 [(0, .ref h), (1, .int (iI x)), (2, .int (iI k))] := hl
  obtain ⟨w0, w1, w2, hV, hls⟩ := id hWF
  refine lv_aload_n hx hb dX11_trued_0 rfl (lv_at hl 0 rfl) ?_
  refine z_iconst (n := 0) hx hb dX11_trued_1 ?_
  refine z_put hx hb hts hiX11_trued_X11 tyX11 tyX11_ok nmX11 hown hW 0 0 1 rfl rfl (by decide) (Nat.le_of_ble_eq_true rfl) rfl rfl rfl rfl dX11_trued_2 (fun H locs hW => ?_)
  have hW : zW G (tyZ cI cJ cO) A s (mW cI cJ h q (uV v 0 0) a) H locs := hW
  refine lv_aload_n hx hb dX11_trued_5 rfl (lv_at hl 0 rfl) ?_
  refine lv_iload_n hx hb dX11_trued_6 rfl (lv_at hl 1 rfl) ?_
  refine z_callV (As := [.int (iI x)]) (rest := []) F (c_isLease h q (uV v 0 0) a x  (show -2147483648 ≤ x ∧ x < 2147483648 by omega) (show 0 ≤ (a 11) 2 ∧ (a 11) 2 ≤ 6 by omega)) gX11_trued_X11_isLease rfl ziX11_isLease ⟨rfl, rfl, by decide, by decide⟩ rfl hl.1 rfl (Nat.le_of_ble_eq_true rfl) dX11_trued_7 ⟨Nat.zero_le _, Nat.zero_le _⟩ hW hA [0, 1, 2, 3, 4, 5, 6, 7, 8, 9, 10] rfl (by decide) (fun _ => rfl) (fun _ => mW cI cJ h q (uV v 0 0) a) (fun _ => rfl) (fun _ => [.int (iI (bI (0 ≤ x ∧ x ≤ (a 11) 2 - 1)))]) (fun _ => rfl) 0 rfl rfl rfl (fun _ H locs hp7 hW => ?_)
  refine z_b_eq (tgt := 34) hx hb dX11_trued_10 (by decide) (fun c10 => ?_) (fun c10 => ?_)
  · refine z_ldc hx hb (-100000000) hown (hts _ (List.mem_of_getElem? (i := 2) rfl)) (by decide +kernel) dX11_trued_34 ?_
    exact z_iret hx hb hr hlk hW (⟨a 16, a 17, a 18, a 19, a 20⟩) (by unfold A_trued; exact if_neg (fun q9 => by first | exact c10 q9.1 | exact c21 q9.2)) trivial rfl dX11_trued_36
  · obtain ⟨hL, hT⟩ := hls x (by omega) (by omega)
    obtain ⟨l0, l1, l2, l3, l4, l5, l6, l7, l8, l9, l10, l11, l12, l13, l14, l15⟩ := id hL
    refine lv_iload_n hx hb dX11_trued_13 rfl (lv_at hl 2 rfl) ?_
    refine z_iconst (n := 1) hx hb dX11_trued_14 ?_
    refine z_sipush hx hb dX11_trued_15 (by decide +kernel) ?_
    refine z_callS (As := [.int (iI k), .int (iI 1), .int (iI 239)]) (rest := []) F (c_isIn k 1 239  (show -2147483648 ≤ k ∧ k < 2147483648 by omega) (show -2147483648 ≤ 1 ∧ 1 < 2147483648 by omega) (show -2147483648 ≤ 239 ∧ 239 < 2147483648 by omega)) gX11_trued_X11_isIn rfl ziX11_isIn ⟨rfl, rfl, by decide, by decide⟩ rfl hl.1 rfl (Nat.le_of_ble_eq_true rfl) dX11_trued_18 ⟨Nat.zero_le _, Nat.zero_le _⟩ hW hA [] rfl (by decide) (fun _ => rfl) (fun _ => mW cI cJ h q (uV v 0 0) a) (fun _ => rfl) (fun _ => [.int (iI (bI (1 ≤ k ∧ k ≤ 239)))]) (fun _ => rfl) (fun _ H locs hp18 hW => ?_)
    refine z_b_eq (tgt := 34) hx hb dX11_trued_21 (by decide) (fun c21 => ?_) (fun c21 => ?_)
    · refine z_ldc hx hb (-100000000) hown (hts _ (List.mem_of_getElem? (i := 2) rfl)) (by decide +kernel) dX11_trued_34 ?_
      exact z_iret hx hb hr hlk hW (⟨a 16, a 17, a 18, a 19, a 20⟩) (by unfold A_trued; exact if_neg (fun q9 => by first | exact c10 q9.1 | exact c21 q9.2)) trivial rfl dX11_trued_36
    · refine lv_aload_n hx hb dX11_trued_24 rfl (lv_at hl 0 rfl) ?_
      refine lv_iload_n hx hb dX11_trued_25 rfl (lv_at hl 1 rfl) ?_
      refine lv_iload_n hx hb dX11_trued_26 rfl (lv_at hl 2 rfl) ?_
      refine z_iconst (n := 0) hx hb dX11_trued_27 ?_
      refine z_callV (As := [.int (iI x), .int (iI k), .int (iI 0)]) (rest := []) F (c_truedIn h q (uV v 0 0) a x k 0  (show 0 ≤ x ∧ x < 6 by omega) (show 1 ≤ k ∧ k ≤ 239 by omega) (show 0 ≤ 0 ∧ 0 ≤ 1 by omega) w1 hV hL hT) gX11_trued_X11_truedIn rfl ziX11_truedIn ⟨rfl, rfl, by decide, by decide⟩ rfl hl.1 rfl (Nat.le_of_ble_eq_true rfl) dX11_trued_28 ⟨Nat.zero_le _, Nat.zero_le _⟩ hW hA [0, 1, 2, 3, 4, 5, 6, 7, 8, 9, 10] rfl (by decide) (fun _ => rfl) (fun u => mW cI cJ h q (uV v 0 0) (uA (uA (uA (uA (uA a 16 u.1) 17 u.2.1) 18 u.2.2.1) 19 u.2.2.2.1) 20 u.2.2.2.2)) (fun _ => rfl) (fun u => [.int (iI (if 0 = 0 then TRUED ((a 11)) x k else INTED ((a 11)) x k))]) (fun _ => rfl) 0 rfl rfl rfl (fun u H locs hp28 hW => ?_)
      obtain ⟨f16_1, f17_2, f18_3, f19_4, f20_5⟩ := u
      have hp28 : True := hp28
      have hW : zW G (tyZ cI cJ cO) A s (mW cI cJ h q (uV v 0 0) (uA (uA (uA (uA (uA a 16 f16_1) 17 f17_2) 18 f18_3) 19 f19_4) 20 f20_5)) H locs := hW
      refine lv_goto (tgt := 36) hx hb dX11_trued_31 (by decide) ?_
      exact z_iret hx hb hr hlk hW (⟨f16_1, f17_2, f18_3, f19_4, f20_5⟩) (by unfold A_trued; rw [if_pos ⟨c10, c21⟩]; rfl) trivial rfl dX11_trued_36
theorem hiX11_interest_X11 : ∀ w ∈ wsX110, w ∈ wsX11_interest := fun _ h => List.mem_cons_of_mem _ (List.mem_append_right _ h)
theorem ziX11_interest : yX11_interest.cls = RX11 ∧ yX11_interest.cls ≠ "java/lang/invoke/MethodHandle" ∧ yX11_interest.cls ≠ "java/lang/invoke/VarHandle" ∧ (parseMethodDescriptor yX11_interest.desc).map (fun d => d.parameters.length) = some 2 := by decide +kernel
set_option maxHeartbeats 4000000 in
set_option maxRecDepth 100000 in
theorem c_interest {l : Launch} {G : va_G} {cI cJ cO : ClassId} (h : Nat) (q : Nat → Nat) (v : Nat → Int) (a : Nat → Int → Int) (x k : Int)  (h1 : -2147483648 ≤ x ∧ x < 2147483648) (h2 : -2147483648 ≤ k ∧ k < 2147483648) (hWF : WF (a 11)) : zC l yX11_interest wsX11_interest { frames := 8, cells := 0, slots := 0, locals := 190 } G (tyZ cI cJ cO) (S := (Int → Int) × (Int → Int) × (Int → Int) × (Int → Int) × (Int → Int)) [.ref h, .int (iI x), .int (iI k)] (mW cI cJ h q v a) (zI (fun _ => A_inted (a 11) x k)) (fun u => True) (fun u => mW cI cJ h q (uV v 0 0) (uA (uA (uA (uA (uA a 16 u.1) 17 u.2.1) 18 u.2.2.1) 19 u.2.2.2.1) 20 u.2.2.2.2)) 0 0 := by
  refine z_start (cc := cX11_interest) (maxL := 3) (ret := (some .int)) (by decide) rfl (Nat.le_of_ble_eq_true rfl) ?_
  intro p e s m below meth c A ls F hr hlk hnm hAe hA hW hl
  have hx := F.1
  have hb := F.2.1
  have hown : s.vm.findClass RX11 = some m.cls := F.2.2.2.1
  have hts := F.2.2.2.2
  have hl : lv_has ls 3 [(0, .ref h), (1, .int (iI x)), (2, .int (iI k))] := hl
  obtain ⟨w0, w1, w2, hV, hls⟩ := id hWF
  refine lv_aload_n hx hb dX11_interest_0 rfl (lv_at hl 0 rfl) ?_
  refine z_iconst (n := 0) hx hb dX11_interest_1 ?_
  refine z_put hx hb hts hiX11_interest_X11 tyX11 tyX11_ok nmX11 hown hW 0 0 1 rfl rfl (by decide) (Nat.le_of_ble_eq_true rfl) rfl rfl rfl rfl dX11_interest_2 (fun H locs hW => ?_)
  have hW : zW G (tyZ cI cJ cO) A s (mW cI cJ h q (uV v 0 0) a) H locs := hW
  refine lv_aload_n hx hb dX11_interest_5 rfl (lv_at hl 0 rfl) ?_
  refine lv_iload_n hx hb dX11_interest_6 rfl (lv_at hl 1 rfl) ?_
  refine z_callV (As := [.int (iI x)]) (rest := []) F (c_isLease h q (uV v 0 0) a x  (show -2147483648 ≤ x ∧ x < 2147483648 by omega) (show 0 ≤ (a 11) 2 ∧ (a 11) 2 ≤ 6 by omega)) gX11_interest_X11_isLease rfl ziX11_isLease ⟨rfl, rfl, by decide, by decide⟩ rfl hl.1 rfl (Nat.le_of_ble_eq_true rfl) dX11_interest_7 ⟨Nat.zero_le _, Nat.zero_le _⟩ hW hA [0, 1, 2, 3, 4, 5, 6, 7, 8, 9, 10] rfl (by decide) (fun _ => rfl) (fun _ => mW cI cJ h q (uV v 0 0) a) (fun _ => rfl) (fun _ => [.int (iI (bI (0 ≤ x ∧ x ≤ (a 11) 2 - 1)))]) (fun _ => rfl) 0 rfl rfl rfl (fun _ H locs hp7 hW => ?_)
  refine z_b_eq (tgt := 34) hx hb dX11_interest_10 (by decide) (fun c10 => ?_) (fun c10 => ?_)
  · refine z_ldc hx hb (-100000000) hown (hts _ (List.mem_of_getElem? (i := 2) rfl)) (by decide +kernel) dX11_interest_34 ?_
    exact z_iret hx hb hr hlk hW (⟨a 16, a 17, a 18, a 19, a 20⟩) (by unfold A_inted; exact if_neg (fun q9 => by first | exact c10 q9.1 | exact c21 q9.2)) trivial rfl dX11_interest_36
  · obtain ⟨hL, hT⟩ := hls x (by omega) (by omega)
    obtain ⟨l0, l1, l2, l3, l4, l5, l6, l7, l8, l9, l10, l11, l12, l13, l14, l15⟩ := id hL
    refine lv_iload_n hx hb dX11_interest_13 rfl (lv_at hl 2 rfl) ?_
    refine z_iconst (n := 1) hx hb dX11_interest_14 ?_
    refine z_sipush hx hb dX11_interest_15 (by decide +kernel) ?_
    refine z_callS (As := [.int (iI k), .int (iI 1), .int (iI 239)]) (rest := []) F (c_isIn k 1 239  (show -2147483648 ≤ k ∧ k < 2147483648 by omega) (show -2147483648 ≤ 1 ∧ 1 < 2147483648 by omega) (show -2147483648 ≤ 239 ∧ 239 < 2147483648 by omega)) gX11_interest_X11_isIn rfl ziX11_isIn ⟨rfl, rfl, by decide, by decide⟩ rfl hl.1 rfl (Nat.le_of_ble_eq_true rfl) dX11_interest_18 ⟨Nat.zero_le _, Nat.zero_le _⟩ hW hA [] rfl (by decide) (fun _ => rfl) (fun _ => mW cI cJ h q (uV v 0 0) a) (fun _ => rfl) (fun _ => [.int (iI (bI (1 ≤ k ∧ k ≤ 239)))]) (fun _ => rfl) (fun _ H locs hp18 hW => ?_)
    refine z_b_eq (tgt := 34) hx hb dX11_interest_21 (by decide) (fun c21 => ?_) (fun c21 => ?_)
    · refine z_ldc hx hb (-100000000) hown (hts _ (List.mem_of_getElem? (i := 2) rfl)) (by decide +kernel) dX11_interest_34 ?_
      exact z_iret hx hb hr hlk hW (⟨a 16, a 17, a 18, a 19, a 20⟩) (by unfold A_inted; exact if_neg (fun q9 => by first | exact c10 q9.1 | exact c21 q9.2)) trivial rfl dX11_interest_36
    · refine lv_aload_n hx hb dX11_interest_24 rfl (lv_at hl 0 rfl) ?_
      refine lv_iload_n hx hb dX11_interest_25 rfl (lv_at hl 1 rfl) ?_
      refine lv_iload_n hx hb dX11_interest_26 rfl (lv_at hl 2 rfl) ?_
      refine z_iconst (n := 1) hx hb dX11_interest_27 ?_
      refine z_callV (As := [.int (iI x), .int (iI k), .int (iI 1)]) (rest := []) F (c_truedIn h q (uV v 0 0) a x k 1  (show 0 ≤ x ∧ x < 6 by omega) (show 1 ≤ k ∧ k ≤ 239 by omega) (show 0 ≤ 1 ∧ 1 ≤ 1 by omega) w1 hV hL hT) gX11_interest_X11_truedIn rfl ziX11_truedIn ⟨rfl, rfl, by decide, by decide⟩ rfl hl.1 rfl (Nat.le_of_ble_eq_true rfl) dX11_interest_28 ⟨Nat.zero_le _, Nat.zero_le _⟩ hW hA [0, 1, 2, 3, 4, 5, 6, 7, 8, 9, 10] rfl (by decide) (fun _ => rfl) (fun u => mW cI cJ h q (uV v 0 0) (uA (uA (uA (uA (uA a 16 u.1) 17 u.2.1) 18 u.2.2.1) 19 u.2.2.2.1) 20 u.2.2.2.2)) (fun _ => rfl) (fun u => [.int (iI (if 1 = 0 then TRUED ((a 11)) x k else INTED ((a 11)) x k))]) (fun _ => rfl) 0 rfl rfl rfl (fun u H locs hp28 hW => ?_)
      obtain ⟨f16_1, f17_2, f18_3, f19_4, f20_5⟩ := u
      have hp28 : True := hp28
      have hW : zW G (tyZ cI cJ cO) A s (mW cI cJ h q (uV v 0 0) (uA (uA (uA (uA (uA a 16 f16_1) 17 f17_2) 18 f18_3) 19 f19_4) 20 f20_5)) H locs := hW
      refine lv_goto (tgt := 36) hx hb dX11_interest_31 (by decide) ?_
      exact z_iret hx hb hr hlk hW (⟨f16_1, f17_2, f18_3, f19_4, f20_5⟩) (by unfold A_inted; rw [if_pos ⟨c10, c21⟩]; rfl) trivial rfl dX11_interest_36
