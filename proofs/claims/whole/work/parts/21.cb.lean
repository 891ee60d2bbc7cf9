/-! the class: the index's row, the walk -/
def mk6 (d1 d2 d3 d4 d5 d6 : Int) : Nat → Int := fun k => match k with
  | 1 => d1
  | 2 => d2
  | 3 => d3
  | 4 => d4
  | 5 => d5
  | 6 => d6
  | _ => 0
def IX0 (N : Int → Int) (k j : Int) : Int := if IDX N j k = -1 then 0 else IDX N j k
def LVf (N : Int → Int) (x : Int) : Nat → Int := fun k => match k with
  | 4 => LF N x 0
  | 5 => LF N x 1
  | 6 => LF N x 2
  | 7 => LF N x 3
  | 8 => LF N x 4
  | 9 => LF N x 5
  | 10 => LF N x 6
  | 11 => bI (zand (LF N x 7) 8 ≠ 0)
  | 12 => if zand (LF N x 7) 16 ≠ 0 then LF N x 12 else -1
  | 13 => if 0 < LF N x 13 then LF N x 13 - 1 else 240
  | 20 => bI (zand (LF N x 7) 2 ≠ 0)
  | 21 => LF N x 8
  | 22 => LF N x 9
  | 30 => bI (zand (LF N x 7) 4 ≠ 0)
  | 31 => LF N x 10
  | 32 => LF N x 11
  | _ => 0
/-- what calls have told of a lease, in the class's rows -/
def TR (N : Int → Int) (x : Int) (a : Nat → Int → Int) : Prop := ∀ i : Int, 0 ≤ i → i < 120 →
  (LF N x 5 = 2 → (a 3 i = if 0 < LF N x (20 + i) then LF N x (140 + i) else 240) ∧ (0 < LF N x (20 + i) → a 2 i = LF N x (20 + i))) ∧
  (LF N x 5 = 3 → (a 3 i = if 0 < LF N x (260 + i) then LF N x (380 + i) else 240) ∧ (0 < LF N x (260 + i) → a 2 i = LF N x (260 + i) - 1)) ∧
  (0 ≤ a 3 i ∧ a 3 i ≤ 240) ∧ (0 ≤ a 2 i ∧ a 2 i ≤ 999999)
/-- the values in the class's rows -/
def RV (N : Int → Int) (a : Nat → Int → Int) : Prop := ∀ m : Int, 0 ≤ m → m < 240 → a 0 m = N (3 + m) ∧ (N (3 + m) ≠ 0 → a 1 m = N (243 + m)) ∧ (0 ≤ a 1 m ∧ a 1 m ≤ 240)
theorem IX0_R {N : Int → Int} (hV : WFv N) (k j : Int) : (IDX N j k = -1 ∧ IX0 N k j = 0) ∨ (1 ≤ IDX N j k ∧ IDX N j k ≤ 9999 ∧ IX0 N k j = IDX N j k) := by
  rcases IDX_R hV j k with h | h
  · left; refine ⟨h, ?_⟩; unfold IX0; rw [if_pos h]
  · right; refine ⟨h.1, h.2, ?_⟩; unfold IX0; rw [if_neg (by omega)]
def FB (f : Int → Int) (x y : Int) : Int → Int := fun j => if 0 ≤ x ∧ x < j ∧ j < y then f x + ((f y - f x) * (j - x)).tdiv (y - x) else f j
theorem zmm {w lo hi : Int} (h : lo ≤ hi) : zmin (zmax w lo) hi = clampZ w lo hi := by
  unfold zmin zmax clampZ
  repeat' split
  all_goals omega
/-- one month more of the index's row -/
theorem fi_step {N g av0 : Int → Int} {t m k : Int} (hV : WFv N) (hm : 0 ≤ m ∧ m < 240) (ht : -1 ≤ t ∧ t < m) (htv : t = -1 ∨ isV N t k) (hno : ∀ j : Int, t < j → j < m → ¬ isV N j k) (hg : ∀ j : Int, 0 ≤ j → j < 240 → (j ≤ t → g j = IX0 N k j) ∧ (t < j → g j = 0)) (hv : isV N m k) (ha : av0 m = N (3 + m)) :
    ∀ j : Int, 0 ≤ j → j < 240 → (j ≤ m → FB (uI g m (av0 m)) t m j = IX0 N k j) ∧ (m < j → FB (uI g m (av0 m)) t m j = 0) := by
  intro j j0 j1
  have hgj := hg j j0 j1
  refine ⟨fun hj => ?_, fun hj => ?_⟩
  · by_cases hjm : j = m
    · subst hjm
      have e : FB (uI g j (av0 j)) t j j = av0 j := by unfold FB; rw [if_neg (by omega)]; exact uI_s
      rw [e, ha]
      have hs := IDX_self hv
      have hp := hv.2.2.1
      unfold IX0
      rw [if_neg (by omega), hs]
    · by_cases hjt : j ≤ t
      · have e : FB (uI g m (av0 m)) t m j = g j := by unfold FB; rw [if_neg (by omega)]; exact uI_n hjm
        rw [e]; exact hgj.1 hjt
      · have hI := IDX_of (N := N) (x := j) (k := k) (a := t) (b := m) ⟨by omega, by omega⟩ ⟨by omega, by omega⟩ (fun i h1 h2 => hno i h1 (by omega)) htv ⟨by omega, by omega⟩ (fun i h1 h2 => hno i (by omega) h2) (Or.inr hv)
        by_cases htn : t = -1
        · have e : FB (uI g m (av0 m)) t m j = g j := by unfold FB; rw [if_neg (by omega)]; exact uI_n hjm
          rw [e, hgj.2 (by omega)]
          unfold IX0
          rw [if_pos (by rw [hI, if_pos (by omega)])]
        · have htv' : isV N t k := by rcases htv with h | h; (exact absurd h htn); exact h
          have egt : g t = N (3 + t) := by
            rw [(hg t (by omega) (by omega)).1 (Int.le_refl t)]
            have hs := IDX_self htv'
            have hp := htv'.2.2.1
            unfold IX0
            rw [if_neg (by omega), hs]
          have e : FB (uI g m (av0 m)) t m j = N (3 + t) + ((N (3 + m) - N (3 + t)) * (j - t)).tdiv (m - t) := by
            unfold FB
            rw [if_pos (by omega), uI_s, uI_n (show t ≠ m by omega), egt, ha]
          rw [if_neg (by omega)] at hI
          rw [e, ← hI]
          rcases IX0_R hV k j with h | h
          · have h1 := IDX_R hV j k
            have hvt := hV t (by omega) (by omega)
            have hvm := hV m (by omega) (by omega)
            have hpt := htv'.2.2.1
            have hpm := hv.2.2.1
            have hi := interp (d := N (3 + m) - N (3 + t)) (u := j - t) (w := m - t) ⟨by omega, by omega⟩ (by omega)
            exfalso
            by_cases hs : 0 ≤ N (3 + m) - N (3 + t)
            · have := hi.1 hs; omega
            · have := hi.2 (by omega); omega
          · exact h.2.2.symm
  · have e : FB (uI g m (av0 m)) t m j = g j := by unfold FB; rw [if_neg (by omega)]; exact uI_n (by omega)
    rw [e]; exact hgj.2 (by omega)
theorem fi_end {N g : Int → Int} {t k : Int} (ht : -1 ≤ t ∧ t < 240) (htv : t = -1 ∨ isV N t k) (hno : ∀ j : Int, t < j → j < 240 → ¬ isV N j k) (hg : ∀ j : Int, 0 ≤ j → j < 240 → (j ≤ t → g j = IX0 N k j) ∧ (t < j → g j = 0)) : ∀ j : Int, 0 ≤ j → j < 240 → g j = IX0 N k j := by
  intro j j0 j1
  by_cases hj : j ≤ t
  · exact (hg j j0 j1).1 hj
  · rw [(hg j j0 j1).2 (by omega)]
    unfold IX0
    rw [if_pos]
    have hI := IDX_of (N := N) (x := j) (k := k) (a := t) (b := 240) ⟨by omega, by omega⟩ ⟨by omega, by omega⟩ (fun i h1 h2 => hno i h1 (by omega)) htv ⟨by omega, by omega⟩ (fun i h1 h2 => hno i (by omega) h2) (Or.inl rfl)
    rw [hI, if_pos (by omega)]
theorem ziX8_fillBetween : yX8_fillBetween.cls = RX8 ∧ yX8_fillBetween.cls ≠ "java/lang/invoke/MethodHandle" ∧ yX8_fillBetween.cls ≠ "java/lang/invoke/VarHandle" ∧ (parseMethodDescriptor yX8_fillBetween.desc).map (fun d => d.parameters.length) = some 3 := by decide +kernel
set_option maxHeartbeats 4000000 in
set_option maxRecDepth 100000 in
theorem c_X8_fillBetween {l : Launch} {G : va_G} {cI cJ cO : ClassId}  (h : Nat) (q : Nat → Nat) (v : Nat → Int) (a : Nat → Int → Int) (x y : Int)  (h1 : -1 ≤ x ∧ x < y ∧ y < 240) (h2 : 0 ≤ x → (0 ≤ a 0 x ∧ a 0 x ≤ 9999) ∧ (0 ≤ a 0 y ∧ a 0 y ≤ 9999)) : zC l yX8_fillBetween wsX8_fillBetween { frames := 0, cells := 0, slots := 0, locals := 0 } G (tyZ cI cJ cO) (S := Unit) [.ref (q 0), .int (iI x), .int (iI y)] (iW cI cJ h q v a) (zN) (fun _ => True) (fun _ => iW cI cJ h q v (uA a 0 (FB (a 0) x y))) 0 0 := by
  refine z_start (cc := cX8_fillBetween) (maxL := 6) (ret := none) (by decide) rfl (Nat.le_of_ble_eq_true rfl) ?_
  intro p e s m below meth c A ls F hr hlk hnm hAe hA hW hl
  have hx := F.1
  have hb := F.2.1
  have hown : s.vm.findClass RX8 = some m.cls := F.2.2.2.1
  have hts := F.2.2.2.2
  have hl : lv_has ls 6 [(0, .ref (q 0)), (1, .int (iI x)), (2, .int (iI y))] := hl
  refine lv_iload_n hx hb dX8_fillBetween_0 rfl (lv_at hl 2 rfl) ?_
  refine lv_iload_n hx hb dX8_fillBetween_1 rfl (lv_at hl 1 rfl) ?_
  refine z_isub hx hb dX8_fillBetween_2 ?_
  refine lv_istore_n (lv' := [(3, .int (iI (y - x))), (0, .ref (q 0)), (1, .int (iI x)), (2, .int (iI y))]) hx hb dX8_fillBetween_3 rfl hl (by decide) rfl (fun ls hl => ?_)
  refine lv_iload_n hx hb dX8_fillBetween_4 rfl (lv_at hl 2 rfl) ?_
  refine z_if_lt (tgt := 19) hx hb dX8_fillBetween_5 (by decide) ⟨by omega, by omega⟩ (fun c5 => ?_) (fun c5 => ?_)
  · have hW := z_row hW 0 (FB (a 0) x y) rfl (fun j j0 j1 => by unfold FB; exact (if_neg (by omega)).symm)
    exact z_vret hx hb hr hlk hW () trivial rfl dX8_fillBetween_19
  · refine lv_iload_n hx hb dX8_fillBetween_8 rfl (lv_at hl 3 rfl) ?_
    refine lv_aload_n hx hb dX8_fillBetween_9 rfl (lv_at hl 1 rfl) ?_
    refine z_alen hx hb hW 0 0 rfl rfl dX8_fillBetween_10 ?_
    refine W.eq (g2 := F0 m 11 ls [.int (iI 240), .int (iI y)]) rfl ?_
    refine z_icmp_ge (tgt := 19) hx hb dX8_fillBetween_11 (by decide) ⟨by omega, by omega⟩ (by decide) (fun c11 => ?_) (fun c11 => ?_)
    · have hW := z_row hW 0 (FB (a 0) x y) rfl (fun j j0 j1 => by unfold FB; exact (if_neg (by omega)).symm)
      exact z_vret hx hb hr hlk hW () trivial rfl dX8_fillBetween_19
    · refine lv_iload_n hx hb dX8_fillBetween_14 rfl (lv_at hl 0 rfl) ?_
      refine z_iconst (n := 1) hx hb dX8_fillBetween_15 ?_
      refine z_icmp_ge (tgt := 20) hx hb dX8_fillBetween_16 (by decide) ⟨by omega, by omega⟩ (by decide) (fun c16 => ?_) (fun c16 => ?_)
      · refine lv_aload_n hx hb dX8_fillBetween_20 rfl (lv_at hl 1 rfl) ?_
        refine lv_iload_n hx hb dX8_fillBetween_21 rfl (lv_at hl 3 rfl) ?_
        refine z_iald (f := a 0) (i := y) hx hb hW 0 0 rfl rfl (by decide) ⟨by omega, by omega⟩ dX8_fillBetween_22 ?_
        refine lv_aload_n hx hb dX8_fillBetween_23 rfl (lv_at hl 1 rfl) ?_
        refine lv_iload_n hx hb dX8_fillBetween_24 rfl (lv_at hl 2 rfl) ?_
        refine z_iald (f := a 0) (i := x) hx hb hW 0 0 rfl rfl (by decide) ⟨by omega, by omega⟩ dX8_fillBetween_25 ?_
        refine z_isub hx hb dX8_fillBetween_26 ?_
        refine lv_istore (lv' := [(4, .int (iI (((a 0) y) - ((a 0) x)))), (3, .int (iI (y - x))), (0, .ref (q 0)), (1, .int (iI x)), (2, .int (iI y))]) hx hb dX8_fillBetween_27 hl (by decide) rfl (fun ls hl => ?_)
        refine lv_iload_n hx hb dX8_fillBetween_29 rfl (lv_at hl 3 rfl) ?_
        refine z_iconst (n := 1) hx hb dX8_fillBetween_30 ?_
        refine z_iadd hx hb dX8_fillBetween_31 ?_
        refine lv_istore (lv' := [(5, .int (iI (x + 1))), (4, .int (iI (((a 0) y) - ((a 0) x)))), (3, .int (iI (y - x))), (0, .ref (q 0)), (1, .int (iI x)), (2, .int (iI y))]) hx hb dX8_fillBetween_32 hl (by decide) rfl (fun ls hl => ?_)
        have eq0 := h2 (by omega)
        refine z_loop2 (fun (j5 : Int) (g : Int → Int) (ls : Array Slot) (H : Heap) (locs : List Loc) => (x + 1 ≤ j5 ∧ j5 ≤ y) ∧ (∀ j : Int, 0 ≤ j → j < 240 → g j = if x < j ∧ j < j5 then a 0 x + ((a 0 y - a 0 x) * (j - x)).tdiv (y - x) else a 0 j) ∧ zW G (tyZ cI cJ cO) A s (iW cI cJ h q v (uA a 0 g)) H locs ∧ lv_has ls 6 [(5, .int (iI j5)), (4, .int (iI (((a 0) y) - ((a 0) x)))), (3, .int (iI (y - x))), (0, .ref (q 0)), (1, .int (iI x)), (2, .int (iI y))]) (fun j5 g => (y - j5).toNat) ?_ (x + 1) (a 0) _ _ _ ⟨(by omega), (fun j j0 j1 => (if_neg (by omega)).symm), hW, (lv_sub hl [0, 1, 2, 3, 4, 5] rfl)⟩
        intro j5 g ls H locs hI ih
        obtain ⟨i1, i2, hW, hl⟩ := hI
        refine lv_iload hx hb dX8_fillBetween_34 (lv_at hl 0 rfl) ?_
        refine lv_iload_n hx hb dX8_fillBetween_36 rfl (lv_at hl 5 rfl) ?_
        refine z_icmp_ge (tgt := 63) hx hb dX8_fillBetween_37 (by decide) ⟨by omega, by omega⟩ ⟨by omega, by omega⟩ (fun c37 => ?_) (fun c37 => ?_)
        · have hW := z_row hW 0 (FB (a 0) x y) rfl (fun j j0 j1 => by show g j = _; rw [i2 j j0 j1]; unfold FB; by_cases jl : x < j ∧ j < j5; (rw [if_pos jl, if_pos (by omega)]); (rw [if_neg jl, if_neg (by omega)]))
          exact z_vret hx hb hr hlk hW () trivial rfl dX8_fillBetween_63
        · have ex : g x = a 0 x := by rw [i2 x (by omega) (by omega), if_neg (by omega)]
          have mr := mul_R (p := a 0 y - a 0 x) (q := j5 - x) (P := 9999) (Q := 239) (by omega) (by omega)
          refine lv_aload_n hx hb dX8_fillBetween_40 rfl (lv_at hl 3 rfl) ?_
          refine lv_iload hx hb dX8_fillBetween_41 (lv_at hl 0 rfl) ?_
          refine lv_aload_n hx hb dX8_fillBetween_43 rfl (lv_at hl 3 rfl) ?_
          refine lv_iload_n hx hb dX8_fillBetween_44 rfl (lv_at hl 4 rfl) ?_
          refine z_iald (f := g) (i := x) hx hb hW 0 0 rfl rfl (by decide) ⟨by omega, by omega⟩ dX8_fillBetween_45 ?_
          refine lv_iload hx hb dX8_fillBetween_46 (lv_at hl 1 rfl) ?_
          refine lv_iload hx hb dX8_fillBetween_48 (lv_at hl 0 rfl) ?_
          refine lv_iload_n hx hb dX8_fillBetween_50 rfl (lv_at hl 4 rfl) ?_
          refine z_isub hx hb dX8_fillBetween_51 ?_
          refine z_imul hx hb dX8_fillBetween_52 ?_
          refine lv_iload_n hx hb dX8_fillBetween_53 rfl (lv_at hl 2 rfl) ?_
          refine z_idiv hx hb dX8_fillBetween_54 ⟨by omega, by omega⟩ ⟨by omega, by omega⟩ (by omega) (by omega) ?_
          refine z_iadd hx hb dX8_fillBetween_55 ?_
          refine z_iast (f := g) (i := j5) (z := (g x) + (((((a 0) y) - ((a 0) x)) * (j5 - x)).tdiv (y - x))) hx hb hW 0 0 rfl rfl (by decide) ⟨by omega, by omega⟩ dX8_fillBetween_56 (fun H locs hW => ?_)
          have hW : zW G (tyZ cI cJ cO) A s (iW cI cJ h q v (uA a 0 (uI g j5 ((g x) + (((((a 0) y) - ((a 0) x)) * (j5 - x)).tdiv (y - x)))))) H locs := hW
          refine z_iinc (k := 0) (lv' := [(5, .int (iI (j5 + 1))), (4, .int (iI (((a 0) y) - ((a 0) x)))), (3, .int (iI (y - x))), (0, .ref (q 0)), (1, .int (iI x)), (2, .int (iI y))]) hx hb dX8_fillBetween_57 hl rfl (by decide) rfl (fun ls hl => ?_)
          refine lv_goto (tgt := 34) hx hb dX8_fillBetween_60 (by decide) ?_
          exact ih (j5 + 1) (uI g j5 ((g x) + (((((a 0) y) - ((a 0) x)) * (j5 - x)).tdiv (y - x)))) _ _ _ ⟨(by omega), (fun j j0 j1 => by by_cases je : j = j5; (subst je; rw [uI_s, if_pos (by omega), ex]); (rw [uI_n je, i2 j j0 j1]; by_cases jl : x < j ∧ j < j5; (rw [if_pos jl, if_pos (by omega)]); (rw [if_neg jl, if_neg (by omega)]))), hW, (lv_sub hl [0, 1, 2, 3, 4, 5] rfl)⟩ (by omega)
      · have hW := z_row hW 0 (FB (a 0) x y) rfl (fun j j0 j1 => by unfold FB; exact (if_neg (by omega)).symm)
        exact z_vret hx hb hr hlk hW () trivial rfl dX8_fillBetween_19
theorem hiX8_fillIndex_X8 : ∀ w ∈ wsX80, w ∈ wsX8_fillIndex := fun _ h => List.mem_cons_of_mem _ (List.mem_append_right _ h)
theorem ziX8_fillIndex : yX8_fillIndex.cls = RX8 ∧ yX8_fillIndex.cls ≠ "java/lang/invoke/MethodHandle" ∧ yX8_fillIndex.cls ≠ "java/lang/invoke/VarHandle" ∧ (parseMethodDescriptor yX8_fillIndex.desc).map (fun d => d.parameters.length) = some 2 := by decide +kernel
set_option maxHeartbeats 4000000 in
set_option maxRecDepth 100000 in
theorem c_X8_fillIndex {l : Launch} {G : va_G} {cI cJ cO : ClassId} (N : Int → Int) (h : Nat) (q : Nat → Nat) (v : Nat → Int) (a : Nat → Int → Int) (hi : Nat) (qi : Nat → Nat) (vi : Nat → Int) (ai : Nat → Int → Int) (k : Int)  (h1 : -2147483648 ≤ k ∧ k < 2147483648) (hV : WFv N) (hRV : RV N a) : zC l yX8_fillIndex wsX8_fillIndex { frames := 1, cells := 0, slots := 0, locals := 25 } G (tyZ cI cJ cO) (S := Unit) [.ref h, .ref (qi 0), .int (iI k)] ((vW cI cJ h q v a) ++ (iW cI cJ hi qi vi ai)) (zN) (fun _ => True) (fun _ => (vW cI cJ h q v a) ++ (iW cI cJ hi qi vi (uA ai 0 (IX0 N k)))) 0 0 := by
  refine z_start (cc := cX8_fillIndex) (maxL := 5) (ret := none) (by decide) rfl (Nat.le_of_ble_eq_true rfl) ?_
  intro p e s m below meth c A ls F hr hlk hnm hAe hA hW hl
  have hx := F.1
  have hb := F.2.1
  have hown : s.vm.findClass RX8 = some m.cls := F.2.2.2.1
  have hts := F.2.2.2.2
  have hl : lv_has ls 5 [(0, .ref h), (1, .ref (qi 0)), (2, .int (iI k))] := hl
  refine lv_aload_n hx hb dX8_fillIndex_0 rfl (lv_at hl 1 rfl) ?_
  refine z_iconst (n := 0) hx hb dX8_fillIndex_1 ?_
  refine z_callS (As := [.ref (qi 0), .int (iI 0)]) (rest := []) F (c_fill (qi 0) 240 (ai 0) 0 (by decide)) gX8_fillIndex_J7_fill_53178 rfl ziJ7_fill_53178 ⟨rfl, rfl, by decide, by decide⟩ rfl hl.1 rfl (Nat.le_of_ble_eq_true rfl) dX8_fillIndex_2 ⟨Nat.zero_le _, Nat.zero_le _⟩ hW hA [3] rfl (by decide) (fun _ => rfl) (fun _ => (vW cI cJ h q v a) ++ (iW cI cJ hi qi vi (uA ai 0 (fun _ => 0)))) (fun _ => rfl) (fun _ => []) (fun _ => rfl) (fun _ H locs hp2 hW => ?_)
  have hW : zW G (tyZ cI cJ cO) A s ((vW cI cJ h q v a) ++ (iW cI cJ hi qi vi (uA ai 0 (fun _ => 0)))) H locs := hW
  refine z_iconst (n := -1) hx hb dX8_fillIndex_5 ?_
  refine lv_istore_n (lv' := [(3, .int (iI (-1))), (0, .ref h), (1, .ref (qi 0)), (2, .int (iI k))]) hx hb dX8_fillIndex_6 rfl hl (by decide) rfl (fun ls hl => ?_)
  refine z_iconst (n := 0) hx hb dX8_fillIndex_7 ?_
  refine lv_istore (lv' := [(4, .int (iI 0)), (3, .int (iI (-1))), (0, .ref h), (1, .ref (qi 0)), (2, .int (iI k))]) hx hb dX8_fillIndex_8 hl (by decide) rfl (fun ls hl => ?_)
  refine z_loop3 (fun (t3 : Int) (m4 : Int) (g : Int → Int) (ls : Array Slot) (H : Heap) (locs : List Loc) => ((0 ≤ m4 ∧ m4 ≤ 240) ∧ -1 ≤ t3 ∧ t3 < m4 ∨ (m4 = 0 ∧ t3 = -1)) ∧ (t3 = -1 ∨ isV N t3 k) ∧ (∀ j : Int, t3 < j → j < m4 → ¬ isV N j k) ∧ (∀ j : Int, 0 ≤ j → j < 240 → (j ≤ t3 → g j = IX0 N k j) ∧ (t3 < j → g j = 0)) ∧ zW G (tyZ cI cJ cO) A s ((vW cI cJ h q v a) ++ (iW cI cJ hi qi vi (uA ai 0 g))) H locs ∧ lv_has ls 5 [(4, .int (iI m4)), (3, .int (iI t3)), (0, .ref h), (1, .ref (qi 0)), (2, .int (iI k))]) (fun t3 m4 g => (240 - m4).toNat) ?_ (-1) 0 (fun _ => 0) _ _ _ ⟨(by omega), (Or.inl rfl), (fun j j0 j1 => by omega), (fun j j0 j1 => ⟨fun q9 => by omega, fun _ => rfl⟩), hW, (lv_sub hl [0, 1, 2, 3, 4] rfl)⟩
  intro t3 m4 g ls H locs hI ih
  obtain ⟨i1, i2, i3, i4, hW, hl⟩ := hI
  refine lv_iload hx hb dX8_fillIndex_10 (lv_at hl 0 rfl) ?_
  refine lv_aload_n hx hb dX8_fillIndex_12 rfl (lv_at hl 3 rfl) ?_
  refine z_alen hx hb hW 3 0 rfl rfl dX8_fillIndex_13 ?_
  refine W.eq (g2 := F0 m 14 ls [.int (iI 240), .int (iI m4)]) rfl ?_
  refine z_icmp_ge (tgt := 74) hx hb dX8_fillIndex_14 (by decide) ⟨by omega, by omega⟩ (by decide) (fun c14 => ?_) (fun c14 => ?_)
  · have hW := z_row hW 3 (IX0 N k) rfl (fun j j0 j1 => fi_end (t := t3) (by omega) i2 (fun j h1 h2 => i3 j h1 (by omega)) i4 j j0 j1)
    exact z_vret hx hb hr hlk hW () trivial rfl dX8_fillIndex_74
  · refine lv_iload hx hb dX8_fillIndex_17 (lv_at hl 0 rfl) ?_
    refine lv_aload_n hx hb dX8_fillIndex_19 rfl (lv_at hl 2 rfl) ?_
    refine z_get (v := .ref (q 1)) hx hb hts hiX8_fillIndex_X8 hown hW 0 1 1 rfl rfl rfl (by decide) rfl dX8_fillIndex_20 ?_
    refine z_alen hx hb hW 2 0 rfl rfl dX8_fillIndex_23 ?_
    refine W.eq (g2 := F0 m 24 ls [.int (iI 240), .int (iI m4)]) rfl ?_
    refine z_icmp_ge (tgt := 74) hx hb dX8_fillIndex_24 (by decide) ⟨by omega, by omega⟩ (by decide) (fun c24 => ?_) (fun c24 => ?_)
    · have hW := z_row hW 3 (IX0 N k) rfl (fun j j0 j1 => fi_end (t := t3) (by omega) i2 (fun j h1 h2 => i3 j h1 (by omega)) i4 j j0 j1)
      exact z_vret hx hb hr hlk hW () trivial rfl dX8_fillIndex_74
    · have hr4 := hRV m4 (by omega) (by omega)
      have hv4 := hV m4 (by omega) (by omega)
      refine lv_aload_n hx hb dX8_fillIndex_27 rfl (lv_at hl 2 rfl) ?_
      refine lv_iload hx hb dX8_fillIndex_28 (lv_at hl 0 rfl) ?_
      refine z_callV (As := [.int (iI m4)]) (rest := []) F (c_X8_has  h q v a m4  (show -2147483648 ≤ m4 ∧ m4 < 2147483648 by omega) (fun _ _ => by rw [hr4.1]; omega)) gX8_fillIndex_X8_has rfl ziX8_has ⟨rfl, rfl, by decide, by decide⟩ rfl hl.1 rfl (Nat.le_of_ble_eq_true rfl) dX8_fillIndex_30 ⟨Nat.zero_le _, Nat.zero_le _⟩ hW hA [0, 1, 2] rfl (by decide) (fun _ => rfl) (fun _ => (vW cI cJ h q v a) ++ (iW cI cJ hi qi vi (uA ai 0 g))) (fun _ => rfl) (fun _ => [.int (iI (bI ((0 ≤ m4 ∧ m4 < 240) ∧ (a 0) m4 ≠ 0)))]) (fun _ => rfl) 0 rfl rfl rfl (fun _ H locs hp30 hW => ?_)
      refine z_b_eq (tgt := 68) hx hb dX8_fillIndex_33 (by decide) (fun c33 => ?_) (fun c33 => ?_)
      · have hniv : ¬ isV N m4 k := fun q9 => by obtain ⟨q1, q2, q3, q4⟩ := q9; have q8 := hr4.2.1 (by omega); omega
        refine z_iinc (k := 0) (lv' := [(4, .int (iI (m4 + 1))), (3, .int (iI t3)), (0, .ref h), (1, .ref (qi 0)), (2, .int (iI k))]) hx hb dX8_fillIndex_68 hl rfl (by decide) rfl (fun ls hl => ?_)
        refine lv_goto (tgt := 10) hx hb dX8_fillIndex_71 (by decide) ?_
        exact ih t3 (m4 + 1) g _ _ _ ⟨(by omega), i2, (fun j j0 j1 => by by_cases je : j = m4; (subst je; exact hniv); exact i3 j j0 (by omega)), i4, hW, (lv_sub hl [0, 1, 2, 3, 4] rfl)⟩ (by omega)
      · refine lv_aload_n hx hb dX8_fillIndex_36 rfl (lv_at hl 2 rfl) ?_
        refine z_get (v := .ref (q 1)) hx hb hts hiX8_fillIndex_X8 hown hW 0 1 1 rfl rfl rfl (by decide) rfl dX8_fillIndex_37 ?_
        refine lv_iload hx hb dX8_fillIndex_40 (lv_at hl 0 rfl) ?_
        refine z_iald (f := a 1) (i := m4) hx hb hW 2 0 rfl rfl (by decide) ⟨by omega, by omega⟩ dX8_fillIndex_42 ?_
        refine lv_iload_n hx hb dX8_fillIndex_43 rfl (lv_at hl 4 rfl) ?_
        refine z_icmp_gt (tgt := 68) hx hb dX8_fillIndex_44 (by decide) ⟨by omega, by omega⟩ ⟨by omega, by omega⟩ (fun c44 => ?_) (fun c44 => ?_)
        · have hniv : ¬ isV N m4 k := fun q9 => by obtain ⟨q1, q2, q3, q4⟩ := q9; have q8 := hr4.2.1 (by omega); omega
          refine z_iinc (k := 0) (lv' := [(4, .int (iI (m4 + 1))), (3, .int (iI t3)), (0, .ref h), (1, .ref (qi 0)), (2, .int (iI k))]) hx hb dX8_fillIndex_68 hl rfl (by decide) rfl (fun ls hl => ?_)
          refine lv_goto (tgt := 10) hx hb dX8_fillIndex_71 (by decide) ?_
          exact ih t3 (m4 + 1) g _ _ _ ⟨(by omega), i2, (fun j j0 j1 => by by_cases je : j = m4; (subst je; exact hniv); exact i3 j j0 (by omega)), i4, hW, (lv_sub hl [0, 1, 2, 3, 4] rfl)⟩ (by omega)
        · have hiv : isV N m4 k := ⟨by omega, by omega, by omega, by have q8 := hr4.2.1 (by omega); omega⟩
          refine lv_aload_n hx hb dX8_fillIndex_47 rfl (lv_at hl 3 rfl) ?_
          refine lv_iload hx hb dX8_fillIndex_48 (lv_at hl 0 rfl) ?_
          refine lv_aload_n hx hb dX8_fillIndex_50 rfl (lv_at hl 2 rfl) ?_
          refine z_get (v := .ref (q 0)) hx hb hts hiX8_fillIndex_X8 hown hW 0 0 2 rfl rfl rfl (by decide) rfl dX8_fillIndex_51 ?_
          refine lv_iload hx hb dX8_fillIndex_54 (lv_at hl 0 rfl) ?_
          refine z_iald (f := a 0) (i := m4) hx hb hW 1 0 rfl rfl (by decide) ⟨by omega, by omega⟩ dX8_fillIndex_56 ?_
          refine z_iast (f := g) (i := m4) (z := (a 0) m4) hx hb hW 3 0 rfl rfl (by decide) ⟨by omega, by omega⟩ dX8_fillIndex_57 (fun H locs hW => ?_)
          have hW : zW G (tyZ cI cJ cO) A s ((vW cI cJ h q v a) ++ (iW cI cJ hi qi vi (uA ai 0 (uI g m4 ((a 0) m4))))) H locs := hW
          refine lv_aload_n hx hb dX8_fillIndex_58 rfl (lv_at hl 3 rfl) ?_
          refine lv_iload_n hx hb dX8_fillIndex_59 rfl (lv_at hl 1 rfl) ?_
          refine lv_iload hx hb dX8_fillIndex_60 (lv_at hl 0 rfl) ?_
          refine z_callS (As := [.ref (qi 0), .int (iI t3), .int (iI m4)]) (rest := []) F (c_X8_fillBetween  hi qi vi (uA ai 0 (uI g m4 ((a 0) m4))) t3 m4  (show -1 ≤ t3 ∧ t3 < m4 ∧ m4 < 240 by omega) (show 0 ≤ t3 → (0 ≤ (uI g m4 ((a 0) m4)) t3 ∧ (uI g m4 ((a 0) m4)) t3 ≤ 9999) ∧ (0 ≤ (uI g m4 ((a 0) m4)) m4 ∧ (uI g m4 ((a 0) m4)) m4 ≤ 9999) by intro q9; rw [uI_s, uI_n (by omega), (i4 t3 (by omega) (by omega)).1 (Int.le_refl t3)]; have q8 := IX0_R hV k t3; omega)) gX8_fillIndex_X8_fillBetween rfl ziX8_fillBetween ⟨rfl, rfl, by decide, by decide⟩ rfl hl.1 rfl (Nat.le_of_ble_eq_true rfl) dX8_fillIndex_62 ⟨Nat.zero_le _, Nat.zero_le _⟩ hW hA [3] rfl (by decide) (fun _ => rfl) (fun _ => (vW cI cJ h q v a) ++ (iW cI cJ hi qi vi (uA ai 0 (FB ((uI g m4 ((a 0) m4))) t3 m4)))) (fun _ => rfl) (fun _ => []) (fun _ => rfl) (fun _ H locs hp62 hW => ?_)
          have hW : zW G (tyZ cI cJ cO) A s ((vW cI cJ h q v a) ++ (iW cI cJ hi qi vi (uA ai 0 (FB ((uI g m4 ((a 0) m4))) t3 m4)))) H locs := hW
          refine lv_iload hx hb dX8_fillIndex_65 (lv_at hl 0 rfl) ?_
          refine lv_istore_n (lv' := [(3, .int (iI m4)), (4, .int (iI m4)), (0, .ref h), (1, .ref (qi 0)), (2, .int (iI k))]) hx hb dX8_fillIndex_67 rfl hl (by decide) rfl (fun ls hl => ?_)
          refine z_iinc (k := 1) (lv' := [(4, .int (iI (m4 + 1))), (3, .int (iI m4)), (0, .ref h), (1, .ref (qi 0)), (2, .int (iI k))]) hx hb dX8_fillIndex_68 hl rfl (by decide) rfl (fun ls hl => ?_)
          refine lv_goto (tgt := 10) hx hb dX8_fillIndex_71 (by decide) ?_
          exact ih m4 (m4 + 1) (FB ((uI g m4 ((a 0) m4))) t3 m4) _ _ _ ⟨(by omega), (Or.inr hiv), (fun j j0 j1 => by omega), (fi_step hV (by omega) (by omega) i2 i3 i4 hiv hr4.1), hW, (lv_sub hl [0, 1, 2, 3, 4] rfl)⟩ (by omega)
