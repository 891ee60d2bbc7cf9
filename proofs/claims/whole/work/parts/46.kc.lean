/-! words of a text -/
theorem WRD_s {T : Int → Int} {y : Int} {n : Nat} (h : n < 9) : WRD T y (n + 1) = 27 * WRD T y n + T (y + (n : Int)) - 96 := if_pos h
theorem WRD_0 {T : Int → Int} {y : Int} : ∀ n : Nat, (∀ j : Int, y ≤ j → j < y + (n : Int) → isLt (T j)) → 0 ≤ WRD T y n := by
  intro n
  induction n with
  | zero => intro _; exact Int.le_refl 0
  | succ n ih =>
    intro h
    have i9 := ih (fun j j0 j1 => h j j0 (by omega))
    have t : 97 ≤ T (y + (n : Int)) ∧ T (y + (n : Int)) ≤ 122 := h (y + (n : Int)) (by omega) (by omega)
    by_cases q : n < 9
    · rw [WRD_s q]; omega
    · exact (show WRD T y (n + 1) = WRD T y n from if_neg q) ▸ i9
theorem WRD_9 {T : Int → Int} {y : Int} : ∀ n : Nat, 9 ≤ n → WRD T y n = WRD T y 9 := by
  intro n h
  induction n with
  | zero => omega
  | succ n ih =>
    by_cases q : n + 1 = 9
    · rw [q]
    · rw [← ih (by omega)]; exact if_neg (by omega)
theorem WRD_inj {T g : Int → Int} {y : Int} : ∀ n m : Nat, n ≤ 9 → m ≤ 9 → (∀ j : Int, y ≤ j → j < y + (n : Int) → isLt (T j)) → (∀ j : Int, 0 ≤ j → j < (m : Int) → isLt (g j)) → WRD T y n = WRD g 0 m → n = m ∧ ∀ j : Nat, j < m → T (y + (j : Int)) = g (j : Int) := by
  intro n
  induction n with
  | zero =>
    intro m h1 h2 hT hg e
    cases m with
    | zero => exact ⟨rfl, fun j h => absurd h (Nat.not_lt_zero _)⟩
    | succ m =>
      have w := WRD_0 (T := g) (y := 0) m (fun j j0 j1 => hg j j0 (by omega))
      have t : 97 ≤ g (0 + (m : Int)) ∧ g (0 + (m : Int)) ≤ 122 := hg (0 + (m : Int)) (by omega) (by omega)
      rw [WRD_s (T := g) (y := 0) (n := m) (by omega)] at e
      have e : 0 = 27 * WRD g 0 m + g (0 + (m : Int)) - 96 := e
      omega
  | succ n ih =>
    intro m h1 h2 hT hg e
    have w1 := WRD_0 (T := T) (y := y) n (fun j j0 j1 => hT j j0 (by omega))
    have t1 : 97 ≤ T (y + (n : Int)) ∧ T (y + (n : Int)) ≤ 122 := hT (y + (n : Int)) (by omega) (by omega)
    rw [WRD_s (T := T) (y := y) (n := n) (by omega)] at e
    cases m with
    | zero =>
      have e : 27 * WRD T y n + T (y + (n : Int)) - 96 = 0 := e
      omega
    | succ m =>
      have w := WRD_0 (T := g) (y := 0) m (fun j j0 j1 => hg j j0 (by omega))
      have t : 97 ≤ g (0 + (m : Int)) ∧ g (0 + (m : Int)) ≤ 122 := hg (0 + (m : Int)) (by omega) (by omega)
      rw [WRD_s (T := g) (y := 0) (n := m) (by omega)] at e
      obtain ⟨e1, e2⟩ := ih m (by omega) (by omega) (fun j j0 j1 => hT j j0 (by omega)) (fun j j0 j1 => hg j j0 (by omega)) (by omega)
      subst e1
      refine ⟨rfl, fun j hj => ?_⟩
      by_cases q : j < n
      · exact e2 j q
      · have : j = n := by omega
        subst this
        rw [show (0 : Int) + (j : Int) = (j : Int) by omega] at e t
        omega
/-- n signs from y on spell a word -/
abbrev spl (T : Int → Int) (y n : Int) (k : Nat) : Prop := n = ((wT k).length : Int) ∧ ∀ j : Nat, j < (wT k).length → T (y + (j : Int)) = (wT k).getD j 0
def wN (k : Nat) : Int := WRD (fun j => (wT k).getD j.toNat 0) 0 (wT k).length
theorem wT_L : ∀ k : Nat, k < 11 → (wT k).length ≤ 8 ∧ ∀ j : Nat, j < (wT k).length → 97 ≤ (wT k).getD j 0 ∧ (wT k).getD j 0 ≤ 122 := by decide
theorem spl_W {T : Int → Int} {y n : Int} {k : Nat} (hk : k < 11) (hn : 0 ≤ n) (hT : ∀ j : Int, y ≤ j → j < y + n → isLt (T j)) : spl T y n k ↔ WRD T y n.toNat = wN k := by
  have hL := wT_L k hk
  have hg : ∀ j : Int, 0 ≤ j → j < ((wT k).length : Int) → isLt ((fun j : Int => (wT k).getD j.toNat 0) j) := fun j j0 j1 => hL.2 j.toNat (by omega)
  have hc : ∀ m : Nat, (m : Int) ≤ n → (∀ j : Int, y ≤ j → j < y + (m : Int) → isLt (T j)) := fun m hm j j0 j1 => hT j j0 (by omega)
  constructor
  · intro h
    have e : n.toNat = (wT k).length := by have := h.1; omega
    rw [e]
    have key : ∀ m : Nat, m ≤ (wT k).length → WRD T y m = WRD (fun j => (wT k).getD j.toNat 0) 0 m := by
      intro m
      induction m with
      | zero => intro _; rfl
      | succ m ih =>
        intro hm
        rw [WRD_s (by omega), WRD_s (by omega), ih (by omega), h.2 m (by omega)]
        show _ = 27 * _ + (wT k).getD (0 + (m : Int)).toNat 0 - 96
        rw [show (0 + (m : Int)).toNat = m by omega]
    exact key _ (Nat.le_refl _)
  · intro h
    have h9 : WRD T y (min n.toNat 9) = wN k := by
      by_cases q : n.toNat ≤ 9
      · rw [show min n.toNat 9 = n.toNat by omega]; exact h
      · rw [show min n.toNat 9 = 9 by omega, ← WRD_9 n.toNat (by omega)]; exact h
    obtain ⟨e1, e2⟩ := WRD_inj (min n.toNat 9) (wT k).length (by omega) (by omega) (hc _ (by omega)) hg h9
    refine ⟨by omega, fun j hj => ?_⟩
    have := e2 j hj
    rw [this]
    show (wT k).getD ((j : Int)).toNat 0 = _
    rw [show ((j : Int)).toNat = j by omega]
/-- the kind of a word -/
def WKD (w : Int) : Int := if w = wN 0 then 5 else if w = wN 1 then 6 else if w = wN 2 then 7 else if w = wN 3 then 8 else if w = wN 4 then 9 else if w = wN 5 then 10 else if w = wN 6 then 11 else if w = wN 7 then 12 else if w = wN 8 then 13 else if w = wN 9 then 14 else if w = wN 10 then 15 else 4
theorem hiX7_spells_X6 : ∀ w ∈ wsX60, w ∈ wsX7_spells := fun _ h => List.mem_cons_of_mem _ (List.mem_append_right _ h)
theorem ziX7_spells : yX7_spells.cls = RX7 ∧ yX7_spells.cls ≠ "java/lang/invoke/MethodHandle" ∧ yX7_spells.cls ≠ "java/lang/invoke/VarHandle" ∧ (parseMethodDescriptor yX7_spells.desc).map (fun d => d.parameters.length) = some 4 := by decide +kernel
set_option maxHeartbeats 4000000 in
set_option maxRecDepth 100000 in
theorem c_X7_spells {l : Launch} {G : va_G} {cI cJ cO : ClassId} {aK aV : Nat → Nat}  (h : Nat) (q : Nat → Nat) (v : Nat → Int) (a : Nat → Int → Int) (y n : Int) (k : Nat) (h1 : 0 ≤ y ∧ 0 ≤ n ∧ y + n ≤ v 1) (h2 : 0 ≤ v 1 ∧ v 1 ≤ 640) (hT : ∀ j : Int, 0 ≤ j → j < 640 → 0 ≤ a 0 j ∧ a 0 j ≤ 255) (hk : k < 11) : zCK l yX7_spells wsX7_spells { frames := 4, cells := 0, slots := 0, locals := 100 } G (tyZ cI cJ cO) aK aV (S := Unit) [.ref h, .int (iI y), .int (iI n), .ref (aK k)] (tW cI cJ h q v a) (zI (fun _ => bI (spl (a 0) y n k))) (fun _ => True) (fun _ => tW cI cJ h q v a) 0 0 := by
  refine z_startK (cc := cX7_spells) (maxL := 5) (ret := (some .boolean)) (by decide) rfl (Nat.le_of_ble_eq_true rfl) ?_
  intro p e s m below meth c A ls F hr hlk hnm hAe hA hW hl hX
  have hx := F.1
  have hb := F.2.1
  have hown : s.vm.findClass RX7 = some m.cls := F.2.2.2.1
  have hts := F.2.2.2.2
  have hl : lv_has ls 5 [(0, .ref h), (1, .int (iI y)), (2, .int (iI n)), (3, .ref (aK k))] := hl
  have hwl := (wT_L k hk).1
  refine lv_aload_n hx hb dX7_spells_0 rfl (lv_at hl 3 rfl) ?_
  refine z_callVT (As := []) (rest := []) F hX (c_J0_length k hk) gX7_spells_J0_length_8abf5 rfl ziJ0_length_8abf5 ⟨rfl, rfl, by decide, by decide⟩ rfl hl.1 rfl (Nat.le_of_ble_eq_true rfl) dX7_spells_1 ⟨Nat.zero_le _, Nat.zero_le _⟩ hW hA [] rfl (by decide) (fun _ => rfl) (fun _ => tW cI cJ h q v a) (fun _ => rfl) (fun _ => [.int (iI ((wT k).length : Int))]) (fun _ => rfl) (hX.2.2.1 k hk).1 (fun _ H locs hp1 hW => ?_)
  refine lv_iload_n hx hb dX7_spells_4 rfl (lv_at hl 2 rfl) ?_
  refine z_icmp_eq (tgt := 10) hx hb dX7_spells_5 (by decide) ⟨by omega, by omega⟩ ⟨by omega, by omega⟩ (fun c5 => ?_) (fun c5 => ?_)
  · refine z_iconst (n := 0) hx hb dX7_spells_10 ?_
    refine lv_istore (lv' := [(4, .int (iI 0)), (0, .ref h), (1, .int (iI y)), (2, .int (iI n)), (3, .ref (aK k))]) hx hb dX7_spells_11 hl (by decide) rfl (fun ls hl => ?_)
    refine z_loop1 (fun (j4 : Int) (ls : Array Slot) (H : Heap) (locs : List Loc) => (0 ≤ j4 ∧ j4 ≤ ((wT k).length : Int)) ∧ (∀ j : Nat, (j : Int) < j4 → a 0 (y + (j : Int)) = (wT k).getD j 0) ∧ zW G (tyZ cI cJ cO) A s (tW cI cJ h q v a) H locs ∧ lv_has ls 5 [(4, .int (iI j4)), (0, .ref h), (1, .int (iI y)), (2, .int (iI n)), (3, .ref (aK k))]) (fun j4 => (((wT k).length : Int) - j4).toNat) ?_ 0 _ _ _ ⟨(by omega), (fun j hj => absurd hj (by omega)), hW, (lv_sub hl [0, 1, 2, 3, 4] rfl)⟩
    intro j4 ls H locs hI ih
    obtain ⟨i1, i2, hW, hl⟩ := hI
    refine lv_iload hx hb dX7_spells_13 (lv_at hl 0 rfl) ?_
    refine lv_aload_n hx hb dX7_spells_15 rfl (lv_at hl 4 rfl) ?_
    refine z_callVT (As := []) (rest := [.int (iI j4)]) F hX (c_J0_length k hk) gX7_spells_J0_length_8abf5 rfl ziJ0_length_8abf5 ⟨rfl, rfl, by decide, by decide⟩ rfl hl.1 rfl (Nat.le_of_ble_eq_true rfl) dX7_spells_16 ⟨Nat.zero_le _, Nat.zero_le _⟩ hW hA [] rfl (by decide) (fun _ => rfl) (fun _ => tW cI cJ h q v a) (fun _ => rfl) (fun _ => [.int (iI ((wT k).length : Int)), .int (iI j4)]) (fun _ => rfl) (hX.2.2.1 k hk).1 (fun _ H locs hp16 hW => ?_)
    refine z_icmp_ge (tgt := 47) hx hb dX7_spells_19 (by decide) ⟨by omega, by omega⟩ ⟨by omega, by omega⟩ (fun c19 => ?_) (fun c19 => ?_)
    · refine z_iconst (n := 1) hx hb dX7_spells_47 ?_
      exact z_zret hx hb hr hlk (by first | exact Or.inl rfl | exact Or.inr rfl | omega) hW () (bI_t ⟨by omega, fun j hj => i2 j (by omega)⟩) trivial rfl dX7_spells_48
    · refine lv_aload_n hx hb dX7_spells_22 rfl (lv_at hl 1 rfl) ?_
      refine lv_iload_n hx hb dX7_spells_23 rfl (lv_at hl 2 rfl) ?_
      refine lv_iload hx hb dX7_spells_24 (lv_at hl 0 rfl) ?_
      refine z_iadd hx hb dX7_spells_26 ?_
      refine z_callV (As := [.int (iI (y + j4))]) (rest := []) F (c_X6_byteAt  h q v a (y + j4)  (show -2147483648 ≤ (y + j4) ∧ (y + j4) < 2147483648 by omega) (show 0 ≤ (v 1) ∧ (v 1) ≤ 640 by omega)) gX7_spells_X6_byteAt rfl ziX6_byteAt ⟨rfl, rfl, by decide, by decide⟩ rfl hl.1 rfl (Nat.le_of_ble_eq_true rfl) dX7_spells_27 ⟨Nat.zero_le _, Nat.zero_le _⟩ hW hA [0, 1] rfl (by decide) (fun _ => rfl) (fun _ => tW cI cJ h q v a) (fun _ => rfl) (fun _ => [.int (iI (if 0 ≤ (y + j4) ∧ (y + j4) < (v 1) then (a 0) (y + j4) else -1))]) (fun _ => rfl) 0 rfl rfl rfl (fun _ H locs hp27 hW => ?_)
      rw [if_pos (show 0 ≤ y + j4 ∧ y + j4 < v 1 by omega)]
      have hj := hT (y + j4) (by omega) (by omega)
      have hw := wT_R k hk j4.toNat
      refine lv_aload_n hx hb dX7_spells_30 rfl (lv_at hl 4 rfl) ?_
      refine lv_iload hx hb dX7_spells_31 (lv_at hl 0 rfl) ?_
      refine z_callVT (As := [.int (iI j4)]) (rest := [.int (iI (a 0 (y + j4)))]) F hX (c_J0_charAt k j4 hk ⟨by omega, by omega, by omega⟩) gX7_spells_J0_charAt_5068e rfl ziJ0_charAt_5068e ⟨rfl, rfl, by decide, by decide⟩ rfl hl.1 rfl (Nat.le_of_ble_eq_true rfl) dX7_spells_33 ⟨Nat.zero_le _, Nat.zero_le _⟩ hW hA [] rfl (by decide) (fun _ => rfl) (fun _ => tW cI cJ h q v a) (fun _ => rfl) (fun _ => [.int (iI ((wT k).getD j4.toNat 0)), .int (iI (a 0 (y + j4)))]) (fun _ => rfl) (hX.2.2.1 k hk).1 (fun _ H locs hp33 hW => ?_)
      refine z_icmp_eq (tgt := 41) hx hb dX7_spells_36 (by decide) ⟨by omega, by omega⟩ ⟨by omega, by omega⟩ (fun c36 => ?_) (fun c36 => ?_)
      · refine z_iinc (k := 0) (lv' := [(4, .int (iI (j4 + 1))), (0, .ref h), (1, .int (iI y)), (2, .int (iI n)), (3, .ref (aK k))]) hx hb dX7_spells_41 hl rfl (by decide) rfl (fun ls hl => ?_)
        refine lv_goto (tgt := 13) hx hb dX7_spells_44 (by decide) ?_
        exact ih (j4 + 1) _ _ _ ⟨(by omega), (fun j hj => if q : (j : Int) < j4 then i2 j q else by rw [show j = j4.toNat by omega, show ((j4.toNat : Nat) : Int) = j4 by omega]; exact c36), hW, (lv_sub hl [0, 1, 2, 3, 4] rfl)⟩ (by omega)
      · refine z_iconst (n := 0) hx hb dX7_spells_39 ?_
        exact z_zret hx hb hr hlk (by first | exact Or.inl rfl | exact Or.inr rfl | omega) hW () (bI_f (fun q9 => c36 (by have := q9.2 j4.toNat (by omega); rw [show ((j4.toNat : Nat) : Int) = j4 by omega] at this; exact this))) trivial rfl dX7_spells_40
  · refine z_iconst (n := 0) hx hb dX7_spells_8 ?_
    exact z_zret hx hb hr hlk (by first | exact Or.inl rfl | exact Or.inr rfl | omega) hW () (bI_f (fun q9 => c5 (by have := q9.1; omega))) trivial rfl dX7_spells_9
