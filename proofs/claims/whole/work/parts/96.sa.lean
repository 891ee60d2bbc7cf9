/-! the law's start: what the statement gives -/
abbrev flG : List Cond := flatC (Jvm.Cond.and given_1 narrow_1)
def tmS (i : Nat) : Term := Term.string (wR i).1 (wR i).2.1
def lenS : List Nat := [4, 5, 5, 2, 6, 8, 4, 6, 7, 6, 5, 13, 24]
def bytS : List (List Int32) := (List.range 11).map (fun i => (wT i).map iI) ++ [[110, 111, 32, 115, 117, 99, 104, 32, 76, 69, 65, 83, 69], [110, 111, 32, 115, 117, 99, 104, 32, 116, 104, 105, 110, 103, 32, 111, 102, 32, 97, 32, 76, 69, 65, 83, 69]]
def csA : List Cond := (List.range 13).flatMap (fun i => [.exactly (tmS i) "java/lang/String", .eq (.field (tmS i) "java/lang/String" "coder" "B") (.int 0), .arrayOf (.field (tmS i) "java/lang/String" "value" "[B") .byte, .eq (.length (.field (tmS i) "java/lang/String" "value" "[B")) (.int (Int32.ofNat (lenS.getD i 0)))])
def csB : List Cond := (List.range 13).flatMap (fun i => (List.range (lenS.getD i 0)).map (fun j => .eq (.elem (.field (tmS i) "java/lang/String" "value" "[B") (.int (Int32.ofNat j))) (.int ((bytS.getD i []).getD j 0))))
def csC : List Cond := (List.range 13).flatMap (fun i => (List.range i).map (fun j => .not (.eq (tmS j) (tmS i))))
def csD : List Cond := [.eq (.static "java/lang/String" "COMPACT_STRINGS" "Z") (.int 1), .isRef (.static "jdk/internal/util/Preconditions" "SIOOBE_FORMATTER" "Ljava/util/function/BiFunction;"), .isRef (.static Bundle.tN "UNASSIGNED_STACK" Bundle.steD), .isRef (.static Bundle.tN "SUPPRESSED_SENTINEL" Bundle.listD)]
theorem sub_r {big ws : List Cond} (ps : List Nat) (hp : ws = ps.filterMap (fun i => big[i]?)) {w : Cond} (hw : w ∈ ws) : w ∈ big := by
  rw [hp] at hw
  obtain ⟨i, -, hi⟩ := List.mem_filterMap.mp hw
  exact List.mem_of_getElem? hi
set_option maxRecDepth 20000 in
theorem csA_in {w : Cond} (h : w ∈ csA) : w ∈ flG := sub_r [23, 24, 25, 26, 31, 32, 33, 34, 41, 42, 43, 44, 52, 53, 54, 55, 61, 62, 63, 64, 75, 76, 77, 78, 92, 93, 94, 95, 106, 107, 108, 109, 123, 124, 125, 126, 142, 143, 144, 145, 161, 162, 163, 164, 180, 181, 182, 183, 208, 209, 210, 211] (by decide +kernel) h
set_option maxRecDepth 20000 in
theorem csB_in {w : Cond} (h : w ∈ csB) : w ∈ flG := sub_r [27, 28, 29, 30, 35, 36, 37, 38, 39, 45, 46, 47, 48, 49, 56, 57, 65, 66, 67, 68, 69, 70, 79, 80, 81, 82, 83, 84, 85, 86, 96, 97, 98, 99, 110, 111, 112, 113, 114, 115, 127, 128, 129, 130, 131, 132, 133, 146, 147, 148, 149, 150, 151, 165, 166, 167, 168, 169, 184, 185, 186, 187, 188, 189, 190, 191, 192, 193, 194, 195, 196, 212, 213, 214, 215, 216, 217, 218, 219, 220, 221, 222, 223, 224, 225, 226, 227, 228, 229, 230, 231, 232, 233, 234, 235] (by decide +kernel) h
set_option maxRecDepth 20000 in
theorem csC_in {w : Cond} (h : w ∈ csC) : w ∈ flG := sub_r [40, 50, 51, 58, 59, 60, 71, 72, 73, 74, 87, 88, 89, 90, 91, 100, 101, 102, 103, 104, 105, 116, 117, 118, 119, 120, 121, 122, 134, 135, 136, 137, 138, 139, 140, 141, 152, 153, 154, 155, 156, 157, 158, 159, 160, 170, 171, 172, 173, 174, 175, 176, 177, 178, 179, 197, 198, 199, 200, 201, 202, 203, 204, 205, 206, 207, 236, 237, 238, 239, 240, 241, 242, 243, 244, 245, 246, 247] (by decide +kernel) h
set_option maxRecDepth 20000 in
theorem csD_in {w : Cond} (h : w ∈ csD) : w ∈ flG := sub_r [4, 5, 9, 10] (by decide +kernel) h
set_option maxRecDepth 20000 in
def csE : List Cond := [.laysStatic "java/lang/String" "COMPACT_STRINGS" "Z", .initialized "java/lang/String", .laysStatic "jdk/internal/util/Preconditions" "SIOOBE_FORMATTER" "Ljava/util/function/BiFunction;", .initialized "jdk/internal/util/Preconditions", .laysStatic Bundle.tN "UNASSIGNED_STACK" Bundle.steD, .laysStatic Bundle.tN "SUPPRESSED_SENTINEL" Bundle.listD, .initialized Bundle.tN, .arrayOver (.object OL), .arrayClass .int, .arrayClass .long, .classLink RL 8 RX10, .instantiable RX10 10, .initialized RX10, .classLink RL 16 RX11, .instantiable RX11 22, .initialized RX11, .methodLink RL 15 yX10_init, .instanceMethod yX10_init, .methodLink RL 18 yX11_init, .instanceMethod yX11_init]
set_option maxRecDepth 20000 in
theorem csE_in {w : Cond} (h : w ∈ csE) : w ∈ lwT := good2_mem (LL := lwL) (ps := [(2, 175), (1, 14), (2, 191), (1, 16), (4, 149), (4, 151), (1, 19), (1, 194), (1, 46), (5, 39), (1, 23), (1, 24), (1, 1), (4, 206), (4, 200), (1, 12), (1, 25), (1, 26), (4, 207), (4, 208)]) (ws := csE) rfl h
def csF : List Cond := (List.range 13).map (fun i => .stringRef (wR i).1 (wR i).2.1 (wR i).2.2)
set_option maxRecDepth 20000 in
theorem csF_in {w : Cond} (h : w ∈ csF) : w ∈ lwT := good2_mem (LL := lwL) (ps := [(2, 162), (2, 214), (2, 215), (2, 216), (2, 217), (2, 218), (2, 219), (2, 220), (2, 221), (2, 222), (2, 223), (4, 161), (4, 188)]) (ws := csF) rfl h
set_option maxRecDepth 20000 in
theorem xBd_in {w : Cond} (h : w ∈ xBd) : w ∈ lwT := good2_mem (LL := lwL) (ps := [(4, 126), (4, 128), (4, 130), (4, 124)]) (ws := xBd) rfl h
set_option maxRecDepth 20000 in
theorem inX0 : ∀ w ∈ wsX00, w ∈ lwT := fun w h => good2_mem (LL := lwL) (ps := [(1, 114), (1, 116), (1, 118), (1, 120)]) (ws := wsX00) rfl h
set_option maxRecDepth 20000 in
theorem inX1 : ∀ w ∈ wsX10, w ∈ lwT := fun w h => good2_mem (LL := lwL) (ps := [(2, 66), (2, 68), (2, 70), (2, 72), (2, 74)]) (ws := wsX10) rfl h
set_option maxRecDepth 20000 in
theorem inX2 : ∀ w ∈ wsX20, w ∈ lwT := fun w h => good2_mem (LL := lwL) (ps := [(2, 26), (2, 28), (2, 30), (2, 32), (2, 34), (2, 36), (2, 38), (2, 40), (2, 42), (2, 44), (2, 46), (2, 48), (2, 50), (2, 52)]) (ws := wsX20) rfl h
set_option maxRecDepth 20000 in
theorem inX3 : ∀ w ∈ wsX30, w ∈ lwT := fun w h => good2_mem (LL := lwL) (ps := [(1, 216), (1, 218), (1, 220)]) (ws := wsX30) rfl h
set_option maxRecDepth 20000 in
theorem inX4 : ∀ w ∈ wsX40, w ∈ lwT := fun w h => good2_mem (LL := lwL) (ps := [(1, 88), (1, 90), (1, 92), (1, 94), (1, 96), (1, 98), (1, 100)]) (ws := wsX40) rfl h
set_option maxRecDepth 20000 in
theorem inX5 : ∀ w ∈ wsX50, w ∈ lwT := fun w h => good2_mem (LL := lwL) (ps := [(1, 165), (1, 167)]) (ws := wsX50) rfl h
set_option maxRecDepth 20000 in
theorem inX6 : ∀ w ∈ wsX60, w ∈ lwT := fun w h => good2_mem (LL := lwL) (ps := [(1, 41), (1, 43)]) (ws := wsX60) rfl h
set_option maxRecDepth 20000 in
theorem inX7 : ∀ w ∈ wsX70, w ∈ lwT := fun w h => good2_mem (LL := lwL) (ps := [(1, 68), (1, 70), (1, 72), (1, 74), (1, 76)]) (ws := wsX70) rfl h
set_option maxRecDepth 20000 in
theorem inX8 : ∀ w ∈ wsX80, w ∈ lwT := fun w h => good2_mem (LL := lwL) (ps := [(1, 186), (1, 188), (1, 190)]) (ws := wsX80) rfl h
set_option maxRecDepth 20000 in
theorem inX9 : ∀ w ∈ wsX90, w ∈ lwT := fun w h => good2_mem (LL := lwL) (ps := [(1, 140), (1, 142), (1, 144), (1, 146), (1, 148), (1, 150), (1, 152)]) (ws := wsX90) rfl h
set_option maxRecDepth 20000 in
theorem inX10 : ∀ w ∈ wsX100, w ∈ lwT := fun w h => good2_mem (LL := lwL) (ps := [(2, 87), (2, 89), (2, 91), (2, 93), (2, 95), (2, 97), (2, 99), (2, 101), (2, 103), (2, 105)]) (ws := wsX100) rfl h
set_option maxRecDepth 20000 in
theorem inX11 : ∀ w ∈ wsX110, w ∈ lwT := fun w h => good2_mem (LL := lwL) (ps := [(4, 234), (4, 236), (4, 238), (5, 0), (5, 2), (5, 4), (5, 6), (5, 8), (5, 10), (5, 12), (5, 14), (5, 16), (5, 18), (5, 20), (5, 22), (5, 24), (5, 26), (5, 28), (5, 30), (5, 32), (5, 34), (5, 36)]) (ws := wsX110) rfl h
def csI : List Cond := [.instantiable RX0 4, .instantiable RX1 5, .instantiable RX2 14, .instantiable RX3 3, .instantiable RX4 7, .instantiable RX5 2, .instantiable RX6 2, .instantiable RX7 5, .instantiable RX8 3, .instantiable RX9 7, .instantiable RX10 10, .instantiable RX11 22]
set_option maxRecDepth 20000 in
theorem csI_in {w : Cond} (h : w ∈ csI) : w ∈ lwT := good2_mem (LL := lwL) (ps := [(1, 104), (1, 171), (1, 195), (1, 201), (1, 48), (1, 156), (1, 32), (1, 54), (1, 177), (1, 124), (1, 24), (4, 200)]) (ws := csI) rfl h
theorem xb_start {args : Array Value} {s : State} (hts : ∀ w ∈ lwT, w.before args s = true) : xB s := by
  intro w hw
  have h1 := List.all_eq_true.mp (show xBd.all (fun w => w.faceAtom && w.onTables) = true by decide +kernel) w hw
  simp only [Bool.and_eq_true] at h1
  exact va_tabs h1.2 rfl (hts w (xBd_in hw))
theorem getD_map_iI (l : List Int) (j : Nat) : (l.map iI).getD j 0 = iI (l.getD j 0) := by
  simp only [List.getD_eq_getElem?_getD, List.getElem?_map]
  cases l[j]? <;> rfl
theorem sx_start {args : Array Value} {s : State} {A : Nat → Prop} (hgv : (Jvm.Cond.and given_1 narrow_1).before args s = true) (hts : ∀ w ∈ lwT, w.before args s = true) (hA : ∀ a : Nat, a < s.heap.size → ¬ A a) : ∃ aK aV : Nat → Nat, sX aK aV A s s.heap := by
  have hf : ∀ w ∈ flG, w.before args s = true := fun w h => flat_of_before _ hgv w h
  have hfa : ∀ (i : Nat) (w : Cond), i < 13 → w ∈ ([.exactly (tmS i) "java/lang/String", .eq (.field (tmS i) "java/lang/String" "coder" "B") (.int 0), .arrayOf (.field (tmS i) "java/lang/String" "value" "[B") .byte, .eq (.length (.field (tmS i) "java/lang/String" "value" "[B")) (.int (Int32.ofNat (lenS.getD i 0)))] : List Cond) → w.before args s = true := fun i w hi hw => hf w (csA_in (List.mem_flatMap.mpr ⟨i, List.mem_range.mpr hi, hw⟩))
  obtain ⟨aK, aV, hS, hev⟩ := vk_Sof (args := args) (s := s) (N := 13) (tm := tmS) (len := lenS) (byt := bytS) (A := A) (fun i hi => (by decide : ∀ i : Nat, i < 13 → lenS.getD i 0 < 2 ^ 31) i hi) (fun i hi => hfa i _ hi (by simp)) (fun i hi => hfa i _ hi (by simp)) (fun i hi => hfa i _ hi (by simp)) (fun i hi => hfa i _ hi (by simp))
    (fun i hi j hj => hf _ (csB_in (List.mem_flatMap.mpr ⟨i, List.mem_range.mpr hi, List.mem_map.mpr ⟨j, List.mem_range.mpr hj, rfl⟩⟩)))
    (fun i j hi hj hij => by
      rcases Nat.lt_or_gt_of_ne hij with h | h
      · exact Or.inl (hf _ (csC_in (List.mem_flatMap.mpr ⟨j, List.mem_range.mpr hj, List.mem_map.mpr ⟨i, List.mem_range.mpr h, rfl⟩⟩)))
      · exact Or.inr (hf _ (csC_in (List.mem_flatMap.mpr ⟨i, List.mem_range.mpr hi, List.mem_map.mpr ⟨j, List.mem_range.mpr h, rfl⟩⟩)))) hA
  have hD : ∀ w ∈ csD, w.before args s = true := fun w h => hf w (csD_in h)
  have hE : ∀ w ∈ csE, w.before args s = true := fun w h => hts w (csE_in h)
  refine ⟨aK, aV, ?_, ?_, fun i hi => ?_, fun i hi => ?_, ?_, ?_⟩
  · refine va_Zof (hE (.laysStatic "java/lang/String" "COMPACT_STRINGS" "Z") (by simp [csE])) (hE (.initialized "java/lang/String") (by simp [csE])) ?_ hA
    exact Cond.eq_int (hD (.eq (.static "java/lang/String" "COMPACT_STRINGS" "Z") (.int 1)) (by simp [csD])) rfl
  · exact va_Zqof (hE (.laysStatic "jdk/internal/util/Preconditions" "SIOOBE_FORMATTER" "Ljava/util/function/BiFunction;") (by simp [csE])) (hE (.initialized "jdk/internal/util/Preconditions") (by simp [csE])) (hD (.isRef (.static "jdk/internal/util/Preconditions" "SIOOBE_FORMATTER" "Ljava/util/function/BiFunction;")) (by simp [csD])) hA
  · obtain ⟨k1, k2, k3, k4⟩ := hS.1 i (by omega)
    refine ⟨k1, k2, k3, ?_⟩
    have e1 : lenS.getD i 0 = (wT i).length := (by decide : ∀ i : Nat, i < 11 → lenS.getD i 0 = (wT i).length) i hi
    have e2 : bytS.getD i [] = (wT i).map iI := by
      have : ∀ k : Nat, k < 11 → bytS[k]? = some ((wT k).map iI) := by
        intro k hk
        unfold bytS
        rw [List.getElem?_append_left (by simpa using hk), List.getElem?_map, List.getElem?_range hk]
        rfl
      rw [List.getD_eq_getElem?_getD, this i hi]
      rfl
    rw [e1, e2] at k4
    have e3 : (fun j : Nat => Value.int (((wT i).map iI).getD j 0)) = fun j : Nat => Value.int (iI ((fun j : Int => (wT i).getD j.toNat 0) (j : Int))) := by
      funext j
      rw [getD_map_iI]
      rfl
    rw [e3] at k4
    exact k4
  · exact vk_R.of (hts _ (csF_in (List.mem_map.mpr ⟨i, List.mem_range.mpr hi, rfl⟩))) (hev i hi)
  · exact vx_Zqof (hE (.laysStatic Bundle.tN "UNASSIGNED_STACK" Bundle.steD) (by simp [csE])) (hE (.initialized Bundle.tN) (by simp [csE])) (hD (.isRef (.static Bundle.tN "UNASSIGNED_STACK" Bundle.steD)) (by simp [csD])) hA
  · exact vx_Zqof (hE (.laysStatic Bundle.tN "SUPPRESSED_SENTINEL" Bundle.listD) (by simp [csE])) (hE (.initialized Bundle.tN) (by simp [csE])) (hD (.isRef (.static Bundle.tN "SUPPRESSED_SENTINEL" Bundle.listD)) (by simp [csD])) hA
theorem k_start {args : Array Value} {s : State} (hts : ∀ w ∈ lwT, w.before args s = true) : ∃ (G : va_G) (cI cJ cO : ClassId), va_K G vwCl (tyZ cI cJ cO) s := by
  have hI : ∀ w ∈ csI, w.before args s = true := fun w h => hts w (csI_in h)
  have hE : ∀ w ∈ csE, w.before args s = true := fun w h => hts w (csE_in h)
  obtain ⟨c0, i0, h0⟩ := u_known (C := RX0) (T := TX0) (N := 4) (n := 4) hts inX0 (hI (.instantiable RX0 4) (by simp [csI]))
  obtain ⟨c1, i1, h1⟩ := u_known (C := RX1) (T := TX1) (N := 5) (n := 5) hts inX1 (hI (.instantiable RX1 5) (by simp [csI]))
  obtain ⟨c2, i2, h2⟩ := u_known (C := RX2) (T := TX2) (N := 14) (n := 14) hts inX2 (hI (.instantiable RX2 14) (by simp [csI]))
  obtain ⟨c3, i3, h3⟩ := u_known (C := RX3) (T := TX3) (N := 3) (n := 3) hts inX3 (hI (.instantiable RX3 3) (by simp [csI]))
  obtain ⟨c4, i4, h4⟩ := u_known (C := RX4) (T := TX4) (N := 7) (n := 7) hts inX4 (hI (.instantiable RX4 7) (by simp [csI]))
  obtain ⟨c5, i5, h5⟩ := u_known (C := RX5) (T := TX5) (N := 2) (n := 2) hts inX5 (hI (.instantiable RX5 2) (by simp [csI]))
  obtain ⟨c6, i6, h6⟩ := u_known (C := RX6) (T := TX6) (N := 2) (n := 2) hts inX6 (hI (.instantiable RX6 2) (by simp [csI]))
  obtain ⟨c7, i7, h7⟩ := u_known (C := RX7) (T := TX7) (N := 5) (n := 5) hts inX7 (hI (.instantiable RX7 5) (by simp [csI]))
  obtain ⟨c8, i8, h8⟩ := u_known (C := RX8) (T := TX8) (N := 3) (n := 3) hts inX8 (hI (.instantiable RX8 3) (by simp [csI]))
  obtain ⟨c9, i9, h9⟩ := u_known (C := RX9) (T := TX9) (N := 7) (n := 7) hts inX9 (hI (.instantiable RX9 7) (by simp [csI]))
  obtain ⟨c10, i10, h10⟩ := u_known (C := RX10) (T := TX10) (N := 10) (n := 10) hts inX10 (hI (.instantiable RX10 10) (by simp [csI]))
  obtain ⟨c11, i11, h11⟩ := u_known (C := RX11) (T := TX11) (N := 22) (n := 22) hts inX11 (hI (.instantiable RX11 22) (by simp [csI]))
  obtain ⟨cI, kI, mI, f1, f2, f3⟩ := Cond.arrayClass_spec (hE (.arrayClass .int) (by simp [csE]))
  obtain ⟨cJ, kJ, mJ, g1, g2, g3⟩ := Cond.arrayClass_spec (hE (.arrayClass .long) (by simp [csE]))
  obtain ⟨mO, cO, kO, e1, e2, e3, e4, e5⟩ := Cond.arrayOver_spec (hE (.arrayOver (.object OL)) (by simp [csE]))
  refine ⟨(fun k => [c0, c1, c2, c3, c4, c5, c6, c7, c8, c9, c10, c11].getD k c0, fun k => [i0, i1, i2, i3, i4, i5, i6, i7, i8, i9, i10, i11].getD k i0), cI, cJ, cO, ?_, ?_⟩
  · intro k q hq
    match k, hq with
      | 0, hq => cases hq; exact h0
      | 1, hq => cases hq; exact h1
      | 2, hq => cases hq; exact h2
      | 3, hq => cases hq; exact h3
      | 4, hq => cases hq; exact h4
      | 5, hq => cases hq; exact h5
      | 6, hq => cases hq; exact h6
      | 7, hq => cases hq; exact h7
      | 8, hq => cases hq; exact h8
      | 9, hq => cases hq; exact h9
      | 10, hq => cases hq; exact h10
      | 11, hq => cases hq; exact h11
      | k + 12, hq => simp [vwCl] at hq
  · intro k q hq
    match k, hq with
      | 0, hq => cases hq; exact ⟨fun N z => ⟨(fun k h => by cases h), kI, f2, mI, f3⟩, f1⟩
      | 1, hq => cases hq; exact ⟨fun N z => ⟨(fun k h => by cases h), kJ, g2, mJ, g3⟩, g1⟩
      | 2, hq => cases hq; exact ⟨fun N z => ⟨(fun k h => by cases h), kO, e3, mO, e4⟩, kO, mO, e3, e4, e1, e5⟩
      | k + 3, hq => simp [tyZ] at hq
