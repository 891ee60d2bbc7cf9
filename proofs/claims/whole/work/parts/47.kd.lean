/-! the tokens of a text, as the class lays them -/
/-- a run's number as the class keeps it -/
def NX (T : Int → Int) (y : Int) : Nat → Int
  | 0 => 0
  | n + 1 => if isLt (T (y + (n : Int))) then NX T y n else NX T y n * 10 + (T (y + (n : Int)) - 48)
theorem NX_N {T : Int → Int} {y : Int} : ∀ n : Nat, LC T y n = 0 → n ≤ 5 → NX T y n = NUM T y n := by
  intro n
  induction n with
  | zero => intro _ _; rfl
  | succ n ih =>
    intro h hn
    have l := LC_R (T := T) (y := y) n
    rw [LC_s] at h
    have hb9 : bI (isLt (T (y + (n : Int)))) = 0 ∧ LC T y n = 0 := by
      have : 0 ≤ bI (isLt (T (y + (n : Int)))) := by unfold bI; split <;> omega
      omega
    have hn9 : ¬ isLt (T (y + (n : Int))) := fun q => by have := bI_t q; omega
    show (if isLt (T (y + (n : Int))) then NX T y n else NX T y n * 10 + (T (y + (n : Int)) - 48)) = if n < 5 then 10 * NUM T y n + T (y + (n : Int)) - 48 else NUM T y n
    rw [if_neg hn9, if_pos (by omega), ih hb9.2 (by omega)]
    omega
theorem LC_all {T : Int → Int} {y : Int} : ∀ n : Nat, LC T y n = (n : Int) → ∀ j : Int, y ≤ j → j < y + (n : Int) → isLt (T j) := by
  intro n
  induction n with
  | zero => intro _ j j0 j1; omega
  | succ n ih =>
    intro h j j0 j1
    have l := LC_R (T := T) (y := y) n
    rw [LC_s] at h
    have hb9 : bI (isLt (T (y + (n : Int)))) = 1 ∧ LC T y n = (n : Int) := by
      have : bI (isLt (T (y + (n : Int)))) ≤ 1 := by unfold bI; split <;> omega
      omega
    by_cases q : j < y + (n : Int)
    · exact ih hb9.2 j j0 q
    · rw [show j = y + (n : Int) by omega]
      by_cases t : isLt (T (y + (n : Int)))
      · exact t
      · have := bI_f t; omega
def KR (T : Int → Int) (y n : Int) : Int := if 0 < n ∧ LC T y n.toNat = n then WKD (WRD T y n.toNat) else if 0 < n ∧ LC T y n.toNat = 0 ∧ n ≤ 5 then 3 else 1
/-- the kind of the token that comes at y, in the class's numbers -/
def KND (T : Int → Int) (z y : Int) : Int := if tkS T z y = 2 then WKD (tkW T z y) else if tkS T z y = 4 then 2 else tkS T z y
theorem WKD_R (w : Int) : 4 ≤ WKD w ∧ WKD w ≤ 15 := by
  unfold WKD
  repeat' split
  all_goals omega
/-- where the k-th token is looked for -/
def POS (T : Int → Int) (z : Int) : Nat → Int
  | 0 => 0
  | k + 1 => tkB T z (POS T z k)
def TOK (T : Int → Int) (z : Int) (K P M : Int → Int) (c : Int) : Prop := ∀ k : Nat, (k : Int) < c → K k = KND T z (POS T z k) ∧ P k = tkP T z (POS T z k) ∧ (K k = 3 → M k = tkN T z (POS T z k))
def TKS (T : Int → Int) (z : Int) (K P M : Int → Int) (c : Int) : Prop := 1 ≤ c ∧ c ≤ 601 ∧ TOK T z K P M c ∧ (∀ k : Nat, (k : Int) < c - 1 → 2 ≤ K k) ∧ K (c - 1) ≤ 1
theorem TOK_add {T : Int → Int} {z : Int} {K P M : Int → Int} {c x y n : Int} (h : TOK T z K P M c) (hc : 0 ≤ c) (h1 : x = KND T z (POS T z c.toNat)) (h2 : y = tkP T z (POS T z c.toNat)) (h3 : x = 3 → n = tkN T z (POS T z c.toNat)) : TOK T z (uI K c x) (uI P c y) (uI M c n) (c + 1) := by
  intro k hk
  by_cases q : (k : Int) = c
  · have e : k = c.toNat := by omega
    rw [q, uI_s, uI_s, uI_s, e]
    exact ⟨h1, h2, h3⟩
  · rw [uI_n q, uI_n q, uI_n q]
    exact h k (by omega)
theorem two_add {K : Int → Int} {c x : Int} (h : ∀ k : Nat, (k : Int) < c → 2 ≤ K k) (hx : 2 ≤ x) : ∀ k : Nat, (k : Int) < c + 1 → 2 ≤ uI K c x k := by
  intro k hk
  by_cases q : (k : Int) = c
  · rw [q, uI_s]; exact hx
  · rw [uI_n q]; exact h k (by omega)
theorem TKS_add {T : Int → Int} {z : Int} {K P M : Int → Int} {c x y n : Int} (h : TOK T z K P M c) (hc : 0 ≤ c ∧ c ≤ 600) (h2k : ∀ k : Nat, (k : Int) < c → 2 ≤ K k) (hx : x ≤ 1) (h1 : x = KND T z (POS T z c.toNat)) (h2 : y = tkP T z (POS T z c.toNat)) : TKS T z (uI K c x) (uI P c y) (uI M c n) (c + 1) := by
  refine ⟨by omega, by omega, TOK_add h hc.1 h1 h2 (fun q => by omega), fun k hk => ?_, ?_⟩
  · rw [uI_n (by omega)]; exact h2k k (by omega)
  · rw [show c + 1 - 1 = c by omega, uI_s]; exact hx
theorem BHD_1 {T : Int → Int} {z p : Int} (hz : p < z) (h : isLt (T p) ∨ isDg (T p)) : p + 1 ≤ BHD T z p := by
  rw [BHD_go ⟨hz, h⟩]
  exact BHD_R.1
theorem tok_P {T : Int → Int} {z y p : Int} (hs : SK T z y = p) (h6 : p < 600) : tkP T z y = p := by
  unfold tkP
  rw [hs, if_neg (by omega)]
theorem tok_semi {T : Int → Int} {z y p : Int} (hs : SK T z y = p) (hz : p < z) (h6 : p < 600) (h : T p = 59) : KND T z y = 2 ∧ tkB T z y = p + 1 := by
  have n1 : ¬ (isLt (T p) ∨ isDg (T p)) := by rw [h]; decide
  constructor
  · unfold KND tkS
    rw [hs, if_neg (show ¬ (600 < z ∧ 600 ≤ p) by omega), if_neg (show ¬ z ≤ p by omega), if_neg n1, if_pos h]
    rfl
  · unfold tkB
    rw [hs, if_neg (by omega), if_neg n1]
theorem tok_run {T : Int → Int} {z y p : Int} (hs : SK T z y = p) (hz : p < z) (h6 : p < 600) (h : T p ≠ 59) : KND T z y = KR T p (BHD T z p - p) ∧ tkB T z y = zmax (BHD T z p) (p + 1) ∧ (KR T p (BHD T z p - p) = 3 → tkN T z y = NX T p (BHD T z p - p).toNat) := by
  by_cases n1 : isLt (T p) ∨ isDg (T p)
  · have b1 := BHD_1 hz n1
    have eS : tkS T z y = SRT T p (BHD T z p - p).toNat := by
      unfold tkS
      rw [hs, if_neg (show ¬ (600 < z ∧ 600 ≤ p) by omega), if_neg (show ¬ z ≤ p by omega), if_pos n1]
    have eB : tkB T z y = zmax (BHD T z p) (p + 1) := by
      unfold tkB zmax
      rw [hs, if_neg (by omega), if_pos n1]
      split <;> omega
    have eN : tkN T z y = NUM T p (BHD T z p - p).toNat := by unfold tkN; rw [hs]
    have eW : tkW T z y = WRD T p (BHD T z p - p).toNat := by unfold tkW; rw [hs]
    have eT : (((BHD T z p - p).toNat : Nat) : Int) = BHD T z p - p := by omega
    refine ⟨?_, eB, ?_⟩
    · unfold KND KR
      rw [eS, eW]
      unfold SRT
      by_cases q1 : LC T p (BHD T z p - p).toNat = BHD T z p - p
      · rw [if_pos (c := LC T p (BHD T z p - p).toNat = (((BHD T z p - p).toNat : Nat) : Int)) (by omega), if_pos (c := 0 < BHD T z p - p ∧ LC T p (BHD T z p - p).toNat = BHD T z p - p) ⟨by omega, q1⟩]
        rfl
      · rw [if_neg (c := LC T p (BHD T z p - p).toNat = (((BHD T z p - p).toNat : Nat) : Int)) (by omega), if_neg (c := 0 < BHD T z p - p ∧ LC T p (BHD T z p - p).toNat = BHD T z p - p) (fun w => q1 w.2)]
        by_cases q2 : LC T p (BHD T z p - p).toNat = 0 ∧ (BHD T z p - p).toNat ≤ 5
        · rw [if_pos q2, if_pos (c := 0 < BHD T z p - p ∧ LC T p (BHD T z p - p).toNat = 0 ∧ BHD T z p - p ≤ 5) ⟨by omega, q2.1, by omega⟩]
          rfl
        · rw [if_neg q2, if_neg (c := 0 < BHD T z p - p ∧ LC T p (BHD T z p - p).toNat = 0 ∧ BHD T z p - p ≤ 5) (fun w => q2 ⟨w.2.1, by omega⟩)]
          rfl
    · intro h3
      rw [eN]
      unfold KR at h3
      have w := WKD_R (WRD T p (BHD T z p - p).toNat)
      split at h3
      · omega
      · split at h3
        · next q => exact (NX_N _ q.2.1 (by omega)).symm
        · omega
  · have eB0 : BHD T z p = p := BHD_end (fun q => n1 q.2)
    have k1 : KR T p (BHD T z p - p) = 1 := by
      unfold KR
      rw [eB0, if_neg (by omega), if_neg (by omega)]
    refine ⟨?_, ?_, fun h3 => by omega⟩
    · rw [k1]
      unfold KND tkS
      rw [hs, if_neg (show ¬ (600 < z ∧ 600 ≤ p) by omega), if_neg (show ¬ z ≤ p by omega), if_neg n1, if_neg h]
      rfl
    · unfold tkB zmax
      rw [hs, if_neg (by omega), if_neg n1, eB0]
      split <;> omega
theorem tok_long {T : Int → Int} {z y : Int} (hz : 600 < z) (h : 600 ≤ SK T z y) : KND T z y = 1 ∧ tkP T z y = 600 := by
  constructor
  · unfold KND tkS
    rw [if_pos (c := 600 < z ∧ 600 ≤ SK T z y) ⟨hz, h⟩]
    rfl
  · unfold tkP
    rw [if_pos ⟨hz, h⟩]
theorem tok_end {T : Int → Int} {z y : Int} (hz : z ≤ 600) (h : SK T z y = z) : KND T z y = 0 ∧ tkP T z y = z := by
  constructor
  · unfold KND tkS
    rw [if_neg (c := 600 < z ∧ 600 ≤ SK T z y) (by omega), if_pos (c := z ≤ SK T z y) (by omega)]
    rfl
  · unfold tkP
    rw [if_neg (by omega), h]
theorem hiX7_kindOfWord_X6 : ∀ w ∈ wsX60, w ∈ wsX7_kindOfWord := fun _ h => List.mem_cons_of_mem _ (List.mem_append_right _ h)
theorem ziX7_kindOfWord : yX7_kindOfWord.cls = RX7 ∧ yX7_kindOfWord.cls ≠ "java/lang/invoke/MethodHandle" ∧ yX7_kindOfWord.cls ≠ "java/lang/invoke/VarHandle" ∧ (parseMethodDescriptor yX7_kindOfWord.desc).map (fun d => d.parameters.length) = some 3 := by decide +kernel
set_option maxHeartbeats 4000000 in
set_option maxRecDepth 100000 in
theorem c_X7_kindOfWord {l : Launch} {G : va_G} {cI cJ cO : ClassId} {aK aV : Nat → Nat}  (h : Nat) (q : Nat → Nat) (v : Nat → Int) (a : Nat → Int → Int) (y n : Int)  (h1 : 0 ≤ y ∧ 1 ≤ n ∧ y + n ≤ v 1) (h2 : 0 ≤ v 1 ∧ v 1 ≤ 640) (hT : ∀ j : Int, 0 ≤ j → j < 640 → 0 ≤ a 0 j ∧ a 0 j ≤ 255) (hL : ∀ j : Int, y ≤ j → j < y + n → isLt (a 0 j)) : zCK l yX7_kindOfWord wsX7_kindOfWord { frames := 5, cells := 0, slots := 0, locals := 124 } G (tyZ cI cJ cO) aK aV (S := Unit) [.ref h, .int (iI y), .int (iI n)] (tW cI cJ h q v a) (zI (fun _ => WKD (WRD (a 0) y n.toNat))) (fun _ => True) (fun _ => tW cI cJ h q v a) 0 0 := by
  refine z_startK (cc := cX7_kindOfWord) (maxL := 3) (ret := (some .int)) (by decide) rfl (Nat.le_of_ble_eq_true rfl) ?_
  intro p e s m below meth c A ls F hr hlk hnm hAe hA hW hl hX
  have hx := F.1
  have hb := F.2.1
  have hown : s.vm.findClass RX7 = some m.cls := F.2.2.2.1
  have hts := F.2.2.2.2
  have hl : lv_has ls 3 [(0, .ref h), (1, .int (iI y)), (2, .int (iI n))] := hl
  refine lv_aload_n hx hb dX7_kindOfWord_0 rfl (lv_at hl 0 rfl) ?_
  refine lv_iload_n hx hb dX7_kindOfWord_1 rfl (lv_at hl 1 rfl) ?_
  refine lv_iload_n hx hb dX7_kindOfWord_2 rfl (lv_at hl 2 rfl) ?_
  refine va_ldcS hx hb hown (hX.2.2.2.1 0 (by decide)) dX7_kindOfWord_3 ?_
  refine z_callSK (As := [.ref h, .int (iI y), .int (iI n), .ref (aK 0)]) (rest := []) F hX (c_X7_spells  h q v a y n 0 (show 0 ≤ y ∧ 0 ≤ n ∧ y + n ≤ (v 1) by omega) (show 0 ≤ (v 1) ∧ (v 1) ≤ 640 by omega) hT (show 0 < 11 by decide)) gX7_kindOfWord_X7_spells rfl ziX7_spells ⟨rfl, rfl, by decide, by decide⟩ rfl hl.1 rfl (Nat.le_of_ble_eq_true rfl) dX7_kindOfWord_5 ⟨Nat.zero_le _, Nat.zero_le _⟩ hW hA [0, 1] rfl (by decide) (fun _ => rfl) (fun _ => tW cI cJ h q v a) (fun _ => rfl) (fun _ => [.int (iI (bI (spl ((a 0)) y n 0)))]) (fun _ => rfl) (fun _ H locs hp5 hW => ?_)
  refine z_b_eq (tgt := 13) hx hb dX7_kindOfWord_8 (by decide) (fun c8 => ?_) (fun c8 => ?_)
  · refine lv_aload_n hx hb dX7_kindOfWord_13 rfl (lv_at hl 0 rfl) ?_
    refine lv_iload_n hx hb dX7_kindOfWord_14 rfl (lv_at hl 1 rfl) ?_
    refine lv_iload_n hx hb dX7_kindOfWord_15 rfl (lv_at hl 2 rfl) ?_
    refine va_ldcS hx hb hown (hX.2.2.2.1 1 (by decide)) dX7_kindOfWord_16 ?_
    refine z_callSK (As := [.ref h, .int (iI y), .int (iI n), .ref (aK 1)]) (rest := []) F hX (c_X7_spells  h q v a y n 1 (show 0 ≤ y ∧ 0 ≤ n ∧ y + n ≤ (v 1) by omega) (show 0 ≤ (v 1) ∧ (v 1) ≤ 640 by omega) hT (show 1 < 11 by decide)) gX7_kindOfWord_X7_spells rfl ziX7_spells ⟨rfl, rfl, by decide, by decide⟩ rfl hl.1 rfl (Nat.le_of_ble_eq_true rfl) dX7_kindOfWord_18 ⟨Nat.zero_le _, Nat.zero_le _⟩ hW hA [0, 1] rfl (by decide) (fun _ => rfl) (fun _ => tW cI cJ h q v a) (fun _ => rfl) (fun _ => [.int (iI (bI (spl ((a 0)) y n 1)))]) (fun _ => rfl) (fun _ H locs hp18 hW => ?_)
    refine z_b_eq (tgt := 27) hx hb dX7_kindOfWord_21 (by decide) (fun c21 => ?_) (fun c21 => ?_)
    · refine lv_aload_n hx hb dX7_kindOfWord_27 rfl (lv_at hl 0 rfl) ?_
      refine lv_iload_n hx hb dX7_kindOfWord_28 rfl (lv_at hl 1 rfl) ?_
      refine lv_iload_n hx hb dX7_kindOfWord_29 rfl (lv_at hl 2 rfl) ?_
      refine va_ldcS hx hb hown (hX.2.2.2.1 2 (by decide)) dX7_kindOfWord_30 ?_
      refine z_callSK (As := [.ref h, .int (iI y), .int (iI n), .ref (aK 2)]) (rest := []) F hX (c_X7_spells  h q v a y n 2 (show 0 ≤ y ∧ 0 ≤ n ∧ y + n ≤ (v 1) by omega) (show 0 ≤ (v 1) ∧ (v 1) ≤ 640 by omega) hT (show 2 < 11 by decide)) gX7_kindOfWord_X7_spells rfl ziX7_spells ⟨rfl, rfl, by decide, by decide⟩ rfl hl.1 rfl (Nat.le_of_ble_eq_true rfl) dX7_kindOfWord_32 ⟨Nat.zero_le _, Nat.zero_le _⟩ hW hA [0, 1] rfl (by decide) (fun _ => rfl) (fun _ => tW cI cJ h q v a) (fun _ => rfl) (fun _ => [.int (iI (bI (spl ((a 0)) y n 2)))]) (fun _ => rfl) (fun _ H locs hp32 hW => ?_)
      refine z_b_eq (tgt := 41) hx hb dX7_kindOfWord_35 (by decide) (fun c35 => ?_) (fun c35 => ?_)
      · refine lv_aload_n hx hb dX7_kindOfWord_41 rfl (lv_at hl 0 rfl) ?_
        refine lv_iload_n hx hb dX7_kindOfWord_42 rfl (lv_at hl 1 rfl) ?_
        refine lv_iload_n hx hb dX7_kindOfWord_43 rfl (lv_at hl 2 rfl) ?_
        refine va_ldcS hx hb hown (hX.2.2.2.1 3 (by decide)) dX7_kindOfWord_44 ?_
        refine z_callSK (As := [.ref h, .int (iI y), .int (iI n), .ref (aK 3)]) (rest := []) F hX (c_X7_spells  h q v a y n 3 (show 0 ≤ y ∧ 0 ≤ n ∧ y + n ≤ (v 1) by omega) (show 0 ≤ (v 1) ∧ (v 1) ≤ 640 by omega) hT (show 3 < 11 by decide)) gX7_kindOfWord_X7_spells rfl ziX7_spells ⟨rfl, rfl, by decide, by decide⟩ rfl hl.1 rfl (Nat.le_of_ble_eq_true rfl) dX7_kindOfWord_46 ⟨Nat.zero_le _, Nat.zero_le _⟩ hW hA [0, 1] rfl (by decide) (fun _ => rfl) (fun _ => tW cI cJ h q v a) (fun _ => rfl) (fun _ => [.int (iI (bI (spl ((a 0)) y n 3)))]) (fun _ => rfl) (fun _ H locs hp46 hW => ?_)
        refine z_b_eq (tgt := 55) hx hb dX7_kindOfWord_49 (by decide) (fun c49 => ?_) (fun c49 => ?_)
        · refine lv_aload_n hx hb dX7_kindOfWord_55 rfl (lv_at hl 0 rfl) ?_
          refine lv_iload_n hx hb dX7_kindOfWord_56 rfl (lv_at hl 1 rfl) ?_
          refine lv_iload_n hx hb dX7_kindOfWord_57 rfl (lv_at hl 2 rfl) ?_
          refine va_ldcS hx hb hown (hX.2.2.2.1 4 (by decide)) dX7_kindOfWord_58 ?_
          refine z_callSK (As := [.ref h, .int (iI y), .int (iI n), .ref (aK 4)]) (rest := []) F hX (c_X7_spells  h q v a y n 4 (show 0 ≤ y ∧ 0 ≤ n ∧ y + n ≤ (v 1) by omega) (show 0 ≤ (v 1) ∧ (v 1) ≤ 640 by omega) hT (show 4 < 11 by decide)) gX7_kindOfWord_X7_spells rfl ziX7_spells ⟨rfl, rfl, by decide, by decide⟩ rfl hl.1 rfl (Nat.le_of_ble_eq_true rfl) dX7_kindOfWord_60 ⟨Nat.zero_le _, Nat.zero_le _⟩ hW hA [0, 1] rfl (by decide) (fun _ => rfl) (fun _ => tW cI cJ h q v a) (fun _ => rfl) (fun _ => [.int (iI (bI (spl ((a 0)) y n 4)))]) (fun _ => rfl) (fun _ H locs hp60 hW => ?_)
          refine z_b_eq (tgt := 69) hx hb dX7_kindOfWord_63 (by decide) (fun c63 => ?_) (fun c63 => ?_)
          · refine lv_aload_n hx hb dX7_kindOfWord_69 rfl (lv_at hl 0 rfl) ?_
            refine lv_iload_n hx hb dX7_kindOfWord_70 rfl (lv_at hl 1 rfl) ?_
            refine lv_iload_n hx hb dX7_kindOfWord_71 rfl (lv_at hl 2 rfl) ?_
            refine va_ldcS hx hb hown (hX.2.2.2.1 5 (by decide)) dX7_kindOfWord_72 ?_
            refine z_callSK (As := [.ref h, .int (iI y), .int (iI n), .ref (aK 5)]) (rest := []) F hX (c_X7_spells  h q v a y n 5 (show 0 ≤ y ∧ 0 ≤ n ∧ y + n ≤ (v 1) by omega) (show 0 ≤ (v 1) ∧ (v 1) ≤ 640 by omega) hT (show 5 < 11 by decide)) gX7_kindOfWord_X7_spells rfl ziX7_spells ⟨rfl, rfl, by decide, by decide⟩ rfl hl.1 rfl (Nat.le_of_ble_eq_true rfl) dX7_kindOfWord_74 ⟨Nat.zero_le _, Nat.zero_le _⟩ hW hA [0, 1] rfl (by decide) (fun _ => rfl) (fun _ => tW cI cJ h q v a) (fun _ => rfl) (fun _ => [.int (iI (bI (spl ((a 0)) y n 5)))]) (fun _ => rfl) (fun _ H locs hp74 hW => ?_)
            refine z_b_eq (tgt := 83) hx hb dX7_kindOfWord_77 (by decide) (fun c77 => ?_) (fun c77 => ?_)
            · refine lv_aload_n hx hb dX7_kindOfWord_83 rfl (lv_at hl 0 rfl) ?_
              refine lv_iload_n hx hb dX7_kindOfWord_84 rfl (lv_at hl 1 rfl) ?_
              refine lv_iload_n hx hb dX7_kindOfWord_85 rfl (lv_at hl 2 rfl) ?_
              refine va_ldcS hx hb hown (hX.2.2.2.1 6 (by decide)) dX7_kindOfWord_86 ?_
              refine z_callSK (As := [.ref h, .int (iI y), .int (iI n), .ref (aK 6)]) (rest := []) F hX (c_X7_spells  h q v a y n 6 (show 0 ≤ y ∧ 0 ≤ n ∧ y + n ≤ (v 1) by omega) (show 0 ≤ (v 1) ∧ (v 1) ≤ 640 by omega) hT (show 6 < 11 by decide)) gX7_kindOfWord_X7_spells rfl ziX7_spells ⟨rfl, rfl, by decide, by decide⟩ rfl hl.1 rfl (Nat.le_of_ble_eq_true rfl) dX7_kindOfWord_88 ⟨Nat.zero_le _, Nat.zero_le _⟩ hW hA [0, 1] rfl (by decide) (fun _ => rfl) (fun _ => tW cI cJ h q v a) (fun _ => rfl) (fun _ => [.int (iI (bI (spl ((a 0)) y n 6)))]) (fun _ => rfl) (fun _ H locs hp88 hW => ?_)
              refine z_b_eq (tgt := 97) hx hb dX7_kindOfWord_91 (by decide) (fun c91 => ?_) (fun c91 => ?_)
              · refine lv_aload_n hx hb dX7_kindOfWord_97 rfl (lv_at hl 0 rfl) ?_
                refine lv_iload_n hx hb dX7_kindOfWord_98 rfl (lv_at hl 1 rfl) ?_
                refine lv_iload_n hx hb dX7_kindOfWord_99 rfl (lv_at hl 2 rfl) ?_
                refine va_ldcS hx hb hown (hX.2.2.2.1 7 (by decide)) dX7_kindOfWord_100 ?_
                refine z_callSK (As := [.ref h, .int (iI y), .int (iI n), .ref (aK 7)]) (rest := []) F hX (c_X7_spells  h q v a y n 7 (show 0 ≤ y ∧ 0 ≤ n ∧ y + n ≤ (v 1) by omega) (show 0 ≤ (v 1) ∧ (v 1) ≤ 640 by omega) hT (show 7 < 11 by decide)) gX7_kindOfWord_X7_spells rfl ziX7_spells ⟨rfl, rfl, by decide, by decide⟩ rfl hl.1 rfl (Nat.le_of_ble_eq_true rfl) dX7_kindOfWord_102 ⟨Nat.zero_le _, Nat.zero_le _⟩ hW hA [0, 1] rfl (by decide) (fun _ => rfl) (fun _ => tW cI cJ h q v a) (fun _ => rfl) (fun _ => [.int (iI (bI (spl ((a 0)) y n 7)))]) (fun _ => rfl) (fun _ H locs hp102 hW => ?_)
                refine z_b_eq (tgt := 111) hx hb dX7_kindOfWord_105 (by decide) (fun c105 => ?_) (fun c105 => ?_)
                · refine lv_aload_n hx hb dX7_kindOfWord_111 rfl (lv_at hl 0 rfl) ?_
                  refine lv_iload_n hx hb dX7_kindOfWord_112 rfl (lv_at hl 1 rfl) ?_
                  refine lv_iload_n hx hb dX7_kindOfWord_113 rfl (lv_at hl 2 rfl) ?_
                  refine va_ldcS hx hb hown (hX.2.2.2.1 8 (by decide)) dX7_kindOfWord_114 ?_
                  refine z_callSK (As := [.ref h, .int (iI y), .int (iI n), .ref (aK 8)]) (rest := []) F hX (c_X7_spells  h q v a y n 8 (show 0 ≤ y ∧ 0 ≤ n ∧ y + n ≤ (v 1) by omega) (show 0 ≤ (v 1) ∧ (v 1) ≤ 640 by omega) hT (show 8 < 11 by decide)) gX7_kindOfWord_X7_spells rfl ziX7_spells ⟨rfl, rfl, by decide, by decide⟩ rfl hl.1 rfl (Nat.le_of_ble_eq_true rfl) dX7_kindOfWord_116 ⟨Nat.zero_le _, Nat.zero_le _⟩ hW hA [0, 1] rfl (by decide) (fun _ => rfl) (fun _ => tW cI cJ h q v a) (fun _ => rfl) (fun _ => [.int (iI (bI (spl ((a 0)) y n 8)))]) (fun _ => rfl) (fun _ H locs hp116 hW => ?_)
                  refine z_b_eq (tgt := 125) hx hb dX7_kindOfWord_119 (by decide) (fun c119 => ?_) (fun c119 => ?_)
                  · refine lv_aload_n hx hb dX7_kindOfWord_125 rfl (lv_at hl 0 rfl) ?_
                    refine lv_iload_n hx hb dX7_kindOfWord_126 rfl (lv_at hl 1 rfl) ?_
                    refine lv_iload_n hx hb dX7_kindOfWord_127 rfl (lv_at hl 2 rfl) ?_
                    refine va_ldcS hx hb hown (hX.2.2.2.1 9 (by decide)) dX7_kindOfWord_128 ?_
                    refine z_callSK (As := [.ref h, .int (iI y), .int (iI n), .ref (aK 9)]) (rest := []) F hX (c_X7_spells  h q v a y n 9 (show 0 ≤ y ∧ 0 ≤ n ∧ y + n ≤ (v 1) by omega) (show 0 ≤ (v 1) ∧ (v 1) ≤ 640 by omega) hT (show 9 < 11 by decide)) gX7_kindOfWord_X7_spells rfl ziX7_spells ⟨rfl, rfl, by decide, by decide⟩ rfl hl.1 rfl (Nat.le_of_ble_eq_true rfl) dX7_kindOfWord_130 ⟨Nat.zero_le _, Nat.zero_le _⟩ hW hA [0, 1] rfl (by decide) (fun _ => rfl) (fun _ => tW cI cJ h q v a) (fun _ => rfl) (fun _ => [.int (iI (bI (spl ((a 0)) y n 9)))]) (fun _ => rfl) (fun _ H locs hp130 hW => ?_)
                    refine z_b_eq (tgt := 139) hx hb dX7_kindOfWord_133 (by decide) (fun c133 => ?_) (fun c133 => ?_)
                    · refine lv_aload_n hx hb dX7_kindOfWord_139 rfl (lv_at hl 0 rfl) ?_
                      refine lv_iload_n hx hb dX7_kindOfWord_140 rfl (lv_at hl 1 rfl) ?_
                      refine lv_iload_n hx hb dX7_kindOfWord_141 rfl (lv_at hl 2 rfl) ?_
                      refine va_ldcS hx hb hown (hX.2.2.2.1 10 (by decide)) dX7_kindOfWord_142 ?_
                      refine z_callSK (As := [.ref h, .int (iI y), .int (iI n), .ref (aK 10)]) (rest := []) F hX (c_X7_spells  h q v a y n 10 (show 0 ≤ y ∧ 0 ≤ n ∧ y + n ≤ (v 1) by omega) (show 0 ≤ (v 1) ∧ (v 1) ≤ 640 by omega) hT (show 10 < 11 by decide)) gX7_kindOfWord_X7_spells rfl ziX7_spells ⟨rfl, rfl, by decide, by decide⟩ rfl hl.1 rfl (Nat.le_of_ble_eq_true rfl) dX7_kindOfWord_144 ⟨Nat.zero_le _, Nat.zero_le _⟩ hW hA [0, 1] rfl (by decide) (fun _ => rfl) (fun _ => tW cI cJ h q v a) (fun _ => rfl) (fun _ => [.int (iI (bI (spl ((a 0)) y n 10)))]) (fun _ => rfl) (fun _ H locs hp144 hW => ?_)
                      refine z_b_eq (tgt := 155) hx hb dX7_kindOfWord_147 (by decide) (fun c147 => ?_) (fun c147 => ?_)
                      · refine z_iconst (n := 4) hx hb dX7_kindOfWord_155 ?_
                        exact z_iret hx hb hr hlk hW () (by unfold WKD; rw [if_neg (fun q => c8 ((spl_W (by decide) (by omega) hL).mpr q)), if_neg (fun q => c21 ((spl_W (by decide) (by omega) hL).mpr q)), if_neg (fun q => c35 ((spl_W (by decide) (by omega) hL).mpr q)), if_neg (fun q => c49 ((spl_W (by decide) (by omega) hL).mpr q)), if_neg (fun q => c63 ((spl_W (by decide) (by omega) hL).mpr q)), if_neg (fun q => c77 ((spl_W (by decide) (by omega) hL).mpr q)), if_neg (fun q => c91 ((spl_W (by decide) (by omega) hL).mpr q)), if_neg (fun q => c105 ((spl_W (by decide) (by omega) hL).mpr q)), if_neg (fun q => c119 ((spl_W (by decide) (by omega) hL).mpr q)), if_neg (fun q => c133 ((spl_W (by decide) (by omega) hL).mpr q)), if_neg (fun q => c147 ((spl_W (by decide) (by omega) hL).mpr q))]) trivial rfl dX7_kindOfWord_156
                      · refine z_bipush hx hb dX7_kindOfWord_150 (by decide +kernel) ?_
                        refine lv_goto (tgt := 156) hx hb dX7_kindOfWord_152 (by decide) ?_
                        exact z_iret hx hb hr hlk hW () (by unfold WKD; rw [if_neg (fun q => c8 ((spl_W (by decide) (by omega) hL).mpr q)), if_neg (fun q => c21 ((spl_W (by decide) (by omega) hL).mpr q)), if_neg (fun q => c35 ((spl_W (by decide) (by omega) hL).mpr q)), if_neg (fun q => c49 ((spl_W (by decide) (by omega) hL).mpr q)), if_neg (fun q => c63 ((spl_W (by decide) (by omega) hL).mpr q)), if_neg (fun q => c77 ((spl_W (by decide) (by omega) hL).mpr q)), if_neg (fun q => c91 ((spl_W (by decide) (by omega) hL).mpr q)), if_neg (fun q => c105 ((spl_W (by decide) (by omega) hL).mpr q)), if_neg (fun q => c119 ((spl_W (by decide) (by omega) hL).mpr q)), if_neg (fun q => c133 ((spl_W (by decide) (by omega) hL).mpr q)), if_pos ((spl_W (by decide) (by omega) hL).mp c147)]) trivial rfl dX7_kindOfWord_156
                    · refine z_bipush hx hb dX7_kindOfWord_136 (by decide +kernel) ?_
                      exact z_iret hx hb hr hlk hW () (by unfold WKD; rw [if_neg (fun q => c8 ((spl_W (by decide) (by omega) hL).mpr q)), if_neg (fun q => c21 ((spl_W (by decide) (by omega) hL).mpr q)), if_neg (fun q => c35 ((spl_W (by decide) (by omega) hL).mpr q)), if_neg (fun q => c49 ((spl_W (by decide) (by omega) hL).mpr q)), if_neg (fun q => c63 ((spl_W (by decide) (by omega) hL).mpr q)), if_neg (fun q => c77 ((spl_W (by decide) (by omega) hL).mpr q)), if_neg (fun q => c91 ((spl_W (by decide) (by omega) hL).mpr q)), if_neg (fun q => c105 ((spl_W (by decide) (by omega) hL).mpr q)), if_neg (fun q => c119 ((spl_W (by decide) (by omega) hL).mpr q)), if_pos ((spl_W (by decide) (by omega) hL).mp c133)]) trivial rfl dX7_kindOfWord_138
                  · refine z_bipush hx hb dX7_kindOfWord_122 (by decide +kernel) ?_
                    exact z_iret hx hb hr hlk hW () (by unfold WKD; rw [if_neg (fun q => c8 ((spl_W (by decide) (by omega) hL).mpr q)), if_neg (fun q => c21 ((spl_W (by decide) (by omega) hL).mpr q)), if_neg (fun q => c35 ((spl_W (by decide) (by omega) hL).mpr q)), if_neg (fun q => c49 ((spl_W (by decide) (by omega) hL).mpr q)), if_neg (fun q => c63 ((spl_W (by decide) (by omega) hL).mpr q)), if_neg (fun q => c77 ((spl_W (by decide) (by omega) hL).mpr q)), if_neg (fun q => c91 ((spl_W (by decide) (by omega) hL).mpr q)), if_neg (fun q => c105 ((spl_W (by decide) (by omega) hL).mpr q)), if_pos ((spl_W (by decide) (by omega) hL).mp c119)]) trivial rfl dX7_kindOfWord_124
                · refine z_bipush hx hb dX7_kindOfWord_108 (by decide +kernel) ?_
                  exact z_iret hx hb hr hlk hW () (by unfold WKD; rw [if_neg (fun q => c8 ((spl_W (by decide) (by omega) hL).mpr q)), if_neg (fun q => c21 ((spl_W (by decide) (by omega) hL).mpr q)), if_neg (fun q => c35 ((spl_W (by decide) (by omega) hL).mpr q)), if_neg (fun q => c49 ((spl_W (by decide) (by omega) hL).mpr q)), if_neg (fun q => c63 ((spl_W (by decide) (by omega) hL).mpr q)), if_neg (fun q => c77 ((spl_W (by decide) (by omega) hL).mpr q)), if_neg (fun q => c91 ((spl_W (by decide) (by omega) hL).mpr q)), if_pos ((spl_W (by decide) (by omega) hL).mp c105)]) trivial rfl dX7_kindOfWord_110
              · refine z_bipush hx hb dX7_kindOfWord_94 (by decide +kernel) ?_
                exact z_iret hx hb hr hlk hW () (by unfold WKD; rw [if_neg (fun q => c8 ((spl_W (by decide) (by omega) hL).mpr q)), if_neg (fun q => c21 ((spl_W (by decide) (by omega) hL).mpr q)), if_neg (fun q => c35 ((spl_W (by decide) (by omega) hL).mpr q)), if_neg (fun q => c49 ((spl_W (by decide) (by omega) hL).mpr q)), if_neg (fun q => c63 ((spl_W (by decide) (by omega) hL).mpr q)), if_neg (fun q => c77 ((spl_W (by decide) (by omega) hL).mpr q)), if_pos ((spl_W (by decide) (by omega) hL).mp c91)]) trivial rfl dX7_kindOfWord_96
            · refine z_bipush hx hb dX7_kindOfWord_80 (by decide +kernel) ?_
              exact z_iret hx hb hr hlk hW () (by unfold WKD; rw [if_neg (fun q => c8 ((spl_W (by decide) (by omega) hL).mpr q)), if_neg (fun q => c21 ((spl_W (by decide) (by omega) hL).mpr q)), if_neg (fun q => c35 ((spl_W (by decide) (by omega) hL).mpr q)), if_neg (fun q => c49 ((spl_W (by decide) (by omega) hL).mpr q)), if_neg (fun q => c63 ((spl_W (by decide) (by omega) hL).mpr q)), if_pos ((spl_W (by decide) (by omega) hL).mp c77)]) trivial rfl dX7_kindOfWord_82
          · refine z_bipush hx hb dX7_kindOfWord_66 (by decide +kernel) ?_
            exact z_iret hx hb hr hlk hW () (by unfold WKD; rw [if_neg (fun q => c8 ((spl_W (by decide) (by omega) hL).mpr q)), if_neg (fun q => c21 ((spl_W (by decide) (by omega) hL).mpr q)), if_neg (fun q => c35 ((spl_W (by decide) (by omega) hL).mpr q)), if_neg (fun q => c49 ((spl_W (by decide) (by omega) hL).mpr q)), if_pos ((spl_W (by decide) (by omega) hL).mp c63)]) trivial rfl dX7_kindOfWord_68
        · refine z_bipush hx hb dX7_kindOfWord_52 (by decide +kernel) ?_
          exact z_iret hx hb hr hlk hW () (by unfold WKD; rw [if_neg (fun q => c8 ((spl_W (by decide) (by omega) hL).mpr q)), if_neg (fun q => c21 ((spl_W (by decide) (by omega) hL).mpr q)), if_neg (fun q => c35 ((spl_W (by decide) (by omega) hL).mpr q)), if_pos ((spl_W (by decide) (by omega) hL).mp c49)]) trivial rfl dX7_kindOfWord_54
      · refine z_bipush hx hb dX7_kindOfWord_38 (by decide +kernel) ?_
        exact z_iret hx hb hr hlk hW () (by unfold WKD; rw [if_neg (fun q => c8 ((spl_W (by decide) (by omega) hL).mpr q)), if_neg (fun q => c21 ((spl_W (by decide) (by omega) hL).mpr q)), if_pos ((spl_W (by decide) (by omega) hL).mp c35)]) trivial rfl dX7_kindOfWord_40
    · refine z_bipush hx hb dX7_kindOfWord_24 (by decide +kernel) ?_
      exact z_iret hx hb hr hlk hW () (by unfold WKD; rw [if_neg (fun q => c8 ((spl_W (by decide) (by omega) hL).mpr q)), if_pos ((spl_W (by decide) (by omega) hL).mp c21)]) trivial rfl dX7_kindOfWord_26
  · refine z_iconst (n := 5) hx hb dX7_kindOfWord_11 ?_
    exact z_iret hx hb hr hlk hW () (by unfold WKD; rw [if_pos ((spl_W (by decide) (by omega) hL).mp c8)]) trivial rfl dX7_kindOfWord_12
theorem hiX7_kindOfRun_X7 : ∀ w ∈ wsX70, w ∈ wsX7_kindOfRun := fun _ h => List.mem_cons_of_mem _ (List.mem_append_left _ (List.mem_append_right _ h))
theorem hiX7_kindOfRun_X6 : ∀ w ∈ wsX60, w ∈ wsX7_kindOfRun := fun _ h => List.mem_cons_of_mem _ (List.mem_append_right _ h)
theorem ziX7_kindOfRun : yX7_kindOfRun.cls = RX7 ∧ yX7_kindOfRun.cls ≠ "java/lang/invoke/MethodHandle" ∧ yX7_kindOfRun.cls ≠ "java/lang/invoke/VarHandle" ∧ (parseMethodDescriptor yX7_kindOfRun.desc).map (fun d => d.parameters.length) = some 3 := by decide +kernel
set_option maxHeartbeats 4000000 in
set_option maxRecDepth 100000 in
theorem c_X7_kindOfRun {l : Launch} {G : va_G} {cI cJ cO : ClassId} {aK aV : Nat → Nat}  (h : Nat) (q : Nat → Nat) (v : Nat → Int) (a : Nat → Int → Int) (hf : Nat) (qf : Nat → Nat) (vf : Nat → Int) (af : Nat → Int → Int) (y b : Int)  (h1 : 0 ≤ y ∧ y ≤ b ∧ b ≤ vf 1) (h2 : 0 ≤ vf 1 ∧ vf 1 ≤ 640) (hT : ∀ j : Int, 0 ≤ j → j < 640 → 0 ≤ af 0 j ∧ af 0 j ≤ 255) : zCK l yX7_kindOfRun wsX7_kindOfRun { frames := 6, cells := 0, slots := 0, locals := 146 } G (tyZ cI cJ cO) aK aV (S := Unit) [.ref h, .ref hf, .int (iI y), .int (iI b)] ((sW cI cJ h q v a) ++ (tW cI cJ hf qf vf af)) (zI (fun _ => KR (af 0) y (b - y))) (fun _ => True) (fun _ => (sW cI cJ h q (uV v 4 (NX (af 0) y (b - y).toNat)) a) ++ (tW cI cJ hf qf vf af)) 0 0 := by
  refine z_startK (cc := cX7_kindOfRun) (maxL := 7) (ret := (some .int)) (by decide) rfl (Nat.le_of_ble_eq_true rfl) ?_
  intro p e s m below meth c A ls F hr hlk hnm hAe hA hW hl hX
  have hx := F.1
  have hb := F.2.1
  have hown : s.vm.findClass RX7 = some m.cls := F.2.2.2.1
  have hts := F.2.2.2.2
  have hl : lv_has ls 7 [(0, .ref h), (1, .ref hf), (2, .int (iI y)), (3, .int (iI b))] := hl
  refine z_iconst (n := 0) hx hb dX7_kindOfRun_0 ?_
  refine lv_istore (lv' := [(4, .int (iI 0)), (0, .ref h), (1, .ref hf), (2, .int (iI y)), (3, .int (iI b))]) hx hb dX7_kindOfRun_1 hl (by decide) rfl (fun ls hl => ?_)
  refine lv_aload_n hx hb dX7_kindOfRun_3 rfl (lv_at hl 1 rfl) ?_
  refine z_iconst (n := 0) hx hb dX7_kindOfRun_4 ?_
  refine z_put hx hb hts hiX7_kindOfRun_X7 tyX7 tyX7_ok nmX7 hown hW 0 4 1 rfl rfl (by decide) (Nat.le_of_ble_eq_true rfl) rfl rfl rfl rfl dX7_kindOfRun_5 (fun H locs hW => ?_)
  have hW : zW G (tyZ cI cJ cO) A s ((sW cI cJ h q (uV v 4 0) a) ++ (tW cI cJ hf qf vf af)) H locs := hW
  refine lv_iload_n hx hb dX7_kindOfRun_8 rfl (lv_at hl 3 rfl) ?_
  refine lv_istore (lv' := [(5, .int (iI y)), (4, .int (iI 0)), (0, .ref h), (1, .ref hf), (2, .int (iI y)), (3, .int (iI b))]) hx hb dX7_kindOfRun_9 hl (by decide) rfl (fun ls hl => ?_)
  refine z_loop3 (fun (j5 : Int) (j4 : Int) (n4 : Int) (ls : Array Slot) (H : Heap) (locs : List Loc) => (y ≤ j5 ∧ j5 ≤ b) ∧ (j4 = LC (af 0) y (j5 - y).toNat) ∧ (n4 = NX (af 0) y (j5 - y).toNat) ∧ zW G (tyZ cI cJ cO) A s ((sW cI cJ h q (uV v 4 n4) a) ++ (tW cI cJ hf qf vf af)) H locs ∧ lv_has ls 7 [(5, .int (iI j5)), (4, .int (iI j4)), (0, .ref h), (1, .ref hf), (2, .int (iI y)), (3, .int (iI b))]) (fun j5 j4 n4 => (b - j5).toNat) ?_ y 0 0 _ _ _ ⟨(by omega), (by rw [show (y - y).toNat = 0 by omega]; rfl), (by rw [show (y - y).toNat = 0 by omega]; rfl), hW, (lv_sub hl [0, 1, 2, 3, 4, 5] rfl)⟩
  intro j5 j4 n4 ls H locs hI ih
  obtain ⟨i1, i2, i3, hW, hl⟩ := hI
  have lc := LC_R (T := af 0) (y := y) (j5 - y).toNat
  refine lv_iload hx hb dX7_kindOfRun_11 (lv_at hl 0 rfl) ?_
  refine lv_iload_n hx hb dX7_kindOfRun_13 rfl (lv_at hl 5 rfl) ?_
  refine z_icmp_ge (tgt := 62) hx hb dX7_kindOfRun_14 (by decide) ⟨by omega, by omega⟩ ⟨by omega, by omega⟩ (fun c14 => ?_) (fun c14 => ?_)
  · have eb : b = j5 := by omega
    subst eb
    refine lv_iload_n hx hb dX7_kindOfRun_62 rfl (lv_at hl 5 rfl) ?_
    refine lv_iload_n hx hb dX7_kindOfRun_63 rfl (lv_at hl 4 rfl) ?_
    refine z_isub hx hb dX7_kindOfRun_64 ?_
    refine lv_istore (lv' := [(5, .int (iI (b - y))), (4, .int (iI j4)), (0, .ref h), (1, .ref hf), (2, .int (iI y)), (3, .int (iI b))]) hx hb dX7_kindOfRun_65 hl (by decide) rfl (fun ls hl => ?_)
    refine lv_iload hx hb dX7_kindOfRun_67 (lv_at hl 0 rfl) ?_
    refine z_if_le (tgt := 87) hx hb dX7_kindOfRun_69 (by decide) ⟨by omega, by omega⟩ (fun c69 => ?_) (fun c69 => ?_)
    · refine lv_iload hx hb dX7_kindOfRun_87 (lv_at hl 0 rfl) ?_
      refine z_if_le (tgt := 107) hx hb dX7_kindOfRun_89 (by decide) ⟨by omega, by omega⟩ (fun c89 => ?_) (fun c89 => ?_)
      · refine z_iconst (n := 1) hx hb dX7_kindOfRun_107 ?_
        exact z_iret hx hb hr hlk hW () (by unfold KR; rw [if_neg (fun q => by omega)]; first | (exfalso; omega) | rw [if_pos ⟨by omega, by omega, by omega⟩] | rw [if_neg (fun q => by omega)]) trivial (by rw [i3]) dX7_kindOfRun_108
      · refine lv_iload hx hb dX7_kindOfRun_92 (lv_at hl 1 rfl) ?_
        refine z_if_ne (tgt := 107) hx hb dX7_kindOfRun_94 (by decide) ⟨by omega, by omega⟩ (fun c94 => ?_) (fun c94 => ?_)
        · refine z_iconst (n := 1) hx hb dX7_kindOfRun_107 ?_
          exact z_iret hx hb hr hlk hW () (by unfold KR; rw [if_neg (fun q => by omega)]; first | (exfalso; omega) | rw [if_pos ⟨by omega, by omega, by omega⟩] | rw [if_neg (fun q => by omega)]) trivial (by rw [i3]) dX7_kindOfRun_108
        · refine lv_iload hx hb dX7_kindOfRun_97 (lv_at hl 0 rfl) ?_
          refine z_iconst (n := 5) hx hb dX7_kindOfRun_99 ?_
          refine z_icmp_gt (tgt := 107) hx hb dX7_kindOfRun_100 (by decide) ⟨by omega, by omega⟩ (by decide) (fun c100 => ?_) (fun c100 => ?_)
          · refine z_iconst (n := 1) hx hb dX7_kindOfRun_107 ?_
            exact z_iret hx hb hr hlk hW () (by unfold KR; rw [if_neg (fun q => by omega)]; first | (exfalso; omega) | rw [if_pos ⟨by omega, by omega, by omega⟩] | rw [if_neg (fun q => by omega)]) trivial (by rw [i3]) dX7_kindOfRun_108
          · refine z_iconst (n := 3) hx hb dX7_kindOfRun_103 ?_
            refine lv_goto (tgt := 108) hx hb dX7_kindOfRun_104 (by decide) ?_
            exact z_iret hx hb hr hlk hW () (by unfold KR; rw [if_neg (fun q => by omega)]; first | (exfalso; omega) | rw [if_pos ⟨by omega, by omega, by omega⟩] | rw [if_neg (fun q => by omega)]) trivial (by rw [i3]) dX7_kindOfRun_108
    · refine lv_iload hx hb dX7_kindOfRun_72 (lv_at hl 1 rfl) ?_
      refine lv_iload hx hb dX7_kindOfRun_74 (lv_at hl 0 rfl) ?_
      refine z_icmp_ne (tgt := 87) hx hb dX7_kindOfRun_76 (by decide) ⟨by omega, by omega⟩ ⟨by omega, by omega⟩ (fun c76 => ?_) (fun c76 => ?_)
      · refine lv_iload hx hb dX7_kindOfRun_87 (lv_at hl 0 rfl) ?_
        refine z_if_le (tgt := 107) hx hb dX7_kindOfRun_89 (by decide) ⟨by omega, by omega⟩ (fun c89 => ?_) (fun c89 => ?_)
        · refine z_iconst (n := 1) hx hb dX7_kindOfRun_107 ?_
          exact z_iret hx hb hr hlk hW () (by unfold KR; rw [if_neg (fun q => by omega)]; first | (exfalso; omega) | rw [if_pos ⟨by omega, by omega, by omega⟩] | rw [if_neg (fun q => by omega)]) trivial (by rw [i3]) dX7_kindOfRun_108
        · refine lv_iload hx hb dX7_kindOfRun_92 (lv_at hl 1 rfl) ?_
          refine z_if_ne (tgt := 107) hx hb dX7_kindOfRun_94 (by decide) ⟨by omega, by omega⟩ (fun c94 => ?_) (fun c94 => ?_)
          · refine z_iconst (n := 1) hx hb dX7_kindOfRun_107 ?_
            exact z_iret hx hb hr hlk hW () (by unfold KR; rw [if_neg (fun q => by omega)]; first | (exfalso; omega) | rw [if_pos ⟨by omega, by omega, by omega⟩] | rw [if_neg (fun q => by omega)]) trivial (by rw [i3]) dX7_kindOfRun_108
          · refine lv_iload hx hb dX7_kindOfRun_97 (lv_at hl 0 rfl) ?_
            refine z_iconst (n := 5) hx hb dX7_kindOfRun_99 ?_
            refine z_icmp_gt (tgt := 107) hx hb dX7_kindOfRun_100 (by decide) ⟨by omega, by omega⟩ (by decide) (fun c100 => ?_) (fun c100 => ?_)
            · refine z_iconst (n := 1) hx hb dX7_kindOfRun_107 ?_
              exact z_iret hx hb hr hlk hW () (by unfold KR; rw [if_neg (fun q => by omega)]; first | (exfalso; omega) | rw [if_pos ⟨by omega, by omega, by omega⟩] | rw [if_neg (fun q => by omega)]) trivial (by rw [i3]) dX7_kindOfRun_108
            · refine z_iconst (n := 3) hx hb dX7_kindOfRun_103 ?_
              refine lv_goto (tgt := 108) hx hb dX7_kindOfRun_104 (by decide) ?_
              exact z_iret hx hb hr hlk hW () (by unfold KR; rw [if_neg (fun q => by omega)]; first | (exfalso; omega) | rw [if_pos ⟨by omega, by omega, by omega⟩] | rw [if_neg (fun q => by omega)]) trivial (by rw [i3]) dX7_kindOfRun_108
      · refine lv_aload_n hx hb dX7_kindOfRun_79 rfl (lv_at hl 3 rfl) ?_
        refine lv_iload_n hx hb dX7_kindOfRun_80 rfl (lv_at hl 4 rfl) ?_
        refine lv_iload hx hb dX7_kindOfRun_81 (lv_at hl 0 rfl) ?_
        refine z_callSK (As := [.ref hf, .int (iI y), .int (iI (b - y))]) (rest := []) F hX (c_X7_kindOfWord  hf qf vf af y (b - y)  (show 0 ≤ y ∧ 1 ≤ (b - y) ∧ y + (b - y) ≤ (vf 1) by omega) (show 0 ≤ (vf 1) ∧ (vf 1) ≤ 640 by omega) hT (fun j j0 j1 => LC_all (b - y).toNat (by omega) j j0 (by omega))) gX7_kindOfRun_X7_kindOfWord rfl ziX7_kindOfWord ⟨rfl, rfl, by decide, by decide⟩ rfl hl.1 rfl (Nat.le_of_ble_eq_true rfl) dX7_kindOfRun_83 ⟨Nat.zero_le _, Nat.zero_le _⟩ hW hA [4, 5] rfl (by decide) (fun _ => rfl) (fun _ => (sW cI cJ h q (uV v 4 n4) a) ++ (tW cI cJ hf qf vf af)) (fun _ => rfl) (fun _ => [.int (iI (WKD (WRD ((af 0)) y (b - y).toNat)))]) (fun _ => rfl) (fun _ H locs hp83 hW => ?_)
        exact z_iret hx hb hr hlk hW () (if_pos ⟨by omega, by omega⟩) trivial (by rw [i3]) dX7_kindOfRun_86
  · refine lv_aload_n hx hb dX7_kindOfRun_17 rfl (lv_at hl 3 rfl) ?_
    refine lv_iload hx hb dX7_kindOfRun_18 (lv_at hl 0 rfl) ?_
    refine z_callV (As := [.int (iI j5)]) (rest := []) F (c_X6_byteAt  hf qf vf af j5  (show -2147483648 ≤ j5 ∧ j5 < 2147483648 by omega) (show 0 ≤ (vf 1) ∧ (vf 1) ≤ 640 by omega)) gX7_kindOfRun_X6_byteAt rfl ziX6_byteAt ⟨rfl, rfl, by decide, by decide⟩ rfl hl.1 rfl (Nat.le_of_ble_eq_true rfl) dX7_kindOfRun_20 ⟨Nat.zero_le _, Nat.zero_le _⟩ hW hA [4, 5] rfl (by decide) (fun _ => rfl) (fun _ => (sW cI cJ h q (uV v 4 n4) a) ++ (tW cI cJ hf qf vf af)) (fun _ => rfl) (fun _ => [.int (iI (if 0 ≤ j5 ∧ j5 < (vf 1) then (af 0) j5 else -1))]) (fun _ => rfl) 4 rfl rfl rfl (fun _ H locs hp20 hW => ?_)
    rw [if_pos (show 0 ≤ j5 ∧ j5 < vf 1 by omega)]
    have hj := hT j5 (by omega) (by omega)
    refine lv_istore (lv' := [(6, .int (iI (af 0 j5))), (5, .int (iI j5)), (4, .int (iI j4)), (0, .ref h), (1, .ref hf), (2, .int (iI y)), (3, .int (iI b))]) hx hb dX7_kindOfRun_23 hl (by decide) rfl (fun ls hl => ?_)
    refine z_join2 (fun (l4 : Int) (m4 : Int) (ls : Array Slot) (H : Heap) (locs : List Loc) => (l4 = LC (af 0) y (j5 + 1 - y).toNat) ∧ (m4 = NX (af 0) y (j5 + 1 - y).toNat) ∧ zW G (tyZ cI cJ cO) A s ((sW cI cJ h q (uV v 4 m4) a) ++ (tW cI cJ hf qf vf af)) H locs ∧ lv_has ls 7 [(6, .int (iI (af 0 j5))), (5, .int (iI j5)), (4, .int (iI l4)), (0, .ref h), (1, .ref hf), (2, .int (iI y)), (3, .int (iI b))]) 56 (fun l4 m4 => []) ?_ ?_
    · intro l4 m4 ls H locs hJ
      obtain ⟨k2, k3, hW, hl⟩ := hJ
      refine z_iinc (k := 1) (lv' := [(5, .int (iI (j5 + 1))), (6, .int (iI (af 0 j5))), (4, .int (iI l4)), (0, .ref h), (1, .ref hf), (2, .int (iI y)), (3, .int (iI b))]) hx hb dX7_kindOfRun_56 hl rfl (by decide) rfl (fun ls hl => ?_)
      refine lv_goto (tgt := 11) hx hb dX7_kindOfRun_59 (by decide) ?_
      exact ih (j5 + 1) l4 m4 _ _ _ ⟨(by omega), k2, k3, hW, (lv_sub hl [0, 2, 3, 4, 5, 6] rfl)⟩ (by omega)
    · intro J1
      refine lv_iload hx hb dX7_kindOfRun_25 (lv_at hl 0 rfl) ?_
      refine z_callS (As := [.int (iI (af 0 j5))]) (rest := []) F (c_X7_isLetter   (af 0 j5)  (show -2147483648 ≤ (af 0 j5) ∧ (af 0 j5) < 2147483648 by omega)) gX7_kindOfRun_X7_isLetter rfl ziX7_isLetter ⟨rfl, rfl, by decide, by decide⟩ rfl hl.1 rfl (Nat.le_of_ble_eq_true rfl) dX7_kindOfRun_27 ⟨Nat.zero_le _, Nat.zero_le _⟩ hW hA [] rfl (by decide) (fun _ => rfl) (fun _ => (sW cI cJ h q (uV v 4 n4) a) ++ (tW cI cJ hf qf vf af)) (fun _ => rfl) (fun _ => [.int (iI (bI (isLt (af 0 j5))))]) (fun _ => rfl) (fun _ H locs hp27 hW => ?_)
      refine z_b_eq (tgt := 39) hx hb dX7_kindOfRun_30 (by decide) (fun c30 => ?_) (fun c30 => ?_)
      · refine lv_aload_n hx hb dX7_kindOfRun_39 rfl (lv_at hl 3 rfl) ?_
        refine lv_aload_n hx hb dX7_kindOfRun_40 rfl (lv_at hl 3 rfl) ?_
        refine z_get (v := .int (iI n4)) hx hb hts hiX7_kindOfRun_X7 hown hW 0 4 1 rfl rfl rfl (by decide) rfl dX7_kindOfRun_41 ?_
        refine z_bipush hx hb dX7_kindOfRun_44 (by decide +kernel) ?_
        refine z_imul hx hb dX7_kindOfRun_46 ?_
        refine lv_iload hx hb dX7_kindOfRun_47 (lv_at hl 0 rfl) ?_
        refine z_bipush hx hb dX7_kindOfRun_49 (by decide +kernel) ?_
        refine z_isub hx hb dX7_kindOfRun_51 ?_
        refine z_iadd hx hb dX7_kindOfRun_52 ?_
        refine z_put hx hb hts hiX7_kindOfRun_X7 tyX7 tyX7_ok nmX7 hown hW 0 4 1 rfl rfl (by decide) (Nat.le_of_ble_eq_true rfl) rfl rfl rfl rfl dX7_kindOfRun_53 (fun H locs hW => ?_)
        have hW : zW G (tyZ cI cJ cO) A s ((sW cI cJ h q (uV v 4 ((n4 * 10) + ((af 0 j5) - 48))) a) ++ (tW cI cJ hf qf vf af)) H locs := hW
        exact J1 j4 ((n4 * 10) + ((af 0 j5) - 48)) _ _ _ ⟨(by rw [show (j5 + 1 - y).toNat = (j5 - y).toNat + 1 by omega, LC_s, show y + (((j5 - y).toNat : Nat) : Int) = j5 by omega]; first | (rw [bI_t c30]; omega) | (rw [bI_f c30]; omega)), (by rw [show (j5 + 1 - y).toNat = (j5 - y).toNat + 1 by omega]; show _ = (if isLt (af 0 (y + (((j5 - y).toNat : Nat) : Int))) then NX (af 0) y (j5 - y).toNat else NX (af 0) y (j5 - y).toNat * 10 + (af 0 (y + (((j5 - y).toNat : Nat) : Int)) - 48)); rw [show y + (((j5 - y).toNat : Nat) : Int) = j5 by omega]; first | (rw [if_pos c30]; exact i3) | (rw [if_neg c30, i3])), hW, (lv_sub hl [0, 1, 2, 3, 4, 5, 6] rfl)⟩
      · refine z_iinc (k := 2) (lv' := [(4, .int (iI (j4 + 1))), (6, .int (iI (af 0 j5))), (5, .int (iI j5)), (0, .ref h), (1, .ref hf), (2, .int (iI y)), (3, .int (iI b))]) hx hb dX7_kindOfRun_33 hl rfl (by decide) rfl (fun ls hl => ?_)
        refine lv_goto (tgt := 56) hx hb dX7_kindOfRun_36 (by decide) ?_
        exact J1 (j4 + 1) n4 _ _ _ ⟨(by rw [show (j5 + 1 - y).toNat = (j5 - y).toNat + 1 by omega, LC_s, show y + (((j5 - y).toNat : Nat) : Int) = j5 by omega]; first | (rw [bI_t c30]; omega) | (rw [bI_f c30]; omega)), (by rw [show (j5 + 1 - y).toNat = (j5 - y).toNat + 1 by omega]; show _ = (if isLt (af 0 (y + (((j5 - y).toNat : Nat) : Int))) then NX (af 0) y (j5 - y).toNat else NX (af 0) y (j5 - y).toNat * 10 + (af 0 (y + (((j5 - y).toNat : Nat) : Int)) - 48)); rw [show y + (((j5 - y).toNat : Nat) : Int) = j5 by omega]; first | (rw [if_pos c30]; exact i3) | (rw [if_neg c30, i3])), hW, (lv_sub hl [1, 2, 0, 3, 4, 5, 6] rfl)⟩
