/-! the JDK's own: length and charAt of a constant text -/
theorem wT_R : ∀ k : Nat, k < 11 → ∀ j : Nat, 0 ≤ (wT k).getD j 0 ∧ (wT k).getD j 0 ≤ 127 := by
  have h : ∀ k : Nat, k < 11 → ∀ x ∈ wT k, 0 ≤ x ∧ x ≤ 127 := by decide
  intro k hk j
  by_cases q : j < (wT k).length
  · rw [List.getD_eq_getElem?_getD, List.getElem?_eq_getElem q]
    exact h k hk _ (List.getElem_mem q)
  · rw [List.getD_eq_getElem?_getD, List.getElem?_eq_none (by omega)]
    decide
theorem chr_F : ∀ c : Fin 128, ((iI (zand (c.val : Int) 255)).toUInt32 % 65536).toInt32 = iI (c.val : Int) ∧ narrow .char (.int (iI (c.val : Int))) = .int (iI (c.val : Int)) := by decide +kernel
theorem chr_R {c : Int} (h : 0 ≤ c ∧ c ≤ 127) : ((iI (zand c 255)).toUInt32 % 65536).toInt32 = iI c ∧ narrow .char (.int (iI c)) = .int (iI c) := by
  have t := chr_F ⟨c.toNat, by omega⟩
  rw [show (((⟨c.toNat, by omega⟩ : Fin 128).val : Nat) : Int) = c by show ((c.toNat : Nat) : Int) = c; omega] at t
  exact t
theorem shr0 (x : Int32) : x >>> (iI 0 &&& 31) = x := by
  rw [show (iI 0 &&& 31) = (0 : Int32) by decide]
  exact Int32.shiftRight_zero
theorem ziJ3_checkIndex_8e157 : yJ3_checkIndex_8e157.cls = RJ3 ∧ yJ3_checkIndex_8e157.cls ≠ "java/lang/invoke/MethodHandle" ∧ yJ3_checkIndex_8e157.cls ≠ "java/lang/invoke/VarHandle" ∧ (parseMethodDescriptor yJ3_checkIndex_8e157.desc).map (fun d => d.parameters.length) = some 3 := by decide +kernel
theorem ziJ0_checkIndex_df160 : yJ0_checkIndex_df160.cls = RJ0 ∧ yJ0_checkIndex_df160.cls ≠ "java/lang/invoke/MethodHandle" ∧ yJ0_checkIndex_df160.cls ≠ "java/lang/invoke/VarHandle" ∧ (parseMethodDescriptor yJ0_checkIndex_df160.desc).map (fun d => d.parameters.length) = some 2 := by decide +kernel
theorem ziJ0_coder_7d493 : yJ0_coder_7d493.cls = "java/lang/String" ∧ yJ0_coder_7d493.cls ≠ "java/lang/invoke/MethodHandle" ∧ yJ0_coder_7d493.cls ≠ "java/lang/invoke/VarHandle" ∧ (parseMethodDescriptor yJ0_coder_7d493.desc).map (fun d => d.parameters.length) = some 0 := by decide +kernel
theorem ziJ0_isLatin1_aae02 : yJ0_isLatin1_aae02.cls = "java/lang/String" ∧ yJ0_isLatin1_aae02.cls ≠ "java/lang/invoke/MethodHandle" ∧ yJ0_isLatin1_aae02.cls ≠ "java/lang/invoke/VarHandle" ∧ (parseMethodDescriptor yJ0_isLatin1_aae02.desc).map (fun d => d.parameters.length) = some 0 := by decide +kernel
theorem ziJ0_length_8abf5 : yJ0_length_8abf5.cls = "java/lang/String" ∧ yJ0_length_8abf5.cls ≠ "java/lang/invoke/MethodHandle" ∧ yJ0_length_8abf5.cls ≠ "java/lang/invoke/VarHandle" ∧ (parseMethodDescriptor yJ0_length_8abf5.desc).map (fun d => d.parameters.length) = some 0 := by decide +kernel
theorem ziJ0_charAt_5068e : yJ0_charAt_5068e.cls = "java/lang/String" ∧ yJ0_charAt_5068e.cls ≠ "java/lang/invoke/MethodHandle" ∧ yJ0_charAt_5068e.cls ≠ "java/lang/invoke/VarHandle" ∧ (parseMethodDescriptor yJ0_charAt_5068e.desc).map (fun d => d.parameters.length) = some 1 := by decide +kernel
theorem ziJ1_charAt_3b067 : yJ1_charAt_3b067.cls = RJ1 ∧ yJ1_charAt_3b067.cls ≠ "java/lang/invoke/MethodHandle" ∧ yJ1_charAt_3b067.cls ≠ "java/lang/invoke/VarHandle" ∧ (parseMethodDescriptor yJ1_charAt_3b067.desc).map (fun d => d.parameters.length) = some 2 := by decide +kernel
theorem c_J3_checkIndex {l : Launch} {G : va_G} {cI cJ cO : ClassId} (i n : Int) (o : Option Nat) (h : 0 ≤ i ∧ i < n ∧ n < 2147483648) : zC l yJ3_checkIndex_8e157 wsJ3_checkIndex_8e157 { frames := 0, cells := 0, slots := 0, locals := 0 } G (tyZ cI cJ cO) (S := Unit) [.int (iI i), .int (iI n), va_rf o] ([]) (zI (fun _ => i)) (fun _ => True) (fun _ => []) 0 0 := by
  have key : ∀ v : Value, (v = .null ∨ ∃ t, v = .ref t) → zC l yJ3_checkIndex_8e157 wsJ3_checkIndex_8e157 { frames := 0, cells := 0, slots := 0, locals := 0 } G (tyZ cI cJ cO) (S := Unit) [.int (iI i), .int (iI n), v] ([]) (zI (fun _ => i)) (fun _ => True) (fun _ => []) 0 0 := by
    intro v hv
    refine z_start (cc := cJ3_checkIndex_8e157) (maxL := 3) (ret := some .int) (by decide) rfl (by rcases hv with rfl | ⟨t, rfl⟩ <;> exact Nat.le_of_ble_eq_true rfl) ?_
    intro p e s m below meth c A ls F hr hlk hnm hAe hA hW hl
    have hx := F.1
    have hb := F.2.1
    have hl : lv_has ls 3 [(0, .int (iI i)), (1, .int (iI n)), (2, v)] := hl
    refine lv_iload_n hx hb dJ3_checkIndex_8e157_0 rfl (lv_at hl 0 rfl) ?_
    refine z_if_lt (tgt := 9) hx hb dJ3_checkIndex_8e157_1 (by decide) ⟨by omega, by omega⟩ (fun c1 => ?_) (fun c1 => ?_)
    · exfalso; omega
    · refine lv_iload_n hx hb dJ3_checkIndex_8e157_4 rfl (lv_at hl 0 rfl) ?_
      refine lv_iload_n hx hb dJ3_checkIndex_8e157_5 rfl (lv_at hl 1 rfl) ?_
      refine z_icmp_lt (tgt := 16) hx hb dJ3_checkIndex_8e157_6 (by decide) ⟨by omega, by omega⟩ ⟨by omega, by omega⟩ (fun c6 => ?_) (fun c6 => ?_)
      · refine lv_iload_n hx hb dJ3_checkIndex_8e157_16 rfl (lv_at hl 0 rfl) ?_
        exact z_iret hx hb hr hlk hW () rfl trivial rfl dJ3_checkIndex_8e157_17
      · exfalso; omega
  cases o with
  | none => exact key .null (Or.inl rfl)
  | some t => exact key (.ref t) (Or.inr ⟨t, rfl⟩)
theorem c_J0_checkIndex {l : Launch} {G : va_G} {cI cJ cO : ClassId} {aK aV : Nat → Nat} (i n : Int) (h : 0 ≤ i ∧ i < n ∧ n < 2147483648) : zCK l yJ0_checkIndex_df160 wsJ0_checkIndex_df160 { frames := 1, cells := 0, slots := 0, locals := 22 } G (tyZ cI cJ cO) aK aV (S := Unit) [.int (iI i), .int (iI n)] ([]) zN (fun _ => True) (fun _ => []) 0 0 := by
  refine z_startK (cc := cJ0_checkIndex_df160) (maxL := 2) (ret := none) (by decide) rfl (Nat.le_of_ble_eq_true rfl) ?_
  intro p e s m below meth c A ls F hr hlk hnm hAe hA hW hl hX
  have hx := F.1
  have hb := F.2.1
  have hown : s.vm.findClass RJ0 = some m.cls := F.2.2.2.1
  have hts := F.2.2.2.2
  have hl : lv_has ls 2 [(0, .int (iI i)), (1, .int (iI n))] := hl
  refine lv_iload_n hx hb dJ0_checkIndex_df160_0 rfl (lv_at hl 0 rfl) ?_
  refine lv_iload_n hx hb dJ0_checkIndex_df160_1 rfl (lv_at hl 1 rfl) ?_
  obtain ⟨o, hZ⟩ : ∃ o : Option Nat, va_Z "jdk/internal/util/Preconditions" "SIOOBE_FORMATTER" "Ljava/util/function/BiFunction;" (va_rf o) A s s.heap := by
    rcases hX.2.1 with h0 | ⟨t, h0⟩
    · exact ⟨none, h0⟩
    · exact ⟨some t, h0⟩
  refine va_gets hx hb hZ hW.2.2.2 hown (hts _ (List.mem_of_getElem? (i := 1) rfl)) (fun _ h => h) dJ0_checkIndex_df160_2 ?_
  refine z_callS (As := [.int (iI i), .int (iI n), va_rf o]) (rest := []) F (c_J3_checkIndex i n o h) gJ0_checkIndex_df160_J3_checkIndex_8e157 rfl ziJ3_checkIndex_8e157 ⟨rfl, rfl, by decide, by decide⟩ rfl hl.1 rfl (Nat.le_of_ble_eq_true rfl) dJ0_checkIndex_df160_5 ⟨Nat.zero_le _, Nat.zero_le _⟩ hW hA [] rfl (by decide) (fun _ => rfl) (fun _ => []) (fun _ => rfl) (fun _ => [.int (iI i)]) (fun _ => rfl) (fun _ H locs hp5 hW => ?_)
  refine lv_pop hx hb dJ0_checkIndex_df160_8 rfl ?_
  exact z_vret hx hb hr hlk hW () trivial rfl dJ0_checkIndex_df160_9
theorem c_J0_coder {l : Launch} {G : va_G} {cI cJ cO : ClassId} {aK aV : Nat → Nat} (k : Nat) (hk : k < 11) : zCK l yJ0_coder_7d493 wsJ0_coder_7d493 { frames := 0, cells := 0, slots := 0, locals := 0 } G (tyZ cI cJ cO) aK aV (S := Unit) [.ref (aK k)] ([]) (zI (fun _ => 0)) (fun _ => True) (fun _ => []) 0 0 := by
  refine z_startK (cc := cJ0_coder_7d493) (maxL := 1) (ret := some .byte) (by decide) rfl (Nat.le_of_ble_eq_true rfl) ?_
  intro p e s m below meth c A ls F hr hlk hnm hAe hA hW hl hX
  have hx := F.1
  have hb := F.2.1
  have hown : s.vm.findClass RJ0 = some m.cls := F.2.2.2.1
  have hts := F.2.2.2.2
  have hl : lv_has ls 1 [(0, .ref (aK k))] := hl
  refine va_gets hx hb hX.1 hW.2.2.2 hown (hts _ (List.mem_of_getElem? (i := 1) rfl)) (fun _ h => h) dJ0_coder_7d493_0 ?_
  refine z_if_eq (tgt := 13) hx hb dJ0_coder_7d493_3 (by decide) (by decide) (fun c1 => absurd c1 (by decide)) (fun c1 => ?_)
  refine lv_aload_n hx hb dJ0_coder_7d493_6 rfl (lv_at hl 0 rfl) ?_
  refine vk_getf hx hb (hX.2.2.1 k hk).2.1 hW.2.2.2 hown (hts _ (List.mem_of_getElem? (i := 2) rfl)) (fun _ h => h) dJ0_coder_7d493_7 ?_
  refine lv_goto (tgt := 14) hx hb dJ0_coder_7d493_10 (by decide) ?_
  exact z_nret hx hb hr hlk (by decide) hW () rfl trivial rfl dJ0_coder_7d493_14
theorem c_J0_isLatin1 {l : Launch} {G : va_G} {cI cJ cO : ClassId} {aK aV : Nat → Nat} (k : Nat) (hk : k < 11) : zCK l yJ0_isLatin1_aae02 wsJ0_isLatin1_aae02 { frames := 0, cells := 0, slots := 0, locals := 0 } G (tyZ cI cJ cO) aK aV (S := Unit) [.ref (aK k)] ([]) (zI (fun _ => 1)) (fun _ => True) (fun _ => []) 0 0 := by
  refine z_startK (cc := cJ0_isLatin1_aae02) (maxL := 1) (ret := some .boolean) (by decide) rfl (Nat.le_of_ble_eq_true rfl) ?_
  intro p e s m below meth c A ls F hr hlk hnm hAe hA hW hl hX
  have hx := F.1
  have hb := F.2.1
  have hown : s.vm.findClass RJ0 = some m.cls := F.2.2.2.1
  have hts := F.2.2.2.2
  have hl : lv_has ls 1 [(0, .ref (aK k))] := hl
  refine va_gets hx hb hX.1 hW.2.2.2 hown (hts _ (List.mem_of_getElem? (i := 1) rfl)) (fun _ h => h) dJ0_isLatin1_aae02_0 ?_
  refine z_if_eq (tgt := 17) hx hb dJ0_isLatin1_aae02_3 (by decide) (by decide) (fun c1 => absurd c1 (by decide)) (fun c1 => ?_)
  refine lv_aload_n hx hb dJ0_isLatin1_aae02_6 rfl (lv_at hl 0 rfl) ?_
  refine vk_getf hx hb (hX.2.2.1 k hk).2.1 hW.2.2.2 hown (hts _ (List.mem_of_getElem? (i := 2) rfl)) (fun _ h => h) dJ0_isLatin1_aae02_7 ?_
  refine z_if_ne (tgt := 17) hx hb dJ0_isLatin1_aae02_10 (by decide) (by decide) (fun c1 => absurd rfl c1) (fun c1 => ?_)
  refine z_iconst (n := 1) hx hb dJ0_isLatin1_aae02_13 ?_
  refine lv_goto (tgt := 18) hx hb dJ0_isLatin1_aae02_14 (by decide) ?_
  exact z_zret hx hb hr hlk (Or.inr rfl) hW () rfl trivial rfl dJ0_isLatin1_aae02_18
theorem c_J0_length {l : Launch} {G : va_G} {cI cJ cO : ClassId} {aK aV : Nat → Nat} (k : Nat) (hk : k < 11) : zCK l yJ0_length_8abf5 wsJ0_length_8abf5 { frames := 1, cells := 0, slots := 0, locals := 20 } G (tyZ cI cJ cO) aK aV (S := Unit) [.ref (aK k)] ([]) (zI (fun _ => ((wT k).length : Int))) (fun _ => True) (fun _ => []) 0 0 := by
  refine z_startK (cc := cJ0_length_8abf5) (maxL := 1) (ret := some .int) (by decide) rfl (Nat.le_of_ble_eq_true rfl) ?_
  intro p e s m below meth c A ls F hr hlk hnm hAe hA hW hl hX
  have hx := F.1
  have hb := F.2.1
  have hown : s.vm.findClass RJ0 = some m.cls := F.2.2.2.1
  have hts := F.2.2.2.2
  have hl : lv_has ls 1 [(0, .ref (aK k))] := hl
  have hk9 := hX.2.2.1 k hk
  refine lv_aload_n hx hb dJ0_length_8abf5_0 rfl (lv_at hl 0 rfl) ?_
  refine vk_getf hx hb hk9.2.2.1 hW.2.2.2 hown (hts _ (List.mem_of_getElem? (i := 1) rfl)) (fun _ h => h) dJ0_length_8abf5_1 ?_
  refine va_tlen hx hb hk9.2.2.2 hW.2.2.2 (iI_nat _) dJ0_length_8abf5_4 ?_
  refine lv_aload_n hx hb dJ0_length_8abf5_5 rfl (lv_at hl 0 rfl) ?_
  refine z_callVT (As := []) (rest := [.int (iI ((wT k).length : Int))]) F hX (c_J0_coder k hk) gJ0_length_8abf5_J0_coder_7d493 rfl ziJ0_coder_7d493 ⟨rfl, rfl, by decide, by decide⟩ rfl hl.1 rfl (Nat.le_of_ble_eq_true rfl) dJ0_length_8abf5_6 ⟨Nat.zero_le _, Nat.zero_le _⟩ hW hA [] rfl (by decide) (fun _ => rfl) (fun _ => []) (fun _ => rfl) (fun _ => [.int (iI 0), .int (iI ((wT k).length : Int))]) (fun _ => rfl) hk9.1 (fun _ H locs hp5 hW => ?_)
  refine lv_ishr hx hb dJ0_length_8abf5_9 ?_
  rw [shr0]
  exact z_iret hx hb hr hlk hW () rfl trivial rfl dJ0_length_8abf5_10
theorem c_J1_charAt {l : Launch} {G : va_G} {cI cJ cO : ClassId} {aK aV : Nat → Nat} (k : Nat) (i : Int) (hk : k < 11) (hi : 0 ≤ i ∧ i < ((wT k).length : Int) ∧ ((wT k).length : Int) < 2147483648) : zCK l yJ1_charAt_3b067 wsJ1_charAt_3b067 { frames := 2, cells := 0, slots := 0, locals := 43 } G (tyZ cI cJ cO) aK aV (S := Unit) [.ref (aV k), .int (iI i)] ([]) (zI (fun _ => (wT k).getD i.toNat 0)) (fun _ => True) (fun _ => []) 0 0 := by
  refine z_startK (cc := cJ1_charAt_3b067) (maxL := 2) (ret := some .char) (by decide) rfl (Nat.le_of_ble_eq_true rfl) ?_
  intro p e s m below meth c A ls F hr hlk hnm hAe hA hW hl hX
  have hx := F.1
  have hb := F.2.1
  have hl : lv_has ls 2 [(0, .ref (aV k)), (1, .int (iI i))] := hl
  have hk9 := hX.2.2.1 k hk
  have hc := chr_R (wT_R k hk i.toNat)
  refine lv_iload_n hx hb dJ1_charAt_3b067_0 rfl (lv_at hl 1 rfl) ?_
  refine lv_aload_n hx hb dJ1_charAt_3b067_1 rfl (lv_at hl 0 rfl) ?_
  refine va_tlen hx hb hk9.2.2.2 hW.2.2.2 (iI_nat _) dJ1_charAt_3b067_2 ?_
  refine z_callSK (As := [.int (iI i), .int (iI ((wT k).length : Int))]) (rest := []) F hX (c_J0_checkIndex i ((wT k).length : Int) hi) gJ1_charAt_3b067_J0_checkIndex_df160 rfl ziJ0_checkIndex_df160 ⟨rfl, rfl, by decide, by decide⟩ rfl hl.1 rfl (Nat.le_of_ble_eq_true rfl) dJ1_charAt_3b067_3 ⟨Nat.zero_le _, Nat.zero_le _⟩ hW hA [] rfl (by decide) (fun _ => rfl) (fun _ => []) (fun _ => rfl) (fun _ => []) (fun _ => rfl) (fun _ H locs hp5 hW => ?_)
  refine lv_aload_n hx hb dJ1_charAt_3b067_6 rfl (lv_at hl 0 rfl) ?_
  refine lv_iload_n hx hb dJ1_charAt_3b067_7 rfl (lv_at hl 1 rfl) ?_
  refine va_tb (v := .int (iI ((wT k).getD i.toNat 0))) hx hb hk9.2.2.2 hW.2.2.2 (iI_in hi.1 hi.2.1 (by omega)) (by show Value.int (iI ((wT k).getD (((iI i).toNatClampNeg : Nat) : Int).toNat 0)) = _; rw [iI_clamp hi.1 (by omega)]) dJ1_charAt_3b067_8 ?_
  refine z_sipush hx hb dJ1_charAt_3b067_9 (by decide +kernel) ?_
  refine z_iand hx hb dJ1_charAt_3b067_12 ?_
  refine lv_i2c hx hb dJ1_charAt_3b067_13 hc.1 ?_
  exact z_nret hx hb hr hlk hc.2 hW () rfl trivial rfl dJ1_charAt_3b067_14
theorem c_J0_charAt {l : Launch} {G : va_G} {cI cJ cO : ClassId} {aK aV : Nat → Nat} (k : Nat) (i : Int) (hk : k < 11) (hi : 0 ≤ i ∧ i < ((wT k).length : Int) ∧ ((wT k).length : Int) < 2147483648) : zCK l yJ0_charAt_5068e wsJ0_charAt_5068e { frames := 3, cells := 0, slots := 0, locals := 64 } G (tyZ cI cJ cO) aK aV (S := Unit) [.ref (aK k), .int (iI i)] ([]) (zI (fun _ => (wT k).getD i.toNat 0)) (fun _ => True) (fun _ => []) 0 0 := by
  refine z_startK (cc := cJ0_charAt_5068e) (maxL := 2) (ret := some .char) (by decide) rfl (Nat.le_of_ble_eq_true rfl) ?_
  intro p e s m below meth c A ls F hr hlk hnm hAe hA hW hl hX
  have hx := F.1
  have hb := F.2.1
  have hown : s.vm.findClass RJ0 = some m.cls := F.2.2.2.1
  have hts := F.2.2.2.2
  have hl : lv_has ls 2 [(0, .ref (aK k)), (1, .int (iI i))] := hl
  have hk9 := hX.2.2.1 k hk
  have hc := chr_R (wT_R k hk i.toNat)
  refine lv_aload_n hx hb dJ0_charAt_5068e_0 rfl (lv_at hl 0 rfl) ?_
  refine z_callVT (As := []) (rest := []) F hX (c_J0_isLatin1 k hk) gJ0_charAt_5068e_J0_isLatin1_aae02 rfl ziJ0_isLatin1_aae02 ⟨rfl, rfl, by decide, by decide⟩ rfl hl.1 rfl (Nat.le_of_ble_eq_true rfl) dJ0_charAt_5068e_1 ⟨Nat.zero_le _, Nat.zero_le _⟩ hW hA [] rfl (by decide) (fun _ => rfl) (fun _ => []) (fun _ => rfl) (fun _ => [.int (iI 1)]) (fun _ => rfl) hk9.1 (fun _ H locs hp5 hW => ?_)
  refine z_if_eq (tgt := 16) hx hb dJ0_charAt_5068e_4 (by decide) (by decide) (fun c1 => absurd c1 (by decide)) (fun c1 => ?_)
  refine lv_aload_n hx hb dJ0_charAt_5068e_7 rfl (lv_at hl 0 rfl) ?_
  refine vk_getf hx hb hk9.2.2.1 hW.2.2.2 hown (hts _ (List.mem_of_getElem? (i := 1) rfl)) (fun _ h => h) dJ0_charAt_5068e_8 ?_
  refine lv_iload_n hx hb dJ0_charAt_5068e_11 rfl (lv_at hl 1 rfl) ?_
  refine z_callSK (As := [.ref (aV k), .int (iI i)]) (rest := []) F hX (c_J1_charAt k i hk hi) gJ0_charAt_5068e_J1_charAt_3b067 rfl ziJ1_charAt_3b067 ⟨rfl, rfl, by decide, by decide⟩ rfl hl.1 rfl (Nat.le_of_ble_eq_true rfl) dJ0_charAt_5068e_12 ⟨Nat.zero_le _, Nat.zero_le _⟩ hW hA [] rfl (by decide) (fun _ => rfl) (fun _ => []) (fun _ => rfl) (fun _ => [.int (iI ((wT k).getD i.toNat 0))]) (fun _ => rfl) (fun _ H locs hp6 hW => ?_)
  exact z_nret hx hb hr hlk hc.2 hW () rfl trivial rfl dJ0_charAt_5068e_15
