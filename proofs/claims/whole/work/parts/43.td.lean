/-! the model: the next token -/
theorem bI_or {P : Prop} [Decidable P] : (P ∧ bI P = 1) ∨ (¬ P ∧ bI P = 0) := by
  by_cases q : P
  · exact Or.inl ⟨q, bI_t q⟩
  · exact Or.inr ⟨q, bI_f q⟩
theorem hiX11_go_X11 : ∀ w ∈ wsX110, w ∈ wsX11_go := fun _ h => List.mem_cons_of_mem _ (List.mem_append_right _ h)
theorem ziX11_go : yX11_go.cls = RX11 ∧ yX11_go.cls ≠ "java/lang/invoke/MethodHandle" ∧ yX11_go.cls ≠ "java/lang/invoke/VarHandle" ∧ (parseMethodDescriptor yX11_go.desc).map (fun d => d.parameters.length) = some 0 := by decide +kernel
set_option maxHeartbeats 4000000 in
set_option maxRecDepth 100000 in
theorem c_go {l : Launch} {G : va_G} {cI cJ cO : ClassId} (h : Nat) (q : Nat → Nat) (v : Nat → Int) (a : Nat → Int → Int)   (h3 : 0 ≤ v 3 ∧ v 3 ≤ 640) (h4 : 0 ≤ v 4 ∧ v 4 ≤ v 3) (hT : ∀ j : Int, 0 ≤ j → j < 640 → 0 ≤ a 1 j ∧ a 1 j ≤ 255) : zC l yX11_go wsX11_go { frames := 1, cells := 0, slots := 0, locals := 21 } G (tyZ cI cJ cO) (S := Int × Int × Int × Int × Int) [.ref h] (mW cI cJ h q v a) (zN) (fun u => u.1 = tkB (a 1) (v 3) (v 4) ∧ u.2.1 = tkP (a 1) (v 3) (v 4) ∧ u.2.2.1 = tkS (a 1) (v 3) (v 4) ∧ (u.2.2.1 = 2 → u.2.2.2.2 = tkW (a 1) (v 3) (v 4)) ∧ (u.2.2.1 = 3 → u.2.2.2.1 = tkN (a 1) (v 3) (v 4))) (fun u => mW cI cJ h q (uV (uV (uV (uV (uV v 4 u.1) 5 u.2.1) 6 u.2.2.1) 7 u.2.2.2.1) 10 u.2.2.2.2) a) 0 0 := by
  refine z_start (cc := cX11_go) (maxL := 5) (ret := none) (by decide) rfl (Nat.le_of_ble_eq_true rfl) ?_
  intro p e s m below meth c A ls F hr hlk hnm hAe hA hW hl
  have hx := F.1
  have hb := F.2.1
  have hown : s.vm.findClass RX11 = some m.cls := F.2.2.2.1
  have hts := F.2.2.2.2
  have hl : lv_has ls 5 [(0, .ref h)] := hl
  refine z_join1 (fun (p4 : Int) (ls : Array Slot) (H : Heap) (locs : List Loc) => (v 4 ≤ p4 ∧ p4 ≤ v 3) ∧ (SK (a 1) (v 3) (v 4) = p4) ∧ zW G (tyZ cI cJ cO) A s (mW cI cJ h q (uV v 4 p4) a) H locs ∧ lv_has ls 5 [(0, .ref h)]) 52 (fun p4 => []) ?_ ?_
  · intro p4 ls H locs hJ
    obtain ⟨d1, d2, hW, hl⟩ := hJ
    refine lv_aload_n hx hb dX11_go_52 rfl (lv_at hl 0 rfl) ?_
    refine lv_aload_n hx hb dX11_go_53 rfl (lv_at hl 0 rfl) ?_
    refine z_get (v := .int (iI p4)) hx hb hts hiX11_go_X11 hown hW 0 4 1 rfl rfl rfl (by decide) rfl dX11_go_54 ?_
    refine z_put hx hb hts hiX11_go_X11 tyX11 tyX11_ok nmX11 hown hW 0 5 4 rfl rfl (by decide) (Nat.le_of_ble_eq_true rfl) rfl rfl rfl rfl dX11_go_57 (fun H locs hW => ?_)
    have hW : zW G (tyZ cI cJ cO) A s (mW cI cJ h q (uV (uV v 4 p4) 5 p4) a) H locs := hW
    refine lv_aload_n hx hb dX11_go_60 rfl (lv_at hl 0 rfl) ?_
    refine z_get (v := .int (iI (v 3))) hx hb hts hiX11_go_X11 hown hW 0 3 2 rfl rfl rfl (by decide) rfl dX11_go_61 ?_
    refine z_sipush hx hb dX11_go_64 (by decide +kernel) ?_
    refine z_icmp_le (tgt := 93) hx hb dX11_go_67 (by decide) ⟨by omega, by omega⟩ (by decide) (fun c67 => ?_) (fun c67 => ?_)
    · refine lv_aload_n hx hb dX11_go_93 rfl (lv_at hl 0 rfl) ?_
      refine z_get (v := .int (iI p4)) hx hb hts hiX11_go_X11 hown hW 0 4 1 rfl rfl rfl (by decide) rfl dX11_go_94 ?_
      refine lv_aload_n hx hb dX11_go_97 rfl (lv_at hl 0 rfl) ?_
      refine z_get (v := .int (iI (v 3))) hx hb hts hiX11_go_X11 hown hW 0 3 2 rfl rfl rfl (by decide) rfl dX11_go_98 ?_
      refine z_icmp_lt (tgt := 110) hx hb dX11_go_101 (by decide) ⟨by omega, by omega⟩ ⟨by omega, by omega⟩ (fun c101 => ?_) (fun c101 => ?_)
      · have hj := hT p4 (by omega) (by omega)
        refine lv_aload_n hx hb dX11_go_110 rfl (lv_at hl 0 rfl) ?_
        refine z_get (v := .ref (q 1)) hx hb hts hiX11_go_X11 hown hW 0 1 3 rfl rfl rfl (by decide) rfl dX11_go_111 ?_
        refine lv_aload_n hx hb dX11_go_114 rfl (lv_at hl 0 rfl) ?_
        refine z_get (v := .int (iI p4)) hx hb hts hiX11_go_X11 hown hW 0 4 1 rfl rfl rfl (by decide) rfl dX11_go_115 ?_
        refine z_iald (f := a 1) (i := p4) hx hb hW 1 0 rfl rfl (by decide) ⟨by omega, by omega⟩ dX11_go_118 ?_
        refine lv_istore_n (lv' := [(1, .int (iI ((a 1) p4))), (0, .ref h)]) hx hb dX11_go_119 rfl hl (by decide) rfl (fun ls hl => ?_)
        refine z_join0 (fun  (ls : Array Slot) (H : Heap) (locs : List Loc) => ((97 ≤ a 1 p4 ∧ a 1 p4 ≤ 122) ∨ (48 ≤ a 1 p4 ∧ a 1 p4 ≤ 57)) ∧ zW G (tyZ cI cJ cO) A s (mW cI cJ h q (uV (uV v 4 p4) 5 p4) a) H locs ∧ lv_has ls 5 [(1, .int (iI ((a 1) p4))), (0, .ref h)]) 160 [] ?_ ?_
        · intro ls H locs hJ
          obtain ⟨k0, hW, hl⟩ := hJ
          have hB := BHD_R (T := a 1) (z := v 3) (y := p4)
          have hl0 := bI_or (P := 97 ≤ a 1 p4 ∧ a 1 p4 ≤ 122)
          refine lv_iload_n hx hb dX11_go_160 rfl (lv_at hl 0 rfl) ?_
          refine z_callS (As := [.int (iI ((a 1) p4))]) (rest := []) F (c_isLetter ((a 1) p4)  (show -2147483648 ≤ ((a 1) p4) ∧ ((a 1) p4) < 2147483648 by omega)) gX11_go_X11_isLetter rfl ziX11_isLetter ⟨rfl, rfl, by decide, by decide⟩ rfl hl.1 rfl (Nat.le_of_ble_eq_true rfl) dX11_go_161 ⟨Nat.zero_le _, Nat.zero_le _⟩ hW hA [] rfl (by decide) (fun _ => rfl) (fun _ => mW cI cJ h q (uV (uV v 4 p4) 5 p4) a) (fun _ => rfl) (fun _ => [.int (iI (bI (97 ≤ ((a 1) p4) ∧ ((a 1) p4) ≤ 122)))]) (fun _ => rfl) (fun _ H locs hp161 hW => ?_)
          refine z_name (fun s2 es2 => ?_)
          refine lv_istore_n (lv' := [(2, .int (iI s2)), (1, .int (iI ((a 1) p4))), (0, .ref h)]) hx hb dX11_go_164 rfl hl (by decide) rfl (fun ls hl => ?_)
          refine z_iconst (n := 1) hx hb dX11_go_165 ?_
          refine lv_istore_n (lv' := [(3, .int (iI 1)), (2, .int (iI s2)), (1, .int (iI ((a 1) p4))), (0, .ref h)]) hx hb dX11_go_166 rfl hl (by decide) rfl (fun ls hl => ?_)
          refine lv_aload_n hx hb dX11_go_167 rfl (lv_at hl 3 rfl) ?_
          refine z_lconst (z := 0) hx hb dX11_go_168 (by decide +kernel) ?_
          refine z_put hx hb hts hiX11_go_X11 tyX11 tyX11_ok nmX11 hown hW 0 10 6 rfl rfl (by decide) (Nat.le_of_ble_eq_true rfl) rfl rfl rfl rfl dX11_go_169 (fun H locs hW => ?_)
          have hW : zW G (tyZ cI cJ cO) A s (mW cI cJ h q (uV (uV (uV v 4 p4) 5 p4) 10 0) a) H locs := hW
          refine lv_aload_n hx hb dX11_go_172 rfl (lv_at hl 3 rfl) ?_
          refine z_iconst (n := 0) hx hb dX11_go_173 ?_
          refine z_put hx hb hts hiX11_go_X11 tyX11 tyX11_ok nmX11 hown hW 0 7 7 rfl rfl (by decide) (Nat.le_of_ble_eq_true rfl) rfl rfl rfl rfl dX11_go_174 (fun H locs hW => ?_)
          have hW : zW G (tyZ cI cJ cO) A s (mW cI cJ h q (uV (uV (uV (uV v 4 p4) 5 p4) 10 0) 7 0) a) H locs := hW
          refine z_loop4 (fun (x4 : Int) (g3 : Int) (n7 : Int) (w10 : Int) (ls : Array Slot) (H : Heap) (locs : List Loc) => (p4 ≤ x4 ∧ x4 ≤ v 3) ∧ (BHD (a 1) (v 3) x4 = BHD (a 1) (v 3) p4) ∧ ((g3 = 1 ∧ ((s2 = 1 ∧ LC (a 1) p4 (x4 - p4).toNat = x4 - p4) ∨ (s2 = 0 ∧ LC (a 1) p4 (x4 - p4).toNat = 0))) ∨ (g3 = 0 ∧ 0 < LC (a 1) p4 (x4 - p4).toNat ∧ LC (a 1) p4 (x4 - p4).toNat < x4 - p4)) ∧ (n7 = NUM (a 1) p4 (x4 - p4).toNat) ∧ (w10 = WRD (a 1) p4 (x4 - p4).toNat) ∧ (p4 < x4 ∨ (x4 = p4 ∧ g3 = 1)) ∧ zW G (tyZ cI cJ cO) A s (mW cI cJ h q (uV (uV (uV (uV v 5 p4) 4 x4) 7 n7) 10 w10) a) H locs ∧ lv_has ls 5 [(3, .int (iI g3)), (2, .int (iI s2)), (1, .int (iI ((a 1) p4))), (0, .ref h)]) (fun x4 g3 n7 w10 => (v 3 - x4).toNat) ?_ p4 1 0 0 _ _ _ ⟨(by omega), rfl, (by rw [show (p4 - p4).toNat = 0 by omega]; show (_ ∧ ((_ ∧ (0 : Int) = _) ∨ (_ ∧ (0 : Int) = 0))) ∨ _; omega), (by rw [show (p4 - p4).toNat = 0 by omega]; rfl), (by rw [show (p4 - p4).toNat = 0 by omega]; rfl), (by omega), hW, (lv_sub hl [0, 1, 2, 3] rfl)⟩
          intro x4 g3 n7 w10 ls H locs hI ih
          obtain ⟨j1, j2, j3, j4, j5, j6, hW, hl⟩ := hI
          have tz : (x4 < v 3 ∧ (if x4 < v 3 then a 1 x4 else 0) = a 1 x4) ∨ (¬ x4 < v 3 ∧ (if x4 < v 3 then a 1 x4 else 0) = 0) := by by_cases q : x4 < v 3; (left; exact ⟨q, if_pos q⟩); (right; exact ⟨q, if_neg q⟩)
          have hx4 : x4 < v 3 → 0 ≤ a 1 x4 ∧ a 1 x4 ≤ 255 := fun q => hT x4 (by omega) (by omega)
          have wl := WRD_L (T := a 1) (y := p4) (n := (x4 - p4).toNat) (fun j j0 j1 => hT j (by omega) (by omega))
          have nl := NUM_L (T := a 1) (y := p4) (n := (x4 - p4).toNat) (fun j j0 j1 => hT j (by omega) (by omega))
          have lc := LC_R (T := a 1) (y := p4) (x4 - p4).toNat
          have bx := bI_or (P := 97 ≤ a 1 x4 ∧ a 1 x4 ≤ 122)
          have hpy : x4 = p4 → a 1 x4 = a 1 p4 := fun q => by rw [q]
          have hpx : x4 = p4 → bI (97 ≤ a 1 x4 ∧ a 1 x4 ≤ 122) = s2 := fun q => by rw [q]; first | exact es2 | exact es2.symm
          refine lv_aload_n hx hb dX11_go_177 rfl (lv_at hl 3 rfl) ?_
          refine z_join0 (fun  (ls : Array Slot) (H : Heap) (locs : List Loc) => (x4 < v 3 ∧ ((97 ≤ a 1 x4 ∧ a 1 x4 ≤ 122) ∨ (48 ≤ a 1 x4 ∧ a 1 x4 ≤ 57))) ∧ zW G (tyZ cI cJ cO) A s (mW cI cJ h q (uV (uV (uV (uV v 5 p4) 4 x4) 7 n7) 10 w10) a) H locs ∧ lv_has ls 5 [(3, .int (iI g3)), (2, .int (iI s2)), (1, .int (iI ((a 1) p4))), (0, .ref h)]) 205 [] ?_ ?_
          · intro ls H locs hJ
            obtain ⟨k1, hW, hl⟩ := hJ
            refine lv_aload_n hx hb dX11_go_205 rfl (lv_at hl 3 rfl) ?_
            refine z_get (v := .ref (q 1)) hx hb hts hiX11_go_X11 hown hW 0 1 3 rfl rfl rfl (by decide) rfl dX11_go_206 ?_
            refine lv_aload_n hx hb dX11_go_209 rfl (lv_at hl 3 rfl) ?_
            refine z_get (v := .int (iI x4)) hx hb hts hiX11_go_X11 hown hW 0 4 1 rfl rfl rfl (by decide) rfl dX11_go_210 ?_
            refine z_iald (f := a 1) (i := x4) hx hb hW 1 0 rfl rfl (by decide) ⟨by omega, by omega⟩ dX11_go_213 ?_
            refine lv_istore (lv' := [(4, .int (iI ((a 1) x4))), (3, .int (iI g3)), (2, .int (iI s2)), (1, .int (iI ((a 1) p4))), (0, .ref h)]) hx hb dX11_go_214 hl (by decide) rfl (fun ls hl => ?_)
            refine z_join1 (fun (g4 : Int) (ls : Array Slot) (H : Heap) (locs : List Loc) => ((g4 = 1 ∧ g3 = 1 ∧ s2 = bI (97 ≤ a 1 x4 ∧ a 1 x4 ≤ 122)) ∨ (g4 = 0 ∧ (g3 = 0 ∨ (g3 = 1 ∧ s2 ≠ bI (97 ≤ a 1 x4 ∧ a 1 x4 ≤ 122))))) ∧ zW G (tyZ cI cJ cO) A s (mW cI cJ h q (uV (uV (uV (uV v 5 p4) 4 x4) 7 n7) 10 w10) a) H locs ∧ lv_has ls 5 [(4, .int (iI ((a 1) x4))), (3, .int (iI g4)), (2, .int (iI s2)), (1, .int (iI ((a 1) p4))), (0, .ref h)]) 235 (fun g4 => []) ?_ ?_
            · intro g4 ls H locs hJ
              obtain ⟨k2, hW, hl⟩ := hJ
              refine lv_aload_n hx hb dX11_go_235 rfl (lv_at hl 4 rfl) ?_
              refine z_join1 (fun (w11 : Int) (ls : Array Slot) (H : Heap) (locs : List Loc) => (w11 = WRD (a 1) p4 (x4 + 1 - p4).toNat) ∧ zW G (tyZ cI cJ cO) A s (mW cI cJ h q (uV (uV (uV (uV v 5 p4) 4 x4) 7 n7) 10 w11) a) H locs ∧ lv_has ls 5 [(4, .int (iI ((a 1) x4))), (3, .int (iI g4)), (2, .int (iI s2)), (1, .int (iI ((a 1) p4))), (0, .ref h)]) 269 (fun w11 => []) ?_ ?_
              · intro w11 ls H locs hJ
                obtain ⟨k4, hW, hl⟩ := hJ
                refine lv_aload_n hx hb dX11_go_269 rfl (lv_at hl 4 rfl) ?_
                refine z_join1 (fun (n8 : Int) (ls : Array Slot) (H : Heap) (locs : List Loc) => (n8 = NUM (a 1) p4 (x4 + 1 - p4).toNat) ∧ zW G (tyZ cI cJ cO) A s (mW cI cJ h q (uV (uV (uV (uV v 5 p4) 4 x4) 10 w11) 7 n8) a) H locs ∧ lv_has ls 5 [(4, .int (iI ((a 1) x4))), (3, .int (iI g4)), (2, .int (iI s2)), (1, .int (iI ((a 1) p4))), (0, .ref h)]) 299 (fun n8 => []) ?_ ?_
                · intro n8 ls H locs hJ
                  obtain ⟨k5, hW, hl⟩ := hJ
                  refine lv_aload_n hx hb dX11_go_299 rfl (lv_at hl 4 rfl) ?_
                  refine lv_dup hx hb dX11_go_300 rfl ?_
                  refine z_get (v := .int (iI x4)) hx hb hts hiX11_go_X11 hown hW 0 4 1 rfl rfl rfl (by decide) rfl dX11_go_301 ?_
                  refine z_iconst (n := 1) hx hb dX11_go_304 ?_
                  refine z_iadd hx hb dX11_go_305 ?_
                  refine z_put hx hb hts hiX11_go_X11 tyX11 tyX11_ok nmX11 hown hW 0 4 1 rfl rfl (by decide) (Nat.le_of_ble_eq_true rfl) rfl rfl rfl rfl dX11_go_306 (fun H locs hW => ?_)
                  have hW : zW G (tyZ cI cJ cO) A s (mW cI cJ h q (uV (uV (uV (uV v 5 p4) 10 w11) 7 n8) 4 (x4 + 1)) a) H locs := hW
                  refine lv_goto (tgt := 177) hx hb dX11_go_309 (by decide) ?_
                  exact ih (x4 + 1) g4 n8 w11 _ _ _ ⟨(by omega), (by rw [← j2]; symm; exact BHD_go ⟨by omega, by first | exact k1.2 | omega⟩), (by rw [show (x4 + 1 - p4).toNat = (x4 - p4).toNat + 1 by omega, LC_s, show p4 + ((x4 - p4).toNat : Int) = x4 by omega, show bI (isLt (a 1 x4)) = bI (97 ≤ a 1 x4 ∧ a 1 x4 ≤ 122) from rfl]; omega), (by first | exact k5 | omega), (by first | exact k4 | omega), (by omega), hW, (lv_sub hl [1, 2, 3, 4] rfl)⟩ (by omega)
                · intro J1
                  refine z_get (v := .int (iI x4)) hx hb hts hiX11_go_X11 hown hW 0 4 1 rfl rfl rfl (by decide) rfl dX11_go_270 ?_
                  refine lv_aload_n hx hb dX11_go_273 rfl (lv_at hl 4 rfl) ?_
                  refine z_get (v := .int (iI p4)) hx hb hts hiX11_go_X11 hown hW 0 5 4 rfl rfl rfl (by decide) rfl dX11_go_274 ?_
                  refine z_isub hx hb dX11_go_277 ?_
                  refine z_iconst (n := 5) hx hb dX11_go_278 ?_
                  refine z_icmp_ge (tgt := 299) hx hb dX11_go_279 (by decide) ⟨by omega, by omega⟩ (by decide) (fun c279 => ?_) (fun c279 => ?_)
                  · exact J1 n7 _ _ _ ⟨(by rw [show (x4 + 1 - p4).toNat = (x4 - p4).toNat + 1 by omega]; show _ = (if (x4 - p4).toNat < 5 then 10 * NUM (a 1) p4 (x4 - p4).toNat + a 1 (p4 + ((x4 - p4).toNat : Int)) - 48 else NUM (a 1) p4 (x4 - p4).toNat); rw [show p4 + ((x4 - p4).toNat : Int) = x4 by omega]; first | (rw [if_pos (by omega)]; omega) | (rw [if_neg (by omega)]; omega)), hW, (lv_sub hl [0, 1, 2, 3, 4] rfl)⟩
                  · refine lv_aload_n hx hb dX11_go_282 rfl (lv_at hl 4 rfl) ?_
                    refine z_bipush hx hb dX11_go_283 (by decide +kernel) ?_
                    refine lv_aload_n hx hb dX11_go_285 rfl (lv_at hl 4 rfl) ?_
                    refine z_get (v := .int (iI n7)) hx hb hts hiX11_go_X11 hown hW 0 7 7 rfl rfl rfl (by decide) rfl dX11_go_286 ?_
                    refine z_imul hx hb dX11_go_289 ?_
                    refine lv_iload hx hb dX11_go_290 (lv_at hl 0 rfl) ?_
                    refine z_iadd hx hb dX11_go_292 ?_
                    refine z_bipush hx hb dX11_go_293 (by decide +kernel) ?_
                    refine z_isub hx hb dX11_go_295 ?_
                    refine z_put hx hb hts hiX11_go_X11 tyX11 tyX11_ok nmX11 hown hW 0 7 7 rfl rfl (by decide) (Nat.le_of_ble_eq_true rfl) rfl rfl rfl rfl dX11_go_296 (fun H locs hW => ?_)
                    have hW : zW G (tyZ cI cJ cO) A s (mW cI cJ h q (uV (uV (uV (uV v 5 p4) 4 x4) 10 w11) 7 (((10 * n7) + ((a 1) x4)) - 48)) a) H locs := hW
                    exact J1 (((10 * n7) + ((a 1) x4)) - 48) _ _ _ ⟨(by rw [show (x4 + 1 - p4).toNat = (x4 - p4).toNat + 1 by omega]; show _ = (if (x4 - p4).toNat < 5 then 10 * NUM (a 1) p4 (x4 - p4).toNat + a 1 (p4 + ((x4 - p4).toNat : Int)) - 48 else NUM (a 1) p4 (x4 - p4).toNat); rw [show p4 + ((x4 - p4).toNat : Int) = x4 by omega]; first | (rw [if_pos (by omega)]; omega) | (rw [if_neg (by omega)]; omega)), hW, (lv_sub hl [0, 1, 2, 3, 4] rfl)⟩
              · intro J2
                refine z_get (v := .int (iI x4)) hx hb hts hiX11_go_X11 hown hW 0 4 1 rfl rfl rfl (by decide) rfl dX11_go_236 ?_
                refine lv_aload_n hx hb dX11_go_239 rfl (lv_at hl 4 rfl) ?_
                refine z_get (v := .int (iI p4)) hx hb hts hiX11_go_X11 hown hW 0 5 4 rfl rfl rfl (by decide) rfl dX11_go_240 ?_
                refine z_isub hx hb dX11_go_243 ?_
                refine z_bipush hx hb dX11_go_244 (by decide +kernel) ?_
                refine z_icmp_ge (tgt := 269) hx hb dX11_go_246 (by decide) ⟨by omega, by omega⟩ (by decide) (fun c246 => ?_) (fun c246 => ?_)
                · exact J2 w10 _ _ _ ⟨(by rw [show (x4 + 1 - p4).toNat = (x4 - p4).toNat + 1 by omega]; show _ = (if (x4 - p4).toNat < 9 then 27 * WRD (a 1) p4 (x4 - p4).toNat + a 1 (p4 + ((x4 - p4).toNat : Int)) - 96 else WRD (a 1) p4 (x4 - p4).toNat); rw [show p4 + ((x4 - p4).toNat : Int) = x4 by omega]; first | (rw [if_pos (by omega)]; omega) | (rw [if_neg (by omega)]; omega)), hW, (lv_sub hl [0, 1, 2, 3, 4] rfl)⟩
                · refine lv_aload_n hx hb dX11_go_249 rfl (lv_at hl 4 rfl) ?_
                  refine z_ldc2 hx hb (27) hown (hts _ (List.mem_of_getElem? (i := 8) rfl)) (by decide +kernel) dX11_go_250 ?_
                  refine lv_aload_n hx hb dX11_go_253 rfl (lv_at hl 4 rfl) ?_
                  refine z_get (v := .long (lI w10)) hx hb hts hiX11_go_X11 hown hW 0 10 6 rfl rfl rfl (by decide) rfl dX11_go_254 ?_
                  refine z_lmul hx hb dX11_go_257 ?_
                  refine lv_iload hx hb dX11_go_258 (lv_at hl 0 rfl) ?_
                  refine z_i2l hx hb dX11_go_260 ⟨by omega, by omega⟩ ?_
                  refine z_ladd hx hb dX11_go_261 ?_
                  refine z_ldc2 hx hb (96) hown (hts _ (List.mem_of_getElem? (i := 9) rfl)) (by decide +kernel) dX11_go_262 ?_
                  refine z_lsub hx hb dX11_go_265 ?_
                  refine z_put hx hb hts hiX11_go_X11 tyX11 tyX11_ok nmX11 hown hW 0 10 6 rfl rfl (by decide) (Nat.le_of_ble_eq_true rfl) rfl rfl rfl rfl dX11_go_266 (fun H locs hW => ?_)
                  have hW : zW G (tyZ cI cJ cO) A s (mW cI cJ h q (uV (uV (uV (uV v 5 p4) 4 x4) 7 n7) 10 (((27 * w10) + ((a 1) x4)) - 96)) a) H locs := hW
                  exact J2 (((27 * w10) + ((a 1) x4)) - 96) _ _ _ ⟨(by rw [show (x4 + 1 - p4).toNat = (x4 - p4).toNat + 1 by omega]; show _ = (if (x4 - p4).toNat < 9 then 27 * WRD (a 1) p4 (x4 - p4).toNat + a 1 (p4 + ((x4 - p4).toNat : Int)) - 96 else WRD (a 1) p4 (x4 - p4).toNat); rw [show p4 + ((x4 - p4).toNat : Int) = x4 by omega]; first | (rw [if_pos (by omega)]; omega) | (rw [if_neg (by omega)]; omega)), hW, (lv_sub hl [0, 1, 2, 3, 4] rfl)⟩
            · intro J3
              refine lv_iload_n hx hb dX11_go_216 rfl (lv_at hl 1 rfl) ?_
              refine z_if_eq (tgt := 233) hx hb dX11_go_217 (by decide) ⟨by omega, by omega⟩ (fun c217 => ?_) (fun c217 => ?_)
              · refine z_iconst (n := 0) hx hb dX11_go_233 ?_
                refine lv_istore_n (lv' := [(3, .int (iI 0)), (4, .int (iI ((a 1) x4))), (2, .int (iI s2)), (1, .int (iI ((a 1) p4))), (0, .ref h)]) hx hb dX11_go_234 rfl hl (by decide) rfl (fun ls hl => ?_)
                exact J3 0 _ _ _ ⟨(by omega), hW, (lv_sub hl [1, 0, 2, 3, 4] rfl)⟩
              · refine lv_iload hx hb dX11_go_220 (lv_at hl 0 rfl) ?_
                refine z_callS (As := [.int (iI ((a 1) x4))]) (rest := []) F (c_isLetter ((a 1) x4)  (show -2147483648 ≤ ((a 1) x4) ∧ ((a 1) x4) < 2147483648 by omega)) gX11_go_X11_isLetter rfl ziX11_isLetter ⟨rfl, rfl, by decide, by decide⟩ rfl hl.1 rfl (Nat.le_of_ble_eq_true rfl) dX11_go_222 ⟨Nat.zero_le _, Nat.zero_le _⟩ hW hA [] rfl (by decide) (fun _ => rfl) (fun _ => mW cI cJ h q (uV (uV (uV (uV v 5 p4) 4 x4) 7 n7) 10 w10) a) (fun _ => rfl) (fun _ => [.int (iI (bI (97 ≤ ((a 1) x4) ∧ ((a 1) x4) ≤ 122)))]) (fun _ => rfl) (fun _ H locs hp222 hW => ?_)
                refine lv_iload_n hx hb dX11_go_225 rfl (lv_at hl 2 rfl) ?_
                refine z_icmp_ne (tgt := 233) hx hb dX11_go_226 (by decide) bI_R ⟨by omega, by omega⟩ (fun c226 => ?_) (fun c226 => ?_)
                · refine z_iconst (n := 0) hx hb dX11_go_233 ?_
                  refine lv_istore_n (lv' := [(3, .int (iI 0)), (4, .int (iI ((a 1) x4))), (2, .int (iI s2)), (1, .int (iI ((a 1) p4))), (0, .ref h)]) hx hb dX11_go_234 rfl hl (by decide) rfl (fun ls hl => ?_)
                  exact J3 0 _ _ _ ⟨(by omega), hW, (lv_sub hl [1, 0, 2, 3, 4] rfl)⟩
                · refine z_iconst (n := 1) hx hb dX11_go_229 ?_
                  refine lv_goto (tgt := 234) hx hb dX11_go_230 (by decide) ?_
                  refine lv_istore_n (lv' := [(3, .int (iI 1)), (4, .int (iI ((a 1) x4))), (2, .int (iI s2)), (1, .int (iI ((a 1) p4))), (0, .ref h)]) hx hb dX11_go_234 rfl hl (by decide) rfl (fun ls hl => ?_)
                  exact J3 1 _ _ _ ⟨(by omega), hW, (lv_sub hl [1, 0, 2, 3, 4] rfl)⟩
          · intro J4
            refine lv_aload_n hx hb dX11_go_178 rfl (lv_at hl 3 rfl) ?_
            refine z_get (v := .int (iI x4)) hx hb hts hiX11_go_X11 hown hW 0 4 1 rfl rfl rfl (by decide) rfl dX11_go_179 ?_
            refine z_callV (As := [.int (iI x4)]) (rest := []) F (c_tapeAt h q (uV (uV (uV (uV v 5 p4) 4 x4) 7 n7) 10 w10) a x4  (show 0 ≤ x4 ∧ x4 ≤ 640 by omega) (show 0 ≤ (v 3) ∧ (v 3) ≤ 640 by omega)) gX11_go_X11_tapeAt rfl ziX11_tapeAt ⟨rfl, rfl, by decide, by decide⟩ rfl hl.1 rfl (Nat.le_of_ble_eq_true rfl) dX11_go_182 ⟨Nat.zero_le _, Nat.zero_le _⟩ hW hA [0, 1, 2, 3, 4, 5, 6, 7, 8, 9, 10] rfl (by decide) (fun _ => rfl) (fun _ => mW cI cJ h q (uV (uV (uV (uV v 5 p4) 4 x4) 7 n7) 10 w10) a) (fun _ => rfl) (fun _ => [.int (iI (if x4 < (v 3) then (a 1) x4 else 0))]) (fun _ => rfl) 0 rfl rfl rfl (fun _ H locs hp182 hW => ?_)
            refine z_callS (As := [.int (iI (if x4 < (v 3) then (a 1) x4 else 0))]) (rest := []) F (c_isLetter (if x4 < (v 3) then (a 1) x4 else 0)  (show -2147483648 ≤ (if x4 < (v 3) then (a 1) x4 else 0) ∧ (if x4 < (v 3) then (a 1) x4 else 0) < 2147483648 by omega)) gX11_go_X11_isLetter rfl ziX11_isLetter ⟨rfl, rfl, by decide, by decide⟩ rfl hl.1 rfl (Nat.le_of_ble_eq_true rfl) dX11_go_185 ⟨Nat.zero_le _, Nat.zero_le _⟩ hW hA [] rfl (by decide) (fun _ => rfl) (fun _ => mW cI cJ h q (uV (uV (uV (uV v 5 p4) 4 x4) 7 n7) 10 w10) a) (fun _ => rfl) (fun _ => [.int (iI (bI (97 ≤ (if x4 < (v 3) then (a 1) x4 else 0) ∧ (if x4 < (v 3) then (a 1) x4 else 0) ≤ 122)))]) (fun _ => rfl) (fun _ H locs hp185 hW => ?_)
            refine z_b_ne (tgt := 205) hx hb dX11_go_188 (by decide) (fun c188 => ?_) (fun c188 => ?_)
            · exact J4  _ _ _ ⟨(by omega), hW, (lv_sub hl [0, 1, 2, 3] rfl)⟩
            · refine lv_aload_n hx hb dX11_go_191 rfl (lv_at hl 3 rfl) ?_
              refine lv_aload_n hx hb dX11_go_192 rfl (lv_at hl 3 rfl) ?_
              refine z_get (v := .int (iI x4)) hx hb hts hiX11_go_X11 hown hW 0 4 1 rfl rfl rfl (by decide) rfl dX11_go_193 ?_
              refine z_callV (As := [.int (iI x4)]) (rest := []) F (c_tapeAt h q (uV (uV (uV (uV v 5 p4) 4 x4) 7 n7) 10 w10) a x4  (show 0 ≤ x4 ∧ x4 ≤ 640 by omega) (show 0 ≤ (v 3) ∧ (v 3) ≤ 640 by omega)) gX11_go_X11_tapeAt rfl ziX11_tapeAt ⟨rfl, rfl, by decide, by decide⟩ rfl hl.1 rfl (Nat.le_of_ble_eq_true rfl) dX11_go_196 ⟨Nat.zero_le _, Nat.zero_le _⟩ hW hA [0, 1, 2, 3, 4, 5, 6, 7, 8, 9, 10] rfl (by decide) (fun _ => rfl) (fun _ => mW cI cJ h q (uV (uV (uV (uV v 5 p4) 4 x4) 7 n7) 10 w10) a) (fun _ => rfl) (fun _ => [.int (iI (if x4 < (v 3) then (a 1) x4 else 0))]) (fun _ => rfl) 0 rfl rfl rfl (fun _ H locs hp196 hW => ?_)
              refine z_callS (As := [.int (iI (if x4 < (v 3) then (a 1) x4 else 0))]) (rest := []) F (c_isDigit (if x4 < (v 3) then (a 1) x4 else 0)  (show -2147483648 ≤ (if x4 < (v 3) then (a 1) x4 else 0) ∧ (if x4 < (v 3) then (a 1) x4 else 0) < 2147483648 by omega)) gX11_go_X11_isDigit rfl ziX11_isDigit ⟨rfl, rfl, by decide, by decide⟩ rfl hl.1 rfl (Nat.le_of_ble_eq_true rfl) dX11_go_199 ⟨Nat.zero_le _, Nat.zero_le _⟩ hW hA [] rfl (by decide) (fun _ => rfl) (fun _ => mW cI cJ h q (uV (uV (uV (uV v 5 p4) 4 x4) 7 n7) 10 w10) a) (fun _ => rfl) (fun _ => [.int (iI (bI (48 ≤ (if x4 < (v 3) then (a 1) x4 else 0) ∧ (if x4 < (v 3) then (a 1) x4 else 0) ≤ 57)))]) (fun _ => rfl) (fun _ H locs hp199 hW => ?_)
              refine z_b_eq (tgt := 312) hx hb dX11_go_202 (by decide) (fun c202 => ?_) (fun c202 => ?_)
              · refine lv_aload_n hx hb dX11_go_312 rfl (lv_at hl 3 rfl) ?_
                refine lv_iload_n hx hb dX11_go_313 rfl (lv_at hl 0 rfl) ?_
                refine z_if_eq (tgt := 334) hx hb dX11_go_314 (by decide) ⟨by omega, by omega⟩ (fun c314 => ?_) (fun c314 => ?_)
                · refine z_iconst (n := 1) hx hb dX11_go_334 ?_
                  refine lv_goto (tgt := 347) hx hb dX11_go_335 (by decide) ?_
                  refine z_put hx hb hts hiX11_go_X11 tyX11 tyX11_ok nmX11 hown hW 0 6 5 rfl rfl (by decide) (Nat.le_of_ble_eq_true rfl) rfl rfl rfl rfl dX11_go_347 (fun H locs hW => ?_)
                  have hW : zW G (tyZ cI cJ cO) A s (mW cI cJ h q (uV (uV (uV (uV (uV v 5 p4) 4 x4) 7 n7) 10 w10) 6 1) a) H locs := hW
                  exact z_vret hx hb hr hlk hW (⟨x4, p4, 1, n7, w10⟩) (show _ = _ ∧ _ = _ ∧ _ = _ ∧ (_ → _) ∧ (_ → _) from ⟨by unfold tkB; rw [d2, if_neg (by omega), if_pos (show (97 ≤ a 1 p4 ∧ a 1 p4 ≤ 122) ∨ (48 ≤ a 1 p4 ∧ a 1 p4 ≤ 57) from k0), ← j2]; exact (BHD_end (show ¬ (x4 < v 3 ∧ ((97 ≤ a 1 x4 ∧ a 1 x4 ≤ 122) ∨ (48 ≤ a 1 x4 ∧ a 1 x4 ≤ 57))) by omega)).symm, by unfold tkP; rw [d2, if_neg (by omega)], by unfold tkS SRT; rw [d2, if_neg (by omega), if_neg (by omega), if_pos (show (97 ≤ a 1 p4 ∧ a 1 p4 ≤ 122) ∨ (48 ≤ a 1 p4 ∧ a 1 p4 ≤ 57) from k0), ← j2, BHD_end (show ¬ (x4 < v 3 ∧ ((97 ≤ a 1 x4 ∧ a 1 x4 ≤ 122) ∨ (48 ≤ a 1 x4 ∧ a 1 x4 ≤ 57))) by omega)]; first | (rw [if_pos (by omega)]; done) | (rw [if_neg (by omega), if_pos (by omega)]; done) | (rw [if_neg (by omega), if_neg (by omega)]; done), fun q => absurd (show (1 : Int) = 2 from q) (by omega), fun q => absurd (show (1 : Int) = 3 from q) (by omega)⟩) rfl dX11_go_350
                · refine lv_iload_n hx hb dX11_go_317 rfl (lv_at hl 1 rfl) ?_
                  refine z_if_ne (tgt := 338) hx hb dX11_go_318 (by decide) ⟨by omega, by omega⟩ (fun c318 => ?_) (fun c318 => ?_)
                  · refine lv_iload_n hx hb dX11_go_338 rfl (lv_at hl 1 rfl) ?_
                    refine z_if_eq (tgt := 346) hx hb dX11_go_339 (by decide) ⟨by omega, by omega⟩ (fun c339 => ?_) (fun c339 => ?_)
                    · refine z_iconst (n := 3) hx hb dX11_go_346 ?_
                      refine z_put hx hb hts hiX11_go_X11 tyX11 tyX11_ok nmX11 hown hW 0 6 5 rfl rfl (by decide) (Nat.le_of_ble_eq_true rfl) rfl rfl rfl rfl dX11_go_347 (fun H locs hW => ?_)
                      have hW : zW G (tyZ cI cJ cO) A s (mW cI cJ h q (uV (uV (uV (uV (uV v 5 p4) 4 x4) 7 n7) 10 w10) 6 3) a) H locs := hW
                      exact z_vret hx hb hr hlk hW (⟨x4, p4, 3, n7, w10⟩) (show _ = _ ∧ _ = _ ∧ _ = _ ∧ (_ → _) ∧ (_ → _) from ⟨by unfold tkB; rw [d2, if_neg (by omega), if_pos (show (97 ≤ a 1 p4 ∧ a 1 p4 ≤ 122) ∨ (48 ≤ a 1 p4 ∧ a 1 p4 ≤ 57) from k0), ← j2]; exact (BHD_end (show ¬ (x4 < v 3 ∧ ((97 ≤ a 1 x4 ∧ a 1 x4 ≤ 122) ∨ (48 ≤ a 1 x4 ∧ a 1 x4 ≤ 57))) by omega)).symm, by unfold tkP; rw [d2, if_neg (by omega)], by unfold tkS SRT; rw [d2, if_neg (by omega), if_neg (by omega), if_pos (show (97 ≤ a 1 p4 ∧ a 1 p4 ≤ 122) ∨ (48 ≤ a 1 p4 ∧ a 1 p4 ≤ 57) from k0), ← j2, BHD_end (show ¬ (x4 < v 3 ∧ ((97 ≤ a 1 x4 ∧ a 1 x4 ≤ 122) ∨ (48 ≤ a 1 x4 ∧ a 1 x4 ≤ 57))) by omega)]; first | (rw [if_pos (by omega)]; done) | (rw [if_neg (by omega), if_pos (by omega)]; done) | (rw [if_neg (by omega), if_neg (by omega)]; done), fun q => absurd (show (3 : Int) = 2 from q) (by omega), fun _ => by unfold tkN; rw [d2, ← j2, BHD_end (show ¬ (x4 < v 3 ∧ ((97 ≤ a 1 x4 ∧ a 1 x4 ≤ 122) ∨ (48 ≤ a 1 x4 ∧ a 1 x4 ≤ 57))) by omega)]; exact j4⟩) rfl dX11_go_350
                    · refine z_iconst (n := 2) hx hb dX11_go_342 ?_
                      refine lv_goto (tgt := 347) hx hb dX11_go_343 (by decide) ?_
                      refine z_put hx hb hts hiX11_go_X11 tyX11 tyX11_ok nmX11 hown hW 0 6 5 rfl rfl (by decide) (Nat.le_of_ble_eq_true rfl) rfl rfl rfl rfl dX11_go_347 (fun H locs hW => ?_)
                      have hW : zW G (tyZ cI cJ cO) A s (mW cI cJ h q (uV (uV (uV (uV (uV v 5 p4) 4 x4) 7 n7) 10 w10) 6 2) a) H locs := hW
                      exact z_vret hx hb hr hlk hW (⟨x4, p4, 2, n7, w10⟩) (show _ = _ ∧ _ = _ ∧ _ = _ ∧ (_ → _) ∧ (_ → _) from ⟨by unfold tkB; rw [d2, if_neg (by omega), if_pos (show (97 ≤ a 1 p4 ∧ a 1 p4 ≤ 122) ∨ (48 ≤ a 1 p4 ∧ a 1 p4 ≤ 57) from k0), ← j2]; exact (BHD_end (show ¬ (x4 < v 3 ∧ ((97 ≤ a 1 x4 ∧ a 1 x4 ≤ 122) ∨ (48 ≤ a 1 x4 ∧ a 1 x4 ≤ 57))) by omega)).symm, by unfold tkP; rw [d2, if_neg (by omega)], by unfold tkS SRT; rw [d2, if_neg (by omega), if_neg (by omega), if_pos (show (97 ≤ a 1 p4 ∧ a 1 p4 ≤ 122) ∨ (48 ≤ a 1 p4 ∧ a 1 p4 ≤ 57) from k0), ← j2, BHD_end (show ¬ (x4 < v 3 ∧ ((97 ≤ a 1 x4 ∧ a 1 x4 ≤ 122) ∨ (48 ≤ a 1 x4 ∧ a 1 x4 ≤ 57))) by omega)]; first | (rw [if_pos (by omega)]; done) | (rw [if_neg (by omega), if_pos (by omega)]; done) | (rw [if_neg (by omega), if_neg (by omega)]; done), fun _ => by unfold tkW; rw [d2, ← j2, BHD_end (show ¬ (x4 < v 3 ∧ ((97 ≤ a 1 x4 ∧ a 1 x4 ≤ 122) ∨ (48 ≤ a 1 x4 ∧ a 1 x4 ≤ 57))) by omega)]; exact j5, fun q => absurd (show (2 : Int) = 3 from q) (by omega)⟩) rfl dX11_go_350
                  · refine lv_aload_n hx hb dX11_go_321 rfl (lv_at hl 3 rfl) ?_
                    refine z_get (v := .int (iI x4)) hx hb hts hiX11_go_X11 hown hW 0 4 1 rfl rfl rfl (by decide) rfl dX11_go_322 ?_
                    refine lv_aload_n hx hb dX11_go_325 rfl (lv_at hl 3 rfl) ?_
                    refine z_get (v := .int (iI p4)) hx hb hts hiX11_go_X11 hown hW 0 5 4 rfl rfl rfl (by decide) rfl dX11_go_326 ?_
                    refine z_isub hx hb dX11_go_329 ?_
                    refine z_iconst (n := 5) hx hb dX11_go_330 ?_
                    refine z_icmp_le (tgt := 338) hx hb dX11_go_331 (by decide) ⟨by omega, by omega⟩ (by decide) (fun c331 => ?_) (fun c331 => ?_)
                    · refine lv_iload_n hx hb dX11_go_338 rfl (lv_at hl 1 rfl) ?_
                      refine z_if_eq (tgt := 346) hx hb dX11_go_339 (by decide) ⟨by omega, by omega⟩ (fun c339 => ?_) (fun c339 => ?_)
                      · refine z_iconst (n := 3) hx hb dX11_go_346 ?_
                        refine z_put hx hb hts hiX11_go_X11 tyX11 tyX11_ok nmX11 hown hW 0 6 5 rfl rfl (by decide) (Nat.le_of_ble_eq_true rfl) rfl rfl rfl rfl dX11_go_347 (fun H locs hW => ?_)
                        have hW : zW G (tyZ cI cJ cO) A s (mW cI cJ h q (uV (uV (uV (uV (uV v 5 p4) 4 x4) 7 n7) 10 w10) 6 3) a) H locs := hW
                        exact z_vret hx hb hr hlk hW (⟨x4, p4, 3, n7, w10⟩) (show _ = _ ∧ _ = _ ∧ _ = _ ∧ (_ → _) ∧ (_ → _) from ⟨by unfold tkB; rw [d2, if_neg (by omega), if_pos (show (97 ≤ a 1 p4 ∧ a 1 p4 ≤ 122) ∨ (48 ≤ a 1 p4 ∧ a 1 p4 ≤ 57) from k0), ← j2]; exact (BHD_end (show ¬ (x4 < v 3 ∧ ((97 ≤ a 1 x4 ∧ a 1 x4 ≤ 122) ∨ (48 ≤ a 1 x4 ∧ a 1 x4 ≤ 57))) by omega)).symm, by unfold tkP; rw [d2, if_neg (by omega)], by unfold tkS SRT; rw [d2, if_neg (by omega), if_neg (by omega), if_pos (show (97 ≤ a 1 p4 ∧ a 1 p4 ≤ 122) ∨ (48 ≤ a 1 p4 ∧ a 1 p4 ≤ 57) from k0), ← j2, BHD_end (show ¬ (x4 < v 3 ∧ ((97 ≤ a 1 x4 ∧ a 1 x4 ≤ 122) ∨ (48 ≤ a 1 x4 ∧ a 1 x4 ≤ 57))) by omega)]; first | (rw [if_pos (by omega)]; done) | (rw [if_neg (by omega), if_pos (by omega)]; done) | (rw [if_neg (by omega), if_neg (by omega)]; done), fun q => absurd (show (3 : Int) = 2 from q) (by omega), fun _ => by unfold tkN; rw [d2, ← j2, BHD_end (show ¬ (x4 < v 3 ∧ ((97 ≤ a 1 x4 ∧ a 1 x4 ≤ 122) ∨ (48 ≤ a 1 x4 ∧ a 1 x4 ≤ 57))) by omega)]; exact j4⟩) rfl dX11_go_350
                      · refine z_iconst (n := 2) hx hb dX11_go_342 ?_
                        refine lv_goto (tgt := 347) hx hb dX11_go_343 (by decide) ?_
                        refine z_put hx hb hts hiX11_go_X11 tyX11 tyX11_ok nmX11 hown hW 0 6 5 rfl rfl (by decide) (Nat.le_of_ble_eq_true rfl) rfl rfl rfl rfl dX11_go_347 (fun H locs hW => ?_)
                        have hW : zW G (tyZ cI cJ cO) A s (mW cI cJ h q (uV (uV (uV (uV (uV v 5 p4) 4 x4) 7 n7) 10 w10) 6 2) a) H locs := hW
                        exact z_vret hx hb hr hlk hW (⟨x4, p4, 2, n7, w10⟩) (show _ = _ ∧ _ = _ ∧ _ = _ ∧ (_ → _) ∧ (_ → _) from ⟨by unfold tkB; rw [d2, if_neg (by omega), if_pos (show (97 ≤ a 1 p4 ∧ a 1 p4 ≤ 122) ∨ (48 ≤ a 1 p4 ∧ a 1 p4 ≤ 57) from k0), ← j2]; exact (BHD_end (show ¬ (x4 < v 3 ∧ ((97 ≤ a 1 x4 ∧ a 1 x4 ≤ 122) ∨ (48 ≤ a 1 x4 ∧ a 1 x4 ≤ 57))) by omega)).symm, by unfold tkP; rw [d2, if_neg (by omega)], by unfold tkS SRT; rw [d2, if_neg (by omega), if_neg (by omega), if_pos (show (97 ≤ a 1 p4 ∧ a 1 p4 ≤ 122) ∨ (48 ≤ a 1 p4 ∧ a 1 p4 ≤ 57) from k0), ← j2, BHD_end (show ¬ (x4 < v 3 ∧ ((97 ≤ a 1 x4 ∧ a 1 x4 ≤ 122) ∨ (48 ≤ a 1 x4 ∧ a 1 x4 ≤ 57))) by omega)]; first | (rw [if_pos (by omega)]; done) | (rw [if_neg (by omega), if_pos (by omega)]; done) | (rw [if_neg (by omega), if_neg (by omega)]; done), fun _ => by unfold tkW; rw [d2, ← j2, BHD_end (show ¬ (x4 < v 3 ∧ ((97 ≤ a 1 x4 ∧ a 1 x4 ≤ 122) ∨ (48 ≤ a 1 x4 ∧ a 1 x4 ≤ 57))) by omega)]; exact j5, fun q => absurd (show (2 : Int) = 3 from q) (by omega)⟩) rfl dX11_go_350
                    · refine z_iconst (n := 1) hx hb dX11_go_334 ?_
                      refine lv_goto (tgt := 347) hx hb dX11_go_335 (by decide) ?_
                      refine z_put hx hb hts hiX11_go_X11 tyX11 tyX11_ok nmX11 hown hW 0 6 5 rfl rfl (by decide) (Nat.le_of_ble_eq_true rfl) rfl rfl rfl rfl dX11_go_347 (fun H locs hW => ?_)
                      have hW : zW G (tyZ cI cJ cO) A s (mW cI cJ h q (uV (uV (uV (uV (uV v 5 p4) 4 x4) 7 n7) 10 w10) 6 1) a) H locs := hW
                      exact z_vret hx hb hr hlk hW (⟨x4, p4, 1, n7, w10⟩) (show _ = _ ∧ _ = _ ∧ _ = _ ∧ (_ → _) ∧ (_ → _) from ⟨by unfold tkB; rw [d2, if_neg (by omega), if_pos (show (97 ≤ a 1 p4 ∧ a 1 p4 ≤ 122) ∨ (48 ≤ a 1 p4 ∧ a 1 p4 ≤ 57) from k0), ← j2]; exact (BHD_end (show ¬ (x4 < v 3 ∧ ((97 ≤ a 1 x4 ∧ a 1 x4 ≤ 122) ∨ (48 ≤ a 1 x4 ∧ a 1 x4 ≤ 57))) by omega)).symm, by unfold tkP; rw [d2, if_neg (by omega)], by unfold tkS SRT; rw [d2, if_neg (by omega), if_neg (by omega), if_pos (show (97 ≤ a 1 p4 ∧ a 1 p4 ≤ 122) ∨ (48 ≤ a 1 p4 ∧ a 1 p4 ≤ 57) from k0), ← j2, BHD_end (show ¬ (x4 < v 3 ∧ ((97 ≤ a 1 x4 ∧ a 1 x4 ≤ 122) ∨ (48 ≤ a 1 x4 ∧ a 1 x4 ≤ 57))) by omega)]; first | (rw [if_pos (by omega)]; done) | (rw [if_neg (by omega), if_pos (by omega)]; done) | (rw [if_neg (by omega), if_neg (by omega)]; done), fun q => absurd (show (1 : Int) = 2 from q) (by omega), fun q => absurd (show (1 : Int) = 3 from q) (by omega)⟩) rfl dX11_go_350
              · exact J4  _ _ _ ⟨(by omega), hW, (lv_sub hl [0, 1, 2, 3] rfl)⟩
        · intro J5
          refine lv_iload_n hx hb dX11_go_120 rfl (lv_at hl 0 rfl) ?_
          refine z_callS (As := [.int (iI ((a 1) p4))]) (rest := []) F (c_isLetter ((a 1) p4)  (show -2147483648 ≤ ((a 1) p4) ∧ ((a 1) p4) < 2147483648 by omega)) gX11_go_X11_isLetter rfl ziX11_isLetter ⟨rfl, rfl, by decide, by decide⟩ rfl hl.1 rfl (Nat.le_of_ble_eq_true rfl) dX11_go_121 ⟨Nat.zero_le _, Nat.zero_le _⟩ hW hA [] rfl (by decide) (fun _ => rfl) (fun _ => mW cI cJ h q (uV (uV v 4 p4) 5 p4) a) (fun _ => rfl) (fun _ => [.int (iI (bI (97 ≤ ((a 1) p4) ∧ ((a 1) p4) ≤ 122)))]) (fun _ => rfl) (fun _ H locs hp121 hW => ?_)
          refine z_b_ne (tgt := 160) hx hb dX11_go_124 (by decide) (fun c124 => ?_) (fun c124 => ?_)
          · exact J5  _ _ _ ⟨(by omega), hW, (lv_sub hl [0, 1] rfl)⟩
          · refine lv_iload_n hx hb dX11_go_127 rfl (lv_at hl 0 rfl) ?_
            refine z_callS (As := [.int (iI ((a 1) p4))]) (rest := []) F (c_isDigit ((a 1) p4)  (show -2147483648 ≤ ((a 1) p4) ∧ ((a 1) p4) < 2147483648 by omega)) gX11_go_X11_isDigit rfl ziX11_isDigit ⟨rfl, rfl, by decide, by decide⟩ rfl hl.1 rfl (Nat.le_of_ble_eq_true rfl) dX11_go_128 ⟨Nat.zero_le _, Nat.zero_le _⟩ hW hA [] rfl (by decide) (fun _ => rfl) (fun _ => mW cI cJ h q (uV (uV v 4 p4) 5 p4) a) (fun _ => rfl) (fun _ => [.int (iI (bI (48 ≤ ((a 1) p4) ∧ ((a 1) p4) ≤ 57)))]) (fun _ => rfl) (fun _ H locs hp128 hW => ?_)
            refine z_b_ne (tgt := 160) hx hb dX11_go_131 (by decide) (fun c131 => ?_) (fun c131 => ?_)
            · exact J5  _ _ _ ⟨(by omega), hW, (lv_sub hl [0, 1] rfl)⟩
            · refine lv_aload_n hx hb dX11_go_134 rfl (lv_at hl 1 rfl) ?_
              refine lv_iload_n hx hb dX11_go_135 rfl (lv_at hl 0 rfl) ?_
              refine z_bipush hx hb dX11_go_136 (by decide +kernel) ?_
              refine z_icmp_ne (tgt := 145) hx hb dX11_go_138 (by decide) ⟨by omega, by omega⟩ (by decide) (fun c138 => ?_) (fun c138 => ?_)
              · refine z_iconst (n := 1) hx hb dX11_go_145 ?_
                refine z_put hx hb hts hiX11_go_X11 tyX11 tyX11_ok nmX11 hown hW 0 6 5 rfl rfl (by decide) (Nat.le_of_ble_eq_true rfl) rfl rfl rfl rfl dX11_go_146 (fun H locs hW => ?_)
                have hW : zW G (tyZ cI cJ cO) A s (mW cI cJ h q (uV (uV (uV v 4 p4) 5 p4) 6 1) a) H locs := hW
                refine lv_aload_n hx hb dX11_go_149 rfl (lv_at hl 1 rfl) ?_
                refine lv_dup hx hb dX11_go_150 rfl ?_
                refine z_get (v := .int (iI p4)) hx hb hts hiX11_go_X11 hown hW 0 4 1 rfl rfl rfl (by decide) rfl dX11_go_151 ?_
                refine z_iconst (n := 1) hx hb dX11_go_154 ?_
                refine z_iadd hx hb dX11_go_155 ?_
                refine z_put hx hb hts hiX11_go_X11 tyX11 tyX11_ok nmX11 hown hW 0 4 1 rfl rfl (by decide) (Nat.le_of_ble_eq_true rfl) rfl rfl rfl rfl dX11_go_156 (fun H locs hW => ?_)
                have hW : zW G (tyZ cI cJ cO) A s (mW cI cJ h q (uV (uV (uV v 5 p4) 6 1) 4 (p4 + 1)) a) H locs := hW
                exact z_vret hx hb hr hlk hW (⟨p4 + 1, p4, 1, v 7, v 10⟩) (show _ = _ ∧ _ = _ ∧ _ = _ ∧ (_ → _) ∧ (_ → _) from ⟨by unfold tkB; rw [d2, if_neg (by omega), if_neg (show ¬ ((97 ≤ a 1 p4 ∧ a 1 p4 ≤ 122) ∨ (48 ≤ a 1 p4 ∧ a 1 p4 ≤ 57)) by omega)], by unfold tkP; rw [d2, if_neg (by omega)], by unfold tkS; rw [d2, if_neg (by omega), if_neg (by omega), if_neg (show ¬ ((97 ≤ a 1 p4 ∧ a 1 p4 ≤ 122) ∨ (48 ≤ a 1 p4 ∧ a 1 p4 ≤ 57)) by omega)]; first | rw [if_pos (by omega)] | rw [if_neg (by omega)], fun q => absurd (show 1 = (2 : Int) from q) (by omega), fun q => absurd (show 1 = (3 : Int) from q) (by omega)⟩) rfl dX11_go_159
              · refine z_iconst (n := 4) hx hb dX11_go_141 ?_
                refine lv_goto (tgt := 146) hx hb dX11_go_142 (by decide) ?_
                refine z_put hx hb hts hiX11_go_X11 tyX11 tyX11_ok nmX11 hown hW 0 6 5 rfl rfl (by decide) (Nat.le_of_ble_eq_true rfl) rfl rfl rfl rfl dX11_go_146 (fun H locs hW => ?_)
                have hW : zW G (tyZ cI cJ cO) A s (mW cI cJ h q (uV (uV (uV v 4 p4) 5 p4) 6 4) a) H locs := hW
                refine lv_aload_n hx hb dX11_go_149 rfl (lv_at hl 1 rfl) ?_
                refine lv_dup hx hb dX11_go_150 rfl ?_
                refine z_get (v := .int (iI p4)) hx hb hts hiX11_go_X11 hown hW 0 4 1 rfl rfl rfl (by decide) rfl dX11_go_151 ?_
                refine z_iconst (n := 1) hx hb dX11_go_154 ?_
                refine z_iadd hx hb dX11_go_155 ?_
                refine z_put hx hb hts hiX11_go_X11 tyX11 tyX11_ok nmX11 hown hW 0 4 1 rfl rfl (by decide) (Nat.le_of_ble_eq_true rfl) rfl rfl rfl rfl dX11_go_156 (fun H locs hW => ?_)
                have hW : zW G (tyZ cI cJ cO) A s (mW cI cJ h q (uV (uV (uV v 5 p4) 6 4) 4 (p4 + 1)) a) H locs := hW
                exact z_vret hx hb hr hlk hW (⟨p4 + 1, p4, 4, v 7, v 10⟩) (show _ = _ ∧ _ = _ ∧ _ = _ ∧ (_ → _) ∧ (_ → _) from ⟨by unfold tkB; rw [d2, if_neg (by omega), if_neg (show ¬ ((97 ≤ a 1 p4 ∧ a 1 p4 ≤ 122) ∨ (48 ≤ a 1 p4 ∧ a 1 p4 ≤ 57)) by omega)], by unfold tkP; rw [d2, if_neg (by omega)], by unfold tkS; rw [d2, if_neg (by omega), if_neg (by omega), if_neg (show ¬ ((97 ≤ a 1 p4 ∧ a 1 p4 ≤ 122) ∨ (48 ≤ a 1 p4 ∧ a 1 p4 ≤ 57)) by omega)]; first | rw [if_pos (by omega)] | rw [if_neg (by omega)], fun q => absurd (show 4 = (2 : Int) from q) (by omega), fun q => absurd (show 4 = (3 : Int) from q) (by omega)⟩) rfl dX11_go_159
      · refine lv_aload_n hx hb dX11_go_104 rfl (lv_at hl 0 rfl) ?_
        refine z_iconst (n := 0) hx hb dX11_go_105 ?_
        refine z_put hx hb hts hiX11_go_X11 tyX11 tyX11_ok nmX11 hown hW 0 6 5 rfl rfl (by decide) (Nat.le_of_ble_eq_true rfl) rfl rfl rfl rfl dX11_go_106 (fun H locs hW => ?_)
        have hW : zW G (tyZ cI cJ cO) A s (mW cI cJ h q (uV (uV (uV v 4 p4) 5 p4) 6 0) a) H locs := hW
        exact z_vret hx hb hr hlk hW (⟨p4, p4, 0, v 7, v 10⟩) (show _ = _ ∧ _ = _ ∧ _ = _ ∧ (_ → _) ∧ (_ → _) from ⟨by unfold tkB; rw [d2, if_pos (by omega)], by unfold tkP; rw [d2, if_neg (by omega)], by unfold tkS; rw [d2, if_neg (by omega), if_pos (by omega)], fun q => absurd (show (0 : Int) = 2 from q) (by decide), fun q => absurd (show (0 : Int) = 3 from q) (by decide)⟩) rfl dX11_go_109
    · refine lv_aload_n hx hb dX11_go_70 rfl (lv_at hl 0 rfl) ?_
      refine z_get (v := .int (iI p4)) hx hb hts hiX11_go_X11 hown hW 0 5 4 rfl rfl rfl (by decide) rfl dX11_go_71 ?_
      refine z_sipush hx hb dX11_go_74 (by decide +kernel) ?_
      refine z_icmp_lt (tgt := 93) hx hb dX11_go_77 (by decide) ⟨by omega, by omega⟩ (by decide) (fun c77 => ?_) (fun c77 => ?_)
      · refine lv_aload_n hx hb dX11_go_93 rfl (lv_at hl 0 rfl) ?_
        refine z_get (v := .int (iI p4)) hx hb hts hiX11_go_X11 hown hW 0 4 1 rfl rfl rfl (by decide) rfl dX11_go_94 ?_
        refine lv_aload_n hx hb dX11_go_97 rfl (lv_at hl 0 rfl) ?_
        refine z_get (v := .int (iI (v 3))) hx hb hts hiX11_go_X11 hown hW 0 3 2 rfl rfl rfl (by decide) rfl dX11_go_98 ?_
        refine z_icmp_lt (tgt := 110) hx hb dX11_go_101 (by decide) ⟨by omega, by omega⟩ ⟨by omega, by omega⟩ (fun c101 => ?_) (fun c101 => ?_)
        · have hj := hT p4 (by omega) (by omega)
          refine lv_aload_n hx hb dX11_go_110 rfl (lv_at hl 0 rfl) ?_
          refine z_get (v := .ref (q 1)) hx hb hts hiX11_go_X11 hown hW 0 1 3 rfl rfl rfl (by decide) rfl dX11_go_111 ?_
          refine lv_aload_n hx hb dX11_go_114 rfl (lv_at hl 0 rfl) ?_
          refine z_get (v := .int (iI p4)) hx hb hts hiX11_go_X11 hown hW 0 4 1 rfl rfl rfl (by decide) rfl dX11_go_115 ?_
          refine z_iald (f := a 1) (i := p4) hx hb hW 1 0 rfl rfl (by decide) ⟨by omega, by omega⟩ dX11_go_118 ?_
          refine lv_istore_n (lv' := [(1, .int (iI ((a 1) p4))), (0, .ref h)]) hx hb dX11_go_119 rfl hl (by decide) rfl (fun ls hl => ?_)
          refine z_join0 (fun  (ls : Array Slot) (H : Heap) (locs : List Loc) => ((97 ≤ a 1 p4 ∧ a 1 p4 ≤ 122) ∨ (48 ≤ a 1 p4 ∧ a 1 p4 ≤ 57)) ∧ zW G (tyZ cI cJ cO) A s (mW cI cJ h q (uV (uV v 4 p4) 5 p4) a) H locs ∧ lv_has ls 5 [(1, .int (iI ((a 1) p4))), (0, .ref h)]) 160 [] ?_ ?_
          · intro ls H locs hJ
            obtain ⟨k0, hW, hl⟩ := hJ
            have hB := BHD_R (T := a 1) (z := v 3) (y := p4)
            have hl0 := bI_or (P := 97 ≤ a 1 p4 ∧ a 1 p4 ≤ 122)
            refine lv_iload_n hx hb dX11_go_160 rfl (lv_at hl 0 rfl) ?_
            refine z_callS (As := [.int (iI ((a 1) p4))]) (rest := []) F (c_isLetter ((a 1) p4)  (show -2147483648 ≤ ((a 1) p4) ∧ ((a 1) p4) < 2147483648 by omega)) gX11_go_X11_isLetter rfl ziX11_isLetter ⟨rfl, rfl, by decide, by decide⟩ rfl hl.1 rfl (Nat.le_of_ble_eq_true rfl) dX11_go_161 ⟨Nat.zero_le _, Nat.zero_le _⟩ hW hA [] rfl (by decide) (fun _ => rfl) (fun _ => mW cI cJ h q (uV (uV v 4 p4) 5 p4) a) (fun _ => rfl) (fun _ => [.int (iI (bI (97 ≤ ((a 1) p4) ∧ ((a 1) p4) ≤ 122)))]) (fun _ => rfl) (fun _ H locs hp161 hW => ?_)
            refine z_name (fun s2 es2 => ?_)
            refine lv_istore_n (lv' := [(2, .int (iI s2)), (1, .int (iI ((a 1) p4))), (0, .ref h)]) hx hb dX11_go_164 rfl hl (by decide) rfl (fun ls hl => ?_)
            refine z_iconst (n := 1) hx hb dX11_go_165 ?_
            refine lv_istore_n (lv' := [(3, .int (iI 1)), (2, .int (iI s2)), (1, .int (iI ((a 1) p4))), (0, .ref h)]) hx hb dX11_go_166 rfl hl (by decide) rfl (fun ls hl => ?_)
            refine lv_aload_n hx hb dX11_go_167 rfl (lv_at hl 3 rfl) ?_
            refine z_lconst (z := 0) hx hb dX11_go_168 (by decide +kernel) ?_
            refine z_put hx hb hts hiX11_go_X11 tyX11 tyX11_ok nmX11 hown hW 0 10 6 rfl rfl (by decide) (Nat.le_of_ble_eq_true rfl) rfl rfl rfl rfl dX11_go_169 (fun H locs hW => ?_)
            have hW : zW G (tyZ cI cJ cO) A s (mW cI cJ h q (uV (uV (uV v 4 p4) 5 p4) 10 0) a) H locs := hW
            refine lv_aload_n hx hb dX11_go_172 rfl (lv_at hl 3 rfl) ?_
            refine z_iconst (n := 0) hx hb dX11_go_173 ?_
            refine z_put hx hb hts hiX11_go_X11 tyX11 tyX11_ok nmX11 hown hW 0 7 7 rfl rfl (by decide) (Nat.le_of_ble_eq_true rfl) rfl rfl rfl rfl dX11_go_174 (fun H locs hW => ?_)
            have hW : zW G (tyZ cI cJ cO) A s (mW cI cJ h q (uV (uV (uV (uV v 4 p4) 5 p4) 10 0) 7 0) a) H locs := hW
            refine z_loop4 (fun (x4 : Int) (g3 : Int) (n7 : Int) (w10 : Int) (ls : Array Slot) (H : Heap) (locs : List Loc) => (p4 ≤ x4 ∧ x4 ≤ v 3) ∧ (BHD (a 1) (v 3) x4 = BHD (a 1) (v 3) p4) ∧ ((g3 = 1 ∧ ((s2 = 1 ∧ LC (a 1) p4 (x4 - p4).toNat = x4 - p4) ∨ (s2 = 0 ∧ LC (a 1) p4 (x4 - p4).toNat = 0))) ∨ (g3 = 0 ∧ 0 < LC (a 1) p4 (x4 - p4).toNat ∧ LC (a 1) p4 (x4 - p4).toNat < x4 - p4)) ∧ (n7 = NUM (a 1) p4 (x4 - p4).toNat) ∧ (w10 = WRD (a 1) p4 (x4 - p4).toNat) ∧ (p4 < x4 ∨ (x4 = p4 ∧ g3 = 1)) ∧ zW G (tyZ cI cJ cO) A s (mW cI cJ h q (uV (uV (uV (uV v 5 p4) 4 x4) 7 n7) 10 w10) a) H locs ∧ lv_has ls 5 [(3, .int (iI g3)), (2, .int (iI s2)), (1, .int (iI ((a 1) p4))), (0, .ref h)]) (fun x4 g3 n7 w10 => (v 3 - x4).toNat) ?_ p4 1 0 0 _ _ _ ⟨(by omega), rfl, (by rw [show (p4 - p4).toNat = 0 by omega]; show (_ ∧ ((_ ∧ (0 : Int) = _) ∨ (_ ∧ (0 : Int) = 0))) ∨ _; omega), (by rw [show (p4 - p4).toNat = 0 by omega]; rfl), (by rw [show (p4 - p4).toNat = 0 by omega]; rfl), (by omega), hW, (lv_sub hl [0, 1, 2, 3] rfl)⟩
            intro x4 g3 n7 w10 ls H locs hI ih
            obtain ⟨j1, j2, j3, j4, j5, j6, hW, hl⟩ := hI
            have tz : (x4 < v 3 ∧ (if x4 < v 3 then a 1 x4 else 0) = a 1 x4) ∨ (¬ x4 < v 3 ∧ (if x4 < v 3 then a 1 x4 else 0) = 0) := by by_cases q : x4 < v 3; (left; exact ⟨q, if_pos q⟩); (right; exact ⟨q, if_neg q⟩)
            have hx4 : x4 < v 3 → 0 ≤ a 1 x4 ∧ a 1 x4 ≤ 255 := fun q => hT x4 (by omega) (by omega)
            have wl := WRD_L (T := a 1) (y := p4) (n := (x4 - p4).toNat) (fun j j0 j1 => hT j (by omega) (by omega))
            have nl := NUM_L (T := a 1) (y := p4) (n := (x4 - p4).toNat) (fun j j0 j1 => hT j (by omega) (by omega))
            have lc := LC_R (T := a 1) (y := p4) (x4 - p4).toNat
            have bx := bI_or (P := 97 ≤ a 1 x4 ∧ a 1 x4 ≤ 122)
            have hpy : x4 = p4 → a 1 x4 = a 1 p4 := fun q => by rw [q]
            have hpx : x4 = p4 → bI (97 ≤ a 1 x4 ∧ a 1 x4 ≤ 122) = s2 := fun q => by rw [q]; first | exact es2 | exact es2.symm
            refine lv_aload_n hx hb dX11_go_177 rfl (lv_at hl 3 rfl) ?_
            refine z_join0 (fun  (ls : Array Slot) (H : Heap) (locs : List Loc) => (x4 < v 3 ∧ ((97 ≤ a 1 x4 ∧ a 1 x4 ≤ 122) ∨ (48 ≤ a 1 x4 ∧ a 1 x4 ≤ 57))) ∧ zW G (tyZ cI cJ cO) A s (mW cI cJ h q (uV (uV (uV (uV v 5 p4) 4 x4) 7 n7) 10 w10) a) H locs ∧ lv_has ls 5 [(3, .int (iI g3)), (2, .int (iI s2)), (1, .int (iI ((a 1) p4))), (0, .ref h)]) 205 [] ?_ ?_
            · intro ls H locs hJ
              obtain ⟨k1, hW, hl⟩ := hJ
              refine lv_aload_n hx hb dX11_go_205 rfl (lv_at hl 3 rfl) ?_
              refine z_get (v := .ref (q 1)) hx hb hts hiX11_go_X11 hown hW 0 1 3 rfl rfl rfl (by decide) rfl dX11_go_206 ?_
              refine lv_aload_n hx hb dX11_go_209 rfl (lv_at hl 3 rfl) ?_
              refine z_get (v := .int (iI x4)) hx hb hts hiX11_go_X11 hown hW 0 4 1 rfl rfl rfl (by decide) rfl dX11_go_210 ?_
              refine z_iald (f := a 1) (i := x4) hx hb hW 1 0 rfl rfl (by decide) ⟨by omega, by omega⟩ dX11_go_213 ?_
              refine lv_istore (lv' := [(4, .int (iI ((a 1) x4))), (3, .int (iI g3)), (2, .int (iI s2)), (1, .int (iI ((a 1) p4))), (0, .ref h)]) hx hb dX11_go_214 hl (by decide) rfl (fun ls hl => ?_)
              refine z_join1 (fun (g4 : Int) (ls : Array Slot) (H : Heap) (locs : List Loc) => ((g4 = 1 ∧ g3 = 1 ∧ s2 = bI (97 ≤ a 1 x4 ∧ a 1 x4 ≤ 122)) ∨ (g4 = 0 ∧ (g3 = 0 ∨ (g3 = 1 ∧ s2 ≠ bI (97 ≤ a 1 x4 ∧ a 1 x4 ≤ 122))))) ∧ zW G (tyZ cI cJ cO) A s (mW cI cJ h q (uV (uV (uV (uV v 5 p4) 4 x4) 7 n7) 10 w10) a) H locs ∧ lv_has ls 5 [(4, .int (iI ((a 1) x4))), (3, .int (iI g4)), (2, .int (iI s2)), (1, .int (iI ((a 1) p4))), (0, .ref h)]) 235 (fun g4 => []) ?_ ?_
              · intro g4 ls H locs hJ
                obtain ⟨k2, hW, hl⟩ := hJ
                refine lv_aload_n hx hb dX11_go_235 rfl (lv_at hl 4 rfl) ?_
                refine z_join1 (fun (w11 : Int) (ls : Array Slot) (H : Heap) (locs : List Loc) => (w11 = WRD (a 1) p4 (x4 + 1 - p4).toNat) ∧ zW G (tyZ cI cJ cO) A s (mW cI cJ h q (uV (uV (uV (uV v 5 p4) 4 x4) 7 n7) 10 w11) a) H locs ∧ lv_has ls 5 [(4, .int (iI ((a 1) x4))), (3, .int (iI g4)), (2, .int (iI s2)), (1, .int (iI ((a 1) p4))), (0, .ref h)]) 269 (fun w11 => []) ?_ ?_
                · intro w11 ls H locs hJ
                  obtain ⟨k4, hW, hl⟩ := hJ
                  refine lv_aload_n hx hb dX11_go_269 rfl (lv_at hl 4 rfl) ?_
                  refine z_join1 (fun (n8 : Int) (ls : Array Slot) (H : Heap) (locs : List Loc) => (n8 = NUM (a 1) p4 (x4 + 1 - p4).toNat) ∧ zW G (tyZ cI cJ cO) A s (mW cI cJ h q (uV (uV (uV (uV v 5 p4) 4 x4) 10 w11) 7 n8) a) H locs ∧ lv_has ls 5 [(4, .int (iI ((a 1) x4))), (3, .int (iI g4)), (2, .int (iI s2)), (1, .int (iI ((a 1) p4))), (0, .ref h)]) 299 (fun n8 => []) ?_ ?_
                  · intro n8 ls H locs hJ
                    obtain ⟨k5, hW, hl⟩ := hJ
                    refine lv_aload_n hx hb dX11_go_299 rfl (lv_at hl 4 rfl) ?_
                    refine lv_dup hx hb dX11_go_300 rfl ?_
                    refine z_get (v := .int (iI x4)) hx hb hts hiX11_go_X11 hown hW 0 4 1 rfl rfl rfl (by decide) rfl dX11_go_301 ?_
                    refine z_iconst (n := 1) hx hb dX11_go_304 ?_
                    refine z_iadd hx hb dX11_go_305 ?_
                    refine z_put hx hb hts hiX11_go_X11 tyX11 tyX11_ok nmX11 hown hW 0 4 1 rfl rfl (by decide) (Nat.le_of_ble_eq_true rfl) rfl rfl rfl rfl dX11_go_306 (fun H locs hW => ?_)
                    have hW : zW G (tyZ cI cJ cO) A s (mW cI cJ h q (uV (uV (uV (uV v 5 p4) 10 w11) 7 n8) 4 (x4 + 1)) a) H locs := hW
                    refine lv_goto (tgt := 177) hx hb dX11_go_309 (by decide) ?_
                    exact ih (x4 + 1) g4 n8 w11 _ _ _ ⟨(by omega), (by rw [← j2]; symm; exact BHD_go ⟨by omega, by first | exact k1.2 | omega⟩), (by rw [show (x4 + 1 - p4).toNat = (x4 - p4).toNat + 1 by omega, LC_s, show p4 + ((x4 - p4).toNat : Int) = x4 by omega, show bI (isLt (a 1 x4)) = bI (97 ≤ a 1 x4 ∧ a 1 x4 ≤ 122) from rfl]; omega), (by first | exact k5 | omega), (by first | exact k4 | omega), (by omega), hW, (lv_sub hl [1, 2, 3, 4] rfl)⟩ (by omega)
                  · intro J6
                    refine z_get (v := .int (iI x4)) hx hb hts hiX11_go_X11 hown hW 0 4 1 rfl rfl rfl (by decide) rfl dX11_go_270 ?_
                    refine lv_aload_n hx hb dX11_go_273 rfl (lv_at hl 4 rfl) ?_
                    refine z_get (v := .int (iI p4)) hx hb hts hiX11_go_X11 hown hW 0 5 4 rfl rfl rfl (by decide) rfl dX11_go_274 ?_
                    refine z_isub hx hb dX11_go_277 ?_
                    refine z_iconst (n := 5) hx hb dX11_go_278 ?_
                    refine z_icmp_ge (tgt := 299) hx hb dX11_go_279 (by decide) ⟨by omega, by omega⟩ (by decide) (fun c279 => ?_) (fun c279 => ?_)
                    · exact J6 n7 _ _ _ ⟨(by rw [show (x4 + 1 - p4).toNat = (x4 - p4).toNat + 1 by omega]; show _ = (if (x4 - p4).toNat < 5 then 10 * NUM (a 1) p4 (x4 - p4).toNat + a 1 (p4 + ((x4 - p4).toNat : Int)) - 48 else NUM (a 1) p4 (x4 - p4).toNat); rw [show p4 + ((x4 - p4).toNat : Int) = x4 by omega]; first | (rw [if_pos (by omega)]; omega) | (rw [if_neg (by omega)]; omega)), hW, (lv_sub hl [0, 1, 2, 3, 4] rfl)⟩
                    · refine lv_aload_n hx hb dX11_go_282 rfl (lv_at hl 4 rfl) ?_
                      refine z_bipush hx hb dX11_go_283 (by decide +kernel) ?_
                      refine lv_aload_n hx hb dX11_go_285 rfl (lv_at hl 4 rfl) ?_
                      refine z_get (v := .int (iI n7)) hx hb hts hiX11_go_X11 hown hW 0 7 7 rfl rfl rfl (by decide) rfl dX11_go_286 ?_
                      refine z_imul hx hb dX11_go_289 ?_
                      refine lv_iload hx hb dX11_go_290 (lv_at hl 0 rfl) ?_
                      refine z_iadd hx hb dX11_go_292 ?_
                      refine z_bipush hx hb dX11_go_293 (by decide +kernel) ?_
                      refine z_isub hx hb dX11_go_295 ?_
                      refine z_put hx hb hts hiX11_go_X11 tyX11 tyX11_ok nmX11 hown hW 0 7 7 rfl rfl (by decide) (Nat.le_of_ble_eq_true rfl) rfl rfl rfl rfl dX11_go_296 (fun H locs hW => ?_)
                      have hW : zW G (tyZ cI cJ cO) A s (mW cI cJ h q (uV (uV (uV (uV v 5 p4) 4 x4) 10 w11) 7 (((10 * n7) + ((a 1) x4)) - 48)) a) H locs := hW
                      exact J6 (((10 * n7) + ((a 1) x4)) - 48) _ _ _ ⟨(by rw [show (x4 + 1 - p4).toNat = (x4 - p4).toNat + 1 by omega]; show _ = (if (x4 - p4).toNat < 5 then 10 * NUM (a 1) p4 (x4 - p4).toNat + a 1 (p4 + ((x4 - p4).toNat : Int)) - 48 else NUM (a 1) p4 (x4 - p4).toNat); rw [show p4 + ((x4 - p4).toNat : Int) = x4 by omega]; first | (rw [if_pos (by omega)]; omega) | (rw [if_neg (by omega)]; omega)), hW, (lv_sub hl [0, 1, 2, 3, 4] rfl)⟩
                · intro J7
                  refine z_get (v := .int (iI x4)) hx hb hts hiX11_go_X11 hown hW 0 4 1 rfl rfl rfl (by decide) rfl dX11_go_236 ?_
                  refine lv_aload_n hx hb dX11_go_239 rfl (lv_at hl 4 rfl) ?_
                  refine z_get (v := .int (iI p4)) hx hb hts hiX11_go_X11 hown hW 0 5 4 rfl rfl rfl (by decide) rfl dX11_go_240 ?_
                  refine z_isub hx hb dX11_go_243 ?_
                  refine z_bipush hx hb dX11_go_244 (by decide +kernel) ?_
                  refine z_icmp_ge (tgt := 269) hx hb dX11_go_246 (by decide) ⟨by omega, by omega⟩ (by decide) (fun c246 => ?_) (fun c246 => ?_)
                  · exact J7 w10 _ _ _ ⟨(by rw [show (x4 + 1 - p4).toNat = (x4 - p4).toNat + 1 by omega]; show _ = (if (x4 - p4).toNat < 9 then 27 * WRD (a 1) p4 (x4 - p4).toNat + a 1 (p4 + ((x4 - p4).toNat : Int)) - 96 else WRD (a 1) p4 (x4 - p4).toNat); rw [show p4 + ((x4 - p4).toNat : Int) = x4 by omega]; first | (rw [if_pos (by omega)]; omega) | (rw [if_neg (by omega)]; omega)), hW, (lv_sub hl [0, 1, 2, 3, 4] rfl)⟩
                  · refine lv_aload_n hx hb dX11_go_249 rfl (lv_at hl 4 rfl) ?_
                    refine z_ldc2 hx hb (27) hown (hts _ (List.mem_of_getElem? (i := 8) rfl)) (by decide +kernel) dX11_go_250 ?_
                    refine lv_aload_n hx hb dX11_go_253 rfl (lv_at hl 4 rfl) ?_
                    refine z_get (v := .long (lI w10)) hx hb hts hiX11_go_X11 hown hW 0 10 6 rfl rfl rfl (by decide) rfl dX11_go_254 ?_
                    refine z_lmul hx hb dX11_go_257 ?_
                    refine lv_iload hx hb dX11_go_258 (lv_at hl 0 rfl) ?_
                    refine z_i2l hx hb dX11_go_260 ⟨by omega, by omega⟩ ?_
                    refine z_ladd hx hb dX11_go_261 ?_
                    refine z_ldc2 hx hb (96) hown (hts _ (List.mem_of_getElem? (i := 9) rfl)) (by decide +kernel) dX11_go_262 ?_
                    refine z_lsub hx hb dX11_go_265 ?_
                    refine z_put hx hb hts hiX11_go_X11 tyX11 tyX11_ok nmX11 hown hW 0 10 6 rfl rfl (by decide) (Nat.le_of_ble_eq_true rfl) rfl rfl rfl rfl dX11_go_266 (fun H locs hW => ?_)
                    have hW : zW G (tyZ cI cJ cO) A s (mW cI cJ h q (uV (uV (uV (uV v 5 p4) 4 x4) 7 n7) 10 (((27 * w10) + ((a 1) x4)) - 96)) a) H locs := hW
                    exact J7 (((27 * w10) + ((a 1) x4)) - 96) _ _ _ ⟨(by rw [show (x4 + 1 - p4).toNat = (x4 - p4).toNat + 1 by omega]; show _ = (if (x4 - p4).toNat < 9 then 27 * WRD (a 1) p4 (x4 - p4).toNat + a 1 (p4 + ((x4 - p4).toNat : Int)) - 96 else WRD (a 1) p4 (x4 - p4).toNat); rw [show p4 + ((x4 - p4).toNat : Int) = x4 by omega]; first | (rw [if_pos (by omega)]; omega) | (rw [if_neg (by omega)]; omega)), hW, (lv_sub hl [0, 1, 2, 3, 4] rfl)⟩
              · intro J8
                refine lv_iload_n hx hb dX11_go_216 rfl (lv_at hl 1 rfl) ?_
                refine z_if_eq (tgt := 233) hx hb dX11_go_217 (by decide) ⟨by omega, by omega⟩ (fun c217 => ?_) (fun c217 => ?_)
                · refine z_iconst (n := 0) hx hb dX11_go_233 ?_
                  refine lv_istore_n (lv' := [(3, .int (iI 0)), (4, .int (iI ((a 1) x4))), (2, .int (iI s2)), (1, .int (iI ((a 1) p4))), (0, .ref h)]) hx hb dX11_go_234 rfl hl (by decide) rfl (fun ls hl => ?_)
                  exact J8 0 _ _ _ ⟨(by omega), hW, (lv_sub hl [1, 0, 2, 3, 4] rfl)⟩
                · refine lv_iload hx hb dX11_go_220 (lv_at hl 0 rfl) ?_
                  refine z_callS (As := [.int (iI ((a 1) x4))]) (rest := []) F (c_isLetter ((a 1) x4)  (show -2147483648 ≤ ((a 1) x4) ∧ ((a 1) x4) < 2147483648 by omega)) gX11_go_X11_isLetter rfl ziX11_isLetter ⟨rfl, rfl, by decide, by decide⟩ rfl hl.1 rfl (Nat.le_of_ble_eq_true rfl) dX11_go_222 ⟨Nat.zero_le _, Nat.zero_le _⟩ hW hA [] rfl (by decide) (fun _ => rfl) (fun _ => mW cI cJ h q (uV (uV (uV (uV v 5 p4) 4 x4) 7 n7) 10 w10) a) (fun _ => rfl) (fun _ => [.int (iI (bI (97 ≤ ((a 1) x4) ∧ ((a 1) x4) ≤ 122)))]) (fun _ => rfl) (fun _ H locs hp222 hW => ?_)
                  refine lv_iload_n hx hb dX11_go_225 rfl (lv_at hl 2 rfl) ?_
                  refine z_icmp_ne (tgt := 233) hx hb dX11_go_226 (by decide) bI_R ⟨by omega, by omega⟩ (fun c226 => ?_) (fun c226 => ?_)
                  · refine z_iconst (n := 0) hx hb dX11_go_233 ?_
                    refine lv_istore_n (lv' := [(3, .int (iI 0)), (4, .int (iI ((a 1) x4))), (2, .int (iI s2)), (1, .int (iI ((a 1) p4))), (0, .ref h)]) hx hb dX11_go_234 rfl hl (by decide) rfl (fun ls hl => ?_)
                    exact J8 0 _ _ _ ⟨(by omega), hW, (lv_sub hl [1, 0, 2, 3, 4] rfl)⟩
                  · refine z_iconst (n := 1) hx hb dX11_go_229 ?_
                    refine lv_goto (tgt := 234) hx hb dX11_go_230 (by decide) ?_
                    refine lv_istore_n (lv' := [(3, .int (iI 1)), (4, .int (iI ((a 1) x4))), (2, .int (iI s2)), (1, .int (iI ((a 1) p4))), (0, .ref h)]) hx hb dX11_go_234 rfl hl (by decide) rfl (fun ls hl => ?_)
                    exact J8 1 _ _ _ ⟨(by omega), hW, (lv_sub hl [1, 0, 2, 3, 4] rfl)⟩
            · intro J9
              refine lv_aload_n hx hb dX11_go_178 rfl (lv_at hl 3 rfl) ?_
              refine z_get (v := .int (iI x4)) hx hb hts hiX11_go_X11 hown hW 0 4 1 rfl rfl rfl (by decide) rfl dX11_go_179 ?_
              refine z_callV (As := [.int (iI x4)]) (rest := []) F (c_tapeAt h q (uV (uV (uV (uV v 5 p4) 4 x4) 7 n7) 10 w10) a x4  (show 0 ≤ x4 ∧ x4 ≤ 640 by omega) (show 0 ≤ (v 3) ∧ (v 3) ≤ 640 by omega)) gX11_go_X11_tapeAt rfl ziX11_tapeAt ⟨rfl, rfl, by decide, by decide⟩ rfl hl.1 rfl (Nat.le_of_ble_eq_true rfl) dX11_go_182 ⟨Nat.zero_le _, Nat.zero_le _⟩ hW hA [0, 1, 2, 3, 4, 5, 6, 7, 8, 9, 10] rfl (by decide) (fun _ => rfl) (fun _ => mW cI cJ h q (uV (uV (uV (uV v 5 p4) 4 x4) 7 n7) 10 w10) a) (fun _ => rfl) (fun _ => [.int (iI (if x4 < (v 3) then (a 1) x4 else 0))]) (fun _ => rfl) 0 rfl rfl rfl (fun _ H locs hp182 hW => ?_)
              refine z_callS (As := [.int (iI (if x4 < (v 3) then (a 1) x4 else 0))]) (rest := []) F (c_isLetter (if x4 < (v 3) then (a 1) x4 else 0)  (show -2147483648 ≤ (if x4 < (v 3) then (a 1) x4 else 0) ∧ (if x4 < (v 3) then (a 1) x4 else 0) < 2147483648 by omega)) gX11_go_X11_isLetter rfl ziX11_isLetter ⟨rfl, rfl, by decide, by decide⟩ rfl hl.1 rfl (Nat.le_of_ble_eq_true rfl) dX11_go_185 ⟨Nat.zero_le _, Nat.zero_le _⟩ hW hA [] rfl (by decide) (fun _ => rfl) (fun _ => mW cI cJ h q (uV (uV (uV (uV v 5 p4) 4 x4) 7 n7) 10 w10) a) (fun _ => rfl) (fun _ => [.int (iI (bI (97 ≤ (if x4 < (v 3) then (a 1) x4 else 0) ∧ (if x4 < (v 3) then (a 1) x4 else 0) ≤ 122)))]) (fun _ => rfl) (fun _ H locs hp185 hW => ?_)
              refine z_b_ne (tgt := 205) hx hb dX11_go_188 (by decide) (fun c188 => ?_) (fun c188 => ?_)
              · exact J9  _ _ _ ⟨(by omega), hW, (lv_sub hl [0, 1, 2, 3] rfl)⟩
              · refine lv_aload_n hx hb dX11_go_191 rfl (lv_at hl 3 rfl) ?_
                refine lv_aload_n hx hb dX11_go_192 rfl (lv_at hl 3 rfl) ?_
                refine z_get (v := .int (iI x4)) hx hb hts hiX11_go_X11 hown hW 0 4 1 rfl rfl rfl (by decide) rfl dX11_go_193 ?_
                refine z_callV (As := [.int (iI x4)]) (rest := []) F (c_tapeAt h q (uV (uV (uV (uV v 5 p4) 4 x4) 7 n7) 10 w10) a x4  (show 0 ≤ x4 ∧ x4 ≤ 640 by omega) (show 0 ≤ (v 3) ∧ (v 3) ≤ 640 by omega)) gX11_go_X11_tapeAt rfl ziX11_tapeAt ⟨rfl, rfl, by decide, by decide⟩ rfl hl.1 rfl (Nat.le_of_ble_eq_true rfl) dX11_go_196 ⟨Nat.zero_le _, Nat.zero_le _⟩ hW hA [0, 1, 2, 3, 4, 5, 6, 7, 8, 9, 10] rfl (by decide) (fun _ => rfl) (fun _ => mW cI cJ h q (uV (uV (uV (uV v 5 p4) 4 x4) 7 n7) 10 w10) a) (fun _ => rfl) (fun _ => [.int (iI (if x4 < (v 3) then (a 1) x4 else 0))]) (fun _ => rfl) 0 rfl rfl rfl (fun _ H locs hp196 hW => ?_)
                refine z_callS (As := [.int (iI (if x4 < (v 3) then (a 1) x4 else 0))]) (rest := []) F (c_isDigit (if x4 < (v 3) then (a 1) x4 else 0)  (show -2147483648 ≤ (if x4 < (v 3) then (a 1) x4 else 0) ∧ (if x4 < (v 3) then (a 1) x4 else 0) < 2147483648 by omega)) gX11_go_X11_isDigit rfl ziX11_isDigit ⟨rfl, rfl, by decide, by decide⟩ rfl hl.1 rfl (Nat.le_of_ble_eq_true rfl) dX11_go_199 ⟨Nat.zero_le _, Nat.zero_le _⟩ hW hA [] rfl (by decide) (fun _ => rfl) (fun _ => mW cI cJ h q (uV (uV (uV (uV v 5 p4) 4 x4) 7 n7) 10 w10) a) (fun _ => rfl) (fun _ => [.int (iI (bI (48 ≤ (if x4 < (v 3) then (a 1) x4 else 0) ∧ (if x4 < (v 3) then (a 1) x4 else 0) ≤ 57)))]) (fun _ => rfl) (fun _ H locs hp199 hW => ?_)
                refine z_b_eq (tgt := 312) hx hb dX11_go_202 (by decide) (fun c202 => ?_) (fun c202 => ?_)
                · refine lv_aload_n hx hb dX11_go_312 rfl (lv_at hl 3 rfl) ?_
                  refine lv_iload_n hx hb dX11_go_313 rfl (lv_at hl 0 rfl) ?_
                  refine z_if_eq (tgt := 334) hx hb dX11_go_314 (by decide) ⟨by omega, by omega⟩ (fun c314 => ?_) (fun c314 => ?_)
                  · refine z_iconst (n := 1) hx hb dX11_go_334 ?_
                    refine lv_goto (tgt := 347) hx hb dX11_go_335 (by decide) ?_
                    refine z_put hx hb hts hiX11_go_X11 tyX11 tyX11_ok nmX11 hown hW 0 6 5 rfl rfl (by decide) (Nat.le_of_ble_eq_true rfl) rfl rfl rfl rfl dX11_go_347 (fun H locs hW => ?_)
                    have hW : zW G (tyZ cI cJ cO) A s (mW cI cJ h q (uV (uV (uV (uV (uV v 5 p4) 4 x4) 7 n7) 10 w10) 6 1) a) H locs := hW
                    exact z_vret hx hb hr hlk hW (⟨x4, p4, 1, n7, w10⟩) (show _ = _ ∧ _ = _ ∧ _ = _ ∧ (_ → _) ∧ (_ → _) from ⟨by unfold tkB; rw [d2, if_neg (by omega), if_pos (show (97 ≤ a 1 p4 ∧ a 1 p4 ≤ 122) ∨ (48 ≤ a 1 p4 ∧ a 1 p4 ≤ 57) from k0), ← j2]; exact (BHD_end (show ¬ (x4 < v 3 ∧ ((97 ≤ a 1 x4 ∧ a 1 x4 ≤ 122) ∨ (48 ≤ a 1 x4 ∧ a 1 x4 ≤ 57))) by omega)).symm, by unfold tkP; rw [d2, if_neg (by omega)], by unfold tkS SRT; rw [d2, if_neg (by omega), if_neg (by omega), if_pos (show (97 ≤ a 1 p4 ∧ a 1 p4 ≤ 122) ∨ (48 ≤ a 1 p4 ∧ a 1 p4 ≤ 57) from k0), ← j2, BHD_end (show ¬ (x4 < v 3 ∧ ((97 ≤ a 1 x4 ∧ a 1 x4 ≤ 122) ∨ (48 ≤ a 1 x4 ∧ a 1 x4 ≤ 57))) by omega)]; first | (rw [if_pos (by omega)]; done) | (rw [if_neg (by omega), if_pos (by omega)]; done) | (rw [if_neg (by omega), if_neg (by omega)]; done), fun q => absurd (show (1 : Int) = 2 from q) (by omega), fun q => absurd (show (1 : Int) = 3 from q) (by omega)⟩) rfl dX11_go_350
                  · refine lv_iload_n hx hb dX11_go_317 rfl (lv_at hl 1 rfl) ?_
                    refine z_if_ne (tgt := 338) hx hb dX11_go_318 (by decide) ⟨by omega, by omega⟩ (fun c318 => ?_) (fun c318 => ?_)
                    · refine lv_iload_n hx hb dX11_go_338 rfl (lv_at hl 1 rfl) ?_
                      refine z_if_eq (tgt := 346) hx hb dX11_go_339 (by decide) ⟨by omega, by omega⟩ (fun c339 => ?_) (fun c339 => ?_)
                      · refine z_iconst (n := 3) hx hb dX11_go_346 ?_
                        refine z_put hx hb hts hiX11_go_X11 tyX11 tyX11_ok nmX11 hown hW 0 6 5 rfl rfl (by decide) (Nat.le_of_ble_eq_true rfl) rfl rfl rfl rfl dX11_go_347 (fun H locs hW => ?_)
                        have hW : zW G (tyZ cI cJ cO) A s (mW cI cJ h q (uV (uV (uV (uV (uV v 5 p4) 4 x4) 7 n7) 10 w10) 6 3) a) H locs := hW
                        exact z_vret hx hb hr hlk hW (⟨x4, p4, 3, n7, w10⟩) (show _ = _ ∧ _ = _ ∧ _ = _ ∧ (_ → _) ∧ (_ → _) from ⟨by unfold tkB; rw [d2, if_neg (by omega), if_pos (show (97 ≤ a 1 p4 ∧ a 1 p4 ≤ 122) ∨ (48 ≤ a 1 p4 ∧ a 1 p4 ≤ 57) from k0), ← j2]; exact (BHD_end (show ¬ (x4 < v 3 ∧ ((97 ≤ a 1 x4 ∧ a 1 x4 ≤ 122) ∨ (48 ≤ a 1 x4 ∧ a 1 x4 ≤ 57))) by omega)).symm, by unfold tkP; rw [d2, if_neg (by omega)], by unfold tkS SRT; rw [d2, if_neg (by omega), if_neg (by omega), if_pos (show (97 ≤ a 1 p4 ∧ a 1 p4 ≤ 122) ∨ (48 ≤ a 1 p4 ∧ a 1 p4 ≤ 57) from k0), ← j2, BHD_end (show ¬ (x4 < v 3 ∧ ((97 ≤ a 1 x4 ∧ a 1 x4 ≤ 122) ∨ (48 ≤ a 1 x4 ∧ a 1 x4 ≤ 57))) by omega)]; first | (rw [if_pos (by omega)]; done) | (rw [if_neg (by omega), if_pos (by omega)]; done) | (rw [if_neg (by omega), if_neg (by omega)]; done), fun q => absurd (show (3 : Int) = 2 from q) (by omega), fun _ => by unfold tkN; rw [d2, ← j2, BHD_end (show ¬ (x4 < v 3 ∧ ((97 ≤ a 1 x4 ∧ a 1 x4 ≤ 122) ∨ (48 ≤ a 1 x4 ∧ a 1 x4 ≤ 57))) by omega)]; exact j4⟩) rfl dX11_go_350
                      · refine z_iconst (n := 2) hx hb dX11_go_342 ?_
                        refine lv_goto (tgt := 347) hx hb dX11_go_343 (by decide) ?_
                        refine z_put hx hb hts hiX11_go_X11 tyX11 tyX11_ok nmX11 hown hW 0 6 5 rfl rfl (by decide) (Nat.le_of_ble_eq_true rfl) rfl rfl rfl rfl dX11_go_347 (fun H locs hW => ?_)
                        have hW : zW G (tyZ cI cJ cO) A s (mW cI cJ h q (uV (uV (uV (uV (uV v 5 p4) 4 x4) 7 n7) 10 w10) 6 2) a) H locs := hW
                        exact z_vret hx hb hr hlk hW (⟨x4, p4, 2, n7, w10⟩) (show _ = _ ∧ _ = _ ∧ _ = _ ∧ (_ → _) ∧ (_ → _) from ⟨by unfold tkB; rw [d2, if_neg (by omega), if_pos (show (97 ≤ a 1 p4 ∧ a 1 p4 ≤ 122) ∨ (48 ≤ a 1 p4 ∧ a 1 p4 ≤ 57) from k0), ← j2]; exact (BHD_end (show ¬ (x4 < v 3 ∧ ((97 ≤ a 1 x4 ∧ a 1 x4 ≤ 122) ∨ (48 ≤ a 1 x4 ∧ a 1 x4 ≤ 57))) by omega)).symm, by unfold tkP; rw [d2, if_neg (by omega)], by unfold tkS SRT; rw [d2, if_neg (by omega), if_neg (by omega), if_pos (show (97 ≤ a 1 p4 ∧ a 1 p4 ≤ 122) ∨ (48 ≤ a 1 p4 ∧ a 1 p4 ≤ 57) from k0), ← j2, BHD_end (show ¬ (x4 < v 3 ∧ ((97 ≤ a 1 x4 ∧ a 1 x4 ≤ 122) ∨ (48 ≤ a 1 x4 ∧ a 1 x4 ≤ 57))) by omega)]; first | (rw [if_pos (by omega)]; done) | (rw [if_neg (by omega), if_pos (by omega)]; done) | (rw [if_neg (by omega), if_neg (by omega)]; done), fun _ => by unfold tkW; rw [d2, ← j2, BHD_end (show ¬ (x4 < v 3 ∧ ((97 ≤ a 1 x4 ∧ a 1 x4 ≤ 122) ∨ (48 ≤ a 1 x4 ∧ a 1 x4 ≤ 57))) by omega)]; exact j5, fun q => absurd (show (2 : Int) = 3 from q) (by omega)⟩) rfl dX11_go_350
                    · refine lv_aload_n hx hb dX11_go_321 rfl (lv_at hl 3 rfl) ?_
                      refine z_get (v := .int (iI x4)) hx hb hts hiX11_go_X11 hown hW 0 4 1 rfl rfl rfl (by decide) rfl dX11_go_322 ?_
                      refine lv_aload_n hx hb dX11_go_325 rfl (lv_at hl 3 rfl) ?_
                      refine z_get (v := .int (iI p4)) hx hb hts hiX11_go_X11 hown hW 0 5 4 rfl rfl rfl (by decide) rfl dX11_go_326 ?_
                      refine z_isub hx hb dX11_go_329 ?_
                      refine z_iconst (n := 5) hx hb dX11_go_330 ?_
                      refine z_icmp_le (tgt := 338) hx hb dX11_go_331 (by decide) ⟨by omega, by omega⟩ (by decide) (fun c331 => ?_) (fun c331 => ?_)
                      · refine lv_iload_n hx hb dX11_go_338 rfl (lv_at hl 1 rfl) ?_
                        refine z_if_eq (tgt := 346) hx hb dX11_go_339 (by decide) ⟨by omega, by omega⟩ (fun c339 => ?_) (fun c339 => ?_)
                        · refine z_iconst (n := 3) hx hb dX11_go_346 ?_
                          refine z_put hx hb hts hiX11_go_X11 tyX11 tyX11_ok nmX11 hown hW 0 6 5 rfl rfl (by decide) (Nat.le_of_ble_eq_true rfl) rfl rfl rfl rfl dX11_go_347 (fun H locs hW => ?_)
                          have hW : zW G (tyZ cI cJ cO) A s (mW cI cJ h q (uV (uV (uV (uV (uV v 5 p4) 4 x4) 7 n7) 10 w10) 6 3) a) H locs := hW
                          exact z_vret hx hb hr hlk hW (⟨x4, p4, 3, n7, w10⟩) (show _ = _ ∧ _ = _ ∧ _ = _ ∧ (_ → _) ∧ (_ → _) from ⟨by unfold tkB; rw [d2, if_neg (by omega), if_pos (show (97 ≤ a 1 p4 ∧ a 1 p4 ≤ 122) ∨ (48 ≤ a 1 p4 ∧ a 1 p4 ≤ 57) from k0), ← j2]; exact (BHD_end (show ¬ (x4 < v 3 ∧ ((97 ≤ a 1 x4 ∧ a 1 x4 ≤ 122) ∨ (48 ≤ a 1 x4 ∧ a 1 x4 ≤ 57))) by omega)).symm, by unfold tkP; rw [d2, if_neg (by omega)], by unfold tkS SRT; rw [d2, if_neg (by omega), if_neg (by omega), if_pos (show (97 ≤ a 1 p4 ∧ a 1 p4 ≤ 122) ∨ (48 ≤ a 1 p4 ∧ a 1 p4 ≤ 57) from k0), ← j2, BHD_end (show ¬ (x4 < v 3 ∧ ((97 ≤ a 1 x4 ∧ a 1 x4 ≤ 122) ∨ (48 ≤ a 1 x4 ∧ a 1 x4 ≤ 57))) by omega)]; first | (rw [if_pos (by omega)]; done) | (rw [if_neg (by omega), if_pos (by omega)]; done) | (rw [if_neg (by omega), if_neg (by omega)]; done), fun q => absurd (show (3 : Int) = 2 from q) (by omega), fun _ => by unfold tkN; rw [d2, ← j2, BHD_end (show ¬ (x4 < v 3 ∧ ((97 ≤ a 1 x4 ∧ a 1 x4 ≤ 122) ∨ (48 ≤ a 1 x4 ∧ a 1 x4 ≤ 57))) by omega)]; exact j4⟩) rfl dX11_go_350
                        · refine z_iconst (n := 2) hx hb dX11_go_342 ?_
                          refine lv_goto (tgt := 347) hx hb dX11_go_343 (by decide) ?_
                          refine z_put hx hb hts hiX11_go_X11 tyX11 tyX11_ok nmX11 hown hW 0 6 5 rfl rfl (by decide) (Nat.le_of_ble_eq_true rfl) rfl rfl rfl rfl dX11_go_347 (fun H locs hW => ?_)
                          have hW : zW G (tyZ cI cJ cO) A s (mW cI cJ h q (uV (uV (uV (uV (uV v 5 p4) 4 x4) 7 n7) 10 w10) 6 2) a) H locs := hW
                          exact z_vret hx hb hr hlk hW (⟨x4, p4, 2, n7, w10⟩) (show _ = _ ∧ _ = _ ∧ _ = _ ∧ (_ → _) ∧ (_ → _) from ⟨by unfold tkB; rw [d2, if_neg (by omega), if_pos (show (97 ≤ a 1 p4 ∧ a 1 p4 ≤ 122) ∨ (48 ≤ a 1 p4 ∧ a 1 p4 ≤ 57) from k0), ← j2]; exact (BHD_end (show ¬ (x4 < v 3 ∧ ((97 ≤ a 1 x4 ∧ a 1 x4 ≤ 122) ∨ (48 ≤ a 1 x4 ∧ a 1 x4 ≤ 57))) by omega)).symm, by unfold tkP; rw [d2, if_neg (by omega)], by unfold tkS SRT; rw [d2, if_neg (by omega), if_neg (by omega), if_pos (show (97 ≤ a 1 p4 ∧ a 1 p4 ≤ 122) ∨ (48 ≤ a 1 p4 ∧ a 1 p4 ≤ 57) from k0), ← j2, BHD_end (show ¬ (x4 < v 3 ∧ ((97 ≤ a 1 x4 ∧ a 1 x4 ≤ 122) ∨ (48 ≤ a 1 x4 ∧ a 1 x4 ≤ 57))) by omega)]; first | (rw [if_pos (by omega)]; done) | (rw [if_neg (by omega), if_pos (by omega)]; done) | (rw [if_neg (by omega), if_neg (by omega)]; done), fun _ => by unfold tkW; rw [d2, ← j2, BHD_end (show ¬ (x4 < v 3 ∧ ((97 ≤ a 1 x4 ∧ a 1 x4 ≤ 122) ∨ (48 ≤ a 1 x4 ∧ a 1 x4 ≤ 57))) by omega)]; exact j5, fun q => absurd (show (2 : Int) = 3 from q) (by omega)⟩) rfl dX11_go_350
                      · refine z_iconst (n := 1) hx hb dX11_go_334 ?_
                        refine lv_goto (tgt := 347) hx hb dX11_go_335 (by decide) ?_
                        refine z_put hx hb hts hiX11_go_X11 tyX11 tyX11_ok nmX11 hown hW 0 6 5 rfl rfl (by decide) (Nat.le_of_ble_eq_true rfl) rfl rfl rfl rfl dX11_go_347 (fun H locs hW => ?_)
                        have hW : zW G (tyZ cI cJ cO) A s (mW cI cJ h q (uV (uV (uV (uV (uV v 5 p4) 4 x4) 7 n7) 10 w10) 6 1) a) H locs := hW
                        exact z_vret hx hb hr hlk hW (⟨x4, p4, 1, n7, w10⟩) (show _ = _ ∧ _ = _ ∧ _ = _ ∧ (_ → _) ∧ (_ → _) from ⟨by unfold tkB; rw [d2, if_neg (by omega), if_pos (show (97 ≤ a 1 p4 ∧ a 1 p4 ≤ 122) ∨ (48 ≤ a 1 p4 ∧ a 1 p4 ≤ 57) from k0), ← j2]; exact (BHD_end (show ¬ (x4 < v 3 ∧ ((97 ≤ a 1 x4 ∧ a 1 x4 ≤ 122) ∨ (48 ≤ a 1 x4 ∧ a 1 x4 ≤ 57))) by omega)).symm, by unfold tkP; rw [d2, if_neg (by omega)], by unfold tkS SRT; rw [d2, if_neg (by omega), if_neg (by omega), if_pos (show (97 ≤ a 1 p4 ∧ a 1 p4 ≤ 122) ∨ (48 ≤ a 1 p4 ∧ a 1 p4 ≤ 57) from k0), ← j2, BHD_end (show ¬ (x4 < v 3 ∧ ((97 ≤ a 1 x4 ∧ a 1 x4 ≤ 122) ∨ (48 ≤ a 1 x4 ∧ a 1 x4 ≤ 57))) by omega)]; first | (rw [if_pos (by omega)]; done) | (rw [if_neg (by omega), if_pos (by omega)]; done) | (rw [if_neg (by omega), if_neg (by omega)]; done), fun q => absurd (show (1 : Int) = 2 from q) (by omega), fun q => absurd (show (1 : Int) = 3 from q) (by omega)⟩) rfl dX11_go_350
                · exact J9  _ _ _ ⟨(by omega), hW, (lv_sub hl [0, 1, 2, 3] rfl)⟩
          · intro J10
            refine lv_iload_n hx hb dX11_go_120 rfl (lv_at hl 0 rfl) ?_
            refine z_callS (As := [.int (iI ((a 1) p4))]) (rest := []) F (c_isLetter ((a 1) p4)  (show -2147483648 ≤ ((a 1) p4) ∧ ((a 1) p4) < 2147483648 by omega)) gX11_go_X11_isLetter rfl ziX11_isLetter ⟨rfl, rfl, by decide, by decide⟩ rfl hl.1 rfl (Nat.le_of_ble_eq_true rfl) dX11_go_121 ⟨Nat.zero_le _, Nat.zero_le _⟩ hW hA [] rfl (by decide) (fun _ => rfl) (fun _ => mW cI cJ h q (uV (uV v 4 p4) 5 p4) a) (fun _ => rfl) (fun _ => [.int (iI (bI (97 ≤ ((a 1) p4) ∧ ((a 1) p4) ≤ 122)))]) (fun _ => rfl) (fun _ H locs hp121 hW => ?_)
            refine z_b_ne (tgt := 160) hx hb dX11_go_124 (by decide) (fun c124 => ?_) (fun c124 => ?_)
            · exact J10  _ _ _ ⟨(by omega), hW, (lv_sub hl [0, 1] rfl)⟩
            · refine lv_iload_n hx hb dX11_go_127 rfl (lv_at hl 0 rfl) ?_
              refine z_callS (As := [.int (iI ((a 1) p4))]) (rest := []) F (c_isDigit ((a 1) p4)  (show -2147483648 ≤ ((a 1) p4) ∧ ((a 1) p4) < 2147483648 by omega)) gX11_go_X11_isDigit rfl ziX11_isDigit ⟨rfl, rfl, by decide, by decide⟩ rfl hl.1 rfl (Nat.le_of_ble_eq_true rfl) dX11_go_128 ⟨Nat.zero_le _, Nat.zero_le _⟩ hW hA [] rfl (by decide) (fun _ => rfl) (fun _ => mW cI cJ h q (uV (uV v 4 p4) 5 p4) a) (fun _ => rfl) (fun _ => [.int (iI (bI (48 ≤ ((a 1) p4) ∧ ((a 1) p4) ≤ 57)))]) (fun _ => rfl) (fun _ H locs hp128 hW => ?_)
              refine z_b_ne (tgt := 160) hx hb dX11_go_131 (by decide) (fun c131 => ?_) (fun c131 => ?_)
              · exact J10  _ _ _ ⟨(by omega), hW, (lv_sub hl [0, 1] rfl)⟩
              · refine lv_aload_n hx hb dX11_go_134 rfl (lv_at hl 1 rfl) ?_
                refine lv_iload_n hx hb dX11_go_135 rfl (lv_at hl 0 rfl) ?_
                refine z_bipush hx hb dX11_go_136 (by decide +kernel) ?_
                refine z_icmp_ne (tgt := 145) hx hb dX11_go_138 (by decide) ⟨by omega, by omega⟩ (by decide) (fun c138 => ?_) (fun c138 => ?_)
                · refine z_iconst (n := 1) hx hb dX11_go_145 ?_
                  refine z_put hx hb hts hiX11_go_X11 tyX11 tyX11_ok nmX11 hown hW 0 6 5 rfl rfl (by decide) (Nat.le_of_ble_eq_true rfl) rfl rfl rfl rfl dX11_go_146 (fun H locs hW => ?_)
                  have hW : zW G (tyZ cI cJ cO) A s (mW cI cJ h q (uV (uV (uV v 4 p4) 5 p4) 6 1) a) H locs := hW
                  refine lv_aload_n hx hb dX11_go_149 rfl (lv_at hl 1 rfl) ?_
                  refine lv_dup hx hb dX11_go_150 rfl ?_
                  refine z_get (v := .int (iI p4)) hx hb hts hiX11_go_X11 hown hW 0 4 1 rfl rfl rfl (by decide) rfl dX11_go_151 ?_
                  refine z_iconst (n := 1) hx hb dX11_go_154 ?_
                  refine z_iadd hx hb dX11_go_155 ?_
                  refine z_put hx hb hts hiX11_go_X11 tyX11 tyX11_ok nmX11 hown hW 0 4 1 rfl rfl (by decide) (Nat.le_of_ble_eq_true rfl) rfl rfl rfl rfl dX11_go_156 (fun H locs hW => ?_)
                  have hW : zW G (tyZ cI cJ cO) A s (mW cI cJ h q (uV (uV (uV v 5 p4) 6 1) 4 (p4 + 1)) a) H locs := hW
                  exact z_vret hx hb hr hlk hW (⟨p4 + 1, p4, 1, v 7, v 10⟩) (show _ = _ ∧ _ = _ ∧ _ = _ ∧ (_ → _) ∧ (_ → _) from ⟨by unfold tkB; rw [d2, if_neg (by omega), if_neg (show ¬ ((97 ≤ a 1 p4 ∧ a 1 p4 ≤ 122) ∨ (48 ≤ a 1 p4 ∧ a 1 p4 ≤ 57)) by omega)], by unfold tkP; rw [d2, if_neg (by omega)], by unfold tkS; rw [d2, if_neg (by omega), if_neg (by omega), if_neg (show ¬ ((97 ≤ a 1 p4 ∧ a 1 p4 ≤ 122) ∨ (48 ≤ a 1 p4 ∧ a 1 p4 ≤ 57)) by omega)]; first | rw [if_pos (by omega)] | rw [if_neg (by omega)], fun q => absurd (show 1 = (2 : Int) from q) (by omega), fun q => absurd (show 1 = (3 : Int) from q) (by omega)⟩) rfl dX11_go_159
                · refine z_iconst (n := 4) hx hb dX11_go_141 ?_
                  refine lv_goto (tgt := 146) hx hb dX11_go_142 (by decide) ?_
                  refine z_put hx hb hts hiX11_go_X11 tyX11 tyX11_ok nmX11 hown hW 0 6 5 rfl rfl (by decide) (Nat.le_of_ble_eq_true rfl) rfl rfl rfl rfl dX11_go_146 (fun H locs hW => ?_)
                  have hW : zW G (tyZ cI cJ cO) A s (mW cI cJ h q (uV (uV (uV v 4 p4) 5 p4) 6 4) a) H locs := hW
                  refine lv_aload_n hx hb dX11_go_149 rfl (lv_at hl 1 rfl) ?_
                  refine lv_dup hx hb dX11_go_150 rfl ?_
                  refine z_get (v := .int (iI p4)) hx hb hts hiX11_go_X11 hown hW 0 4 1 rfl rfl rfl (by decide) rfl dX11_go_151 ?_
                  refine z_iconst (n := 1) hx hb dX11_go_154 ?_
                  refine z_iadd hx hb dX11_go_155 ?_
                  refine z_put hx hb hts hiX11_go_X11 tyX11 tyX11_ok nmX11 hown hW 0 4 1 rfl rfl (by decide) (Nat.le_of_ble_eq_true rfl) rfl rfl rfl rfl dX11_go_156 (fun H locs hW => ?_)
                  have hW : zW G (tyZ cI cJ cO) A s (mW cI cJ h q (uV (uV (uV v 5 p4) 6 4) 4 (p4 + 1)) a) H locs := hW
                  exact z_vret hx hb hr hlk hW (⟨p4 + 1, p4, 4, v 7, v 10⟩) (show _ = _ ∧ _ = _ ∧ _ = _ ∧ (_ → _) ∧ (_ → _) from ⟨by unfold tkB; rw [d2, if_neg (by omega), if_neg (show ¬ ((97 ≤ a 1 p4 ∧ a 1 p4 ≤ 122) ∨ (48 ≤ a 1 p4 ∧ a 1 p4 ≤ 57)) by omega)], by unfold tkP; rw [d2, if_neg (by omega)], by unfold tkS; rw [d2, if_neg (by omega), if_neg (by omega), if_neg (show ¬ ((97 ≤ a 1 p4 ∧ a 1 p4 ≤ 122) ∨ (48 ≤ a 1 p4 ∧ a 1 p4 ≤ 57)) by omega)]; first | rw [if_pos (by omega)] | rw [if_neg (by omega)], fun q => absurd (show 4 = (2 : Int) from q) (by omega), fun q => absurd (show 4 = (3 : Int) from q) (by omega)⟩) rfl dX11_go_159
        · refine lv_aload_n hx hb dX11_go_104 rfl (lv_at hl 0 rfl) ?_
          refine z_iconst (n := 0) hx hb dX11_go_105 ?_
          refine z_put hx hb hts hiX11_go_X11 tyX11 tyX11_ok nmX11 hown hW 0 6 5 rfl rfl (by decide) (Nat.le_of_ble_eq_true rfl) rfl rfl rfl rfl dX11_go_106 (fun H locs hW => ?_)
          have hW : zW G (tyZ cI cJ cO) A s (mW cI cJ h q (uV (uV (uV v 4 p4) 5 p4) 6 0) a) H locs := hW
          exact z_vret hx hb hr hlk hW (⟨p4, p4, 0, v 7, v 10⟩) (show _ = _ ∧ _ = _ ∧ _ = _ ∧ (_ → _) ∧ (_ → _) from ⟨by unfold tkB; rw [d2, if_pos (by omega)], by unfold tkP; rw [d2, if_neg (by omega)], by unfold tkS; rw [d2, if_neg (by omega), if_pos (by omega)], fun q => absurd (show (0 : Int) = 2 from q) (by decide), fun q => absurd (show (0 : Int) = 3 from q) (by decide)⟩) rfl dX11_go_109
      · refine lv_aload_n hx hb dX11_go_80 rfl (lv_at hl 0 rfl) ?_
        refine z_sipush hx hb dX11_go_81 (by decide +kernel) ?_
        refine z_put hx hb hts hiX11_go_X11 tyX11 tyX11_ok nmX11 hown hW 0 5 4 rfl rfl (by decide) (Nat.le_of_ble_eq_true rfl) rfl rfl rfl rfl dX11_go_84 (fun H locs hW => ?_)
        have hW : zW G (tyZ cI cJ cO) A s (mW cI cJ h q (uV (uV v 4 p4) 5 600) a) H locs := hW
        refine lv_aload_n hx hb dX11_go_87 rfl (lv_at hl 0 rfl) ?_
        refine z_iconst (n := 1) hx hb dX11_go_88 ?_
        refine z_put hx hb hts hiX11_go_X11 tyX11 tyX11_ok nmX11 hown hW 0 6 5 rfl rfl (by decide) (Nat.le_of_ble_eq_true rfl) rfl rfl rfl rfl dX11_go_89 (fun H locs hW => ?_)
        have hW : zW G (tyZ cI cJ cO) A s (mW cI cJ h q (uV (uV (uV v 4 p4) 5 600) 6 1) a) H locs := hW
        exact z_vret hx hb hr hlk hW (⟨p4, 600, 1, v 7, v 10⟩) (show _ = _ ∧ _ = _ ∧ _ = _ ∧ (_ → _) ∧ (_ → _) from ⟨by unfold tkB; rw [d2, if_pos (by omega)], by unfold tkP; rw [d2, if_pos (by omega)], by unfold tkS; rw [d2, if_pos (by omega)], fun q => absurd (show (1 : Int) = 2 from q) (by decide), fun q => absurd (show (1 : Int) = 3 from q) (by decide)⟩) rfl dX11_go_92
  · intro J11
    refine z_loop1 (fun (x4 : Int) (ls : Array Slot) (H : Heap) (locs : List Loc) => (v 4 ≤ x4 ∧ x4 ≤ v 3) ∧ (SK (a 1) (v 3) x4 = SK (a 1) (v 3) (v 4)) ∧ zW G (tyZ cI cJ cO) A s (mW cI cJ h q (uV v 4 x4) a) H locs ∧ lv_has ls 5 [(0, .ref h)]) (fun x4 => (v 3 - x4).toNat) ?_ (v 4) _ _ _ ⟨(by omega), rfl, hW, (lv_sub hl [0] rfl)⟩
    intro x4 ls H locs hI ih
    obtain ⟨i1, i2, hW, hl⟩ := hI
    refine lv_aload_n hx hb dX11_go_0 rfl (lv_at hl 0 rfl) ?_
    refine z_get (v := .int (iI x4)) hx hb hts hiX11_go_X11 hown hW 0 4 1 rfl rfl rfl (by decide) rfl dX11_go_1 ?_
    refine lv_aload_n hx hb dX11_go_4 rfl (lv_at hl 0 rfl) ?_
    refine z_get (v := .int (iI (v 3))) hx hb hts hiX11_go_X11 hown hW 0 3 2 rfl rfl rfl (by decide) rfl dX11_go_5 ?_
    refine z_icmp_ge (tgt := 52) hx hb dX11_go_8 (by decide) ⟨by omega, by omega⟩ ⟨by omega, by omega⟩ (fun c8 => ?_) (fun c8 => ?_)
    · exact J11 x4 _ _ _ ⟨i1, (by rw [← i2]; exact SK_end (by omega)), hW, (lv_sub hl [0] rfl)⟩
    · have hj := hT x4 (by omega) (by omega)
      refine lv_aload_n hx hb dX11_go_11 rfl (lv_at hl 0 rfl) ?_
      refine z_get (v := .ref (q 1)) hx hb hts hiX11_go_X11 hown hW 0 1 3 rfl rfl rfl (by decide) rfl dX11_go_12 ?_
      refine lv_aload_n hx hb dX11_go_15 rfl (lv_at hl 0 rfl) ?_
      refine z_get (v := .int (iI x4)) hx hb hts hiX11_go_X11 hown hW 0 4 1 rfl rfl rfl (by decide) rfl dX11_go_16 ?_
      refine z_iald (f := a 1) (i := x4) hx hb hW 1 0 rfl rfl (by decide) ⟨by omega, by omega⟩ dX11_go_19 ?_
      refine z_bipush hx hb dX11_go_20 (by decide +kernel) ?_
      refine z_icmp_eq (tgt := 39) hx hb dX11_go_22 (by decide) ⟨by omega, by omega⟩ (by decide) (fun c22 => ?_) (fun c22 => ?_)
      · refine lv_aload_n hx hb dX11_go_39 rfl (lv_at hl 0 rfl) ?_
        refine lv_dup hx hb dX11_go_40 rfl ?_
        refine z_get (v := .int (iI x4)) hx hb hts hiX11_go_X11 hown hW 0 4 1 rfl rfl rfl (by decide) rfl dX11_go_41 ?_
        refine z_iconst (n := 1) hx hb dX11_go_44 ?_
        refine z_iadd hx hb dX11_go_45 ?_
        refine z_put hx hb hts hiX11_go_X11 tyX11 tyX11_ok nmX11 hown hW 0 4 1 rfl rfl (by decide) (Nat.le_of_ble_eq_true rfl) rfl rfl rfl rfl dX11_go_46 (fun H locs hW => ?_)
        have hW : zW G (tyZ cI cJ cO) A s (mW cI cJ h q (uV v 4 (x4 + 1)) a) H locs := hW
        refine lv_goto (tgt := 0) hx hb dX11_go_49 (by decide) ?_
        exact ih (x4 + 1) _ _ _ ⟨(by omega), (by rw [← i2]; symm; exact SK_go ⟨by omega, by omega⟩), hW, (lv_sub hl [0] rfl)⟩ (by omega)
      · refine lv_aload_n hx hb dX11_go_25 rfl (lv_at hl 0 rfl) ?_
        refine z_get (v := .ref (q 1)) hx hb hts hiX11_go_X11 hown hW 0 1 3 rfl rfl rfl (by decide) rfl dX11_go_26 ?_
        refine lv_aload_n hx hb dX11_go_29 rfl (lv_at hl 0 rfl) ?_
        refine z_get (v := .int (iI x4)) hx hb hts hiX11_go_X11 hown hW 0 4 1 rfl rfl rfl (by decide) rfl dX11_go_30 ?_
        refine z_iald (f := a 1) (i := x4) hx hb hW 1 0 rfl rfl (by decide) ⟨by omega, by omega⟩ dX11_go_33 ?_
        refine z_bipush hx hb dX11_go_34 (by decide +kernel) ?_
        refine z_icmp_ne (tgt := 52) hx hb dX11_go_36 (by decide) ⟨by omega, by omega⟩ (by decide) (fun c36 => ?_) (fun c36 => ?_)
        · exact J11 x4 _ _ _ ⟨i1, (by rw [← i2]; exact SK_end (by omega)), hW, (lv_sub hl [0] rfl)⟩
        · refine lv_aload_n hx hb dX11_go_39 rfl (lv_at hl 0 rfl) ?_
          refine lv_dup hx hb dX11_go_40 rfl ?_
          refine z_get (v := .int (iI x4)) hx hb hts hiX11_go_X11 hown hW 0 4 1 rfl rfl rfl (by decide) rfl dX11_go_41 ?_
          refine z_iconst (n := 1) hx hb dX11_go_44 ?_
          refine z_iadd hx hb dX11_go_45 ?_
          refine z_put hx hb hts hiX11_go_X11 tyX11 tyX11_ok nmX11 hown hW 0 4 1 rfl rfl (by decide) (Nat.le_of_ble_eq_true rfl) rfl rfl rfl rfl dX11_go_46 (fun H locs hW => ?_)
          have hW : zW G (tyZ cI cJ cO) A s (mW cI cJ h q (uV v 4 (x4 + 1)) a) H locs := hW
          refine lv_goto (tgt := 0) hx hb dX11_go_49 (by decide) ?_
          exact ih (x4 + 1) _ _ _ ⟨(by omega), (by rw [← i2]; symm; exact SK_go ⟨by omega, by omega⟩), hW, (lv_sub hl [0] rfl)⟩ (by omega)
