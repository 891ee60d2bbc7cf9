/-! the model: the tape, spreads, acts -/
def FED (T : Int → Int) (t b1 b2 b3 b4 b5 : Int) : Int → Int := LAY (LAY (LAY (LAY (LAY T t b1) (t + 1 + 1 + 1 + 1) b2) (t + 1 + 1 + 1 + 1 + 1 + 1 + 1 + 1) b3) (t + 1 + 1 + 1 + 1 + 1 + 1 + 1 + 1 + 1 + 1 + 1 + 1) b4) (t + 1 + 1 + 1 + 1 + 1 + 1 + 1 + 1 + 1 + 1 + 1 + 1 + 1 + 1 + 1 + 1) b5
theorem SNAP_9 {S N f g : Int → Int} (hf : ∀ j : Int, 0 ≤ j → j < 31347 → f j = S (j + 3483)) (hg : ∀ j : Int, 0 ≤ j → j < 34830 → g j = if 3483 * 9 ≤ j ∧ j < 3483 * 9 + 3483 then N (j - 3483 * 9) else f j) : SNAPPED S N 10 g 10 := by
  refine ⟨rfl, fun j j0 j1 => ?_⟩
  rw [hg j j0 j1]
  unfold SNP
  rw [if_pos rfl]
  by_cases h : j < 31347
  · rw [if_pos h, if_neg (by omega), hf j j0 h]
  · rw [if_neg h, if_pos (by omega)]
    rfl
theorem SNAP_c {S N g : Int → Int} {c : Int} (hc : c ≠ 10) (hg : ∀ j : Int, 0 ≤ j → j < 34830 → g j = if 3483 * c ≤ j ∧ j < 3483 * c + 3483 then N (j - 3483 * c) else S j) : SNAPPED S N c g (c + 1) := by
  refine ⟨(if_neg hc).symm, fun j j0 j1 => ?_⟩
  rw [hg j j0 j1]
  unfold SNP
  rw [if_neg hc]
theorem TRN_ix {x y t w : Int} : 483 + 500 * x + w + y - t = 483 + 500 * x + (w + y - t) := by omega
/-- a value told and taken back -/
theorem PUB_back {N : Int → Int} {y z n0 : Int} (h1 : N (3 + y) = 0) (h2 : N (243 + y) = 0) : uI (uI (uI (uI N (3 + y) z) (243 + y) n0) (3 + y) 0) (243 + y) 0 = N := by
  funext j
  unfold uI
  split
  · rename_i e; rw [e, h2]
  · split
    · rename_i e; rw [e, h1]
    · rfl
theorem hiX11_feed_X11 : ∀ w ∈ wsX110, w ∈ wsX11_feed := fun _ h => List.mem_cons_of_mem _ (List.mem_append_right _ h)
theorem ziX11_feed : yX11_feed.cls = RX11 ∧ yX11_feed.cls ≠ "java/lang/invoke/MethodHandle" ∧ yX11_feed.cls ≠ "java/lang/invoke/VarHandle" ∧ (parseMethodDescriptor yX11_feed.desc).map (fun d => d.parameters.length) = some 5 := by decide +kernel
set_option maxHeartbeats 4000000 in
set_option maxRecDepth 100000 in
theorem c_feed {l : Launch} {G : va_G} {cI cJ cO : ClassId} (h : Nat) (q : Nat → Nat) (v : Nat → Int) (a : Nat → Int → Int) (b1 b2 b3 b4 b5 : Int)  (h1 : 0 ≤ v 2 ∧ v 2 ≤ 640) : zC l yX11_feed wsX11_feed { frames := 1, cells := 0, slots := 0, locals := 22 } G (tyZ cI cJ cO) (S := Int × (Int → Int)) [.ref h, .int (iI b1), .int (iI b2), .int (iI b3), .int (iI b4), .int (iI b5)] (mW cI cJ h q v a) (zI (fun _ => if v 2 + 20 ≤ 640 then v 2 + 20 else -1)) (fun u => (v 2 + 20 ≤ 640 → u.1 = v 2 + 20 ∧ u.2 = FED (a 1) (v 2) b1 b2 b3 b4 b5) ∧ (¬ v 2 + 20 ≤ 640 → u.1 = v 2 ∧ u.2 = a 1)) (fun u => mW cI cJ h q (uV (uV v 0 0) 2 u.1) (uA a 1 u.2)) 0 0 := by
  refine z_start (cc := cX11_feed) (maxL := 6) (ret := (some .int)) (by decide) rfl (Nat.le_of_ble_eq_true rfl) ?_
  intro p e s m below meth c A ls F hr hlk hnm hAe hA hW hl
  have hx := F.1
  have hb := F.2.1
  have hown : s.vm.findClass RX11 = some m.cls := F.2.2.2.1
  have hts := F.2.2.2.2
  have hl : lv_has ls 6 [(0, .ref h), (1, .int (iI b1)), (2, .int (iI b2)), (3, .int (iI b3)), (4, .int (iI b4)), (5, .int (iI b5))] := hl
  refine lv_aload_n hx hb dX11_feed_0 rfl (lv_at hl 0 rfl) ?_
  refine z_iconst (n := 0) hx hb dX11_feed_1 ?_
  refine z_put hx hb hts hiX11_feed_X11 tyX11 tyX11_ok nmX11 hown hW 0 0 1 rfl rfl (by decide) (Nat.le_of_ble_eq_true rfl) rfl rfl rfl rfl dX11_feed_2 (fun H locs hW => ?_)
  have hW : zW G (tyZ cI cJ cO) A s (mW cI cJ h q (uV v 0 0) a) H locs := hW
  refine lv_aload_n hx hb dX11_feed_5 rfl (lv_at hl 0 rfl) ?_
  refine z_get (v := .int (iI (v 2))) hx hb hts hiX11_feed_X11 hown hW 0 2 2 rfl rfl rfl (by decide) rfl dX11_feed_6 ?_
  refine z_bipush hx hb dX11_feed_9 (by decide +kernel) ?_
  refine z_iadd hx hb dX11_feed_11 ?_
  refine z_sipush hx hb dX11_feed_12 (by decide +kernel) ?_
  refine z_icmp_le (tgt := 20) hx hb dX11_feed_15 (by decide) ⟨by omega, by omega⟩ (by decide) (fun c15 => ?_) (fun c15 => ?_)
  · refine lv_aload_n hx hb dX11_feed_20 rfl (lv_at hl 0 rfl) ?_
    refine lv_iload_n hx hb dX11_feed_21 rfl (lv_at hl 1 rfl) ?_
    refine z_callV (As := [.int (iI b1)]) (rest := []) F (c_lays h q (uV v 0 0) a b1  (show 0 ≤ (v 2) ∧ (v 2) + 4 ≤ 640 by omega)) gX11_feed_X11_lays rfl ziX11_lays ⟨rfl, rfl, by decide, by decide⟩ rfl hl.1 rfl (Nat.le_of_ble_eq_true rfl) dX11_feed_22 ⟨Nat.zero_le _, Nat.zero_le _⟩ hW hA [0, 1, 2, 3, 4, 5, 6, 7, 8, 9, 10] rfl (by decide) (fun _ => rfl) (fun u => mW cI cJ h q (uV (uV v 0 0) 2 ((v 2) + 1 + 1 + 1 + 1)) (uA a 1 u)) (fun _ => rfl) (fun u => []) (fun _ => rfl) 0 rfl rfl rfl (fun u H locs hp22 hW => ?_)
    obtain ⟨f1_1, rfl⟩ : ∃ z, z = u := ⟨_, rfl⟩
    have hp22 : f1_1 = LAY ((a 1)) ((v 2)) b1 := hp22
    subst hp22
    have hW : zW G (tyZ cI cJ cO) A s (mW cI cJ h q (uV (uV v 0 0) 2 ((v 2) + 1 + 1 + 1 + 1)) (uA a 1 (LAY ((a 1)) ((v 2)) b1))) H locs := hW
    refine lv_aload_n hx hb dX11_feed_25 rfl (lv_at hl 0 rfl) ?_
    refine lv_iload_n hx hb dX11_feed_26 rfl (lv_at hl 2 rfl) ?_
    refine z_callV (As := [.int (iI b2)]) (rest := []) F (c_lays h q (uV (uV v 0 0) 2 ((v 2) + 1 + 1 + 1 + 1)) (uA a 1 (LAY ((a 1)) ((v 2)) b1)) b2  (show 0 ≤ ((v 2) + 1 + 1 + 1 + 1) ∧ ((v 2) + 1 + 1 + 1 + 1) + 4 ≤ 640 by omega)) gX11_feed_X11_lays rfl ziX11_lays ⟨rfl, rfl, by decide, by decide⟩ rfl hl.1 rfl (Nat.le_of_ble_eq_true rfl) dX11_feed_27 ⟨Nat.zero_le _, Nat.zero_le _⟩ hW hA [0, 1, 2, 3, 4, 5, 6, 7, 8, 9, 10] rfl (by decide) (fun _ => rfl) (fun u => mW cI cJ h q (uV (uV v 0 0) 2 (((v 2) + 1 + 1 + 1 + 1) + 1 + 1 + 1 + 1)) (uA a 1 u)) (fun _ => rfl) (fun u => []) (fun _ => rfl) 0 rfl rfl rfl (fun u H locs hp27 hW => ?_)
    obtain ⟨f1_2, rfl⟩ : ∃ z, z = u := ⟨_, rfl⟩
    have hp27 : f1_2 = LAY ((LAY ((a 1)) ((v 2)) b1)) (((v 2) + 1 + 1 + 1 + 1)) b2 := hp27
    subst hp27
    have hW : zW G (tyZ cI cJ cO) A s (mW cI cJ h q (uV (uV v 0 0) 2 (((v 2) + 1 + 1 + 1 + 1) + 1 + 1 + 1 + 1)) (uA a 1 (LAY ((LAY ((a 1)) ((v 2)) b1)) (((v 2) + 1 + 1 + 1 + 1)) b2))) H locs := hW
    refine lv_aload_n hx hb dX11_feed_30 rfl (lv_at hl 0 rfl) ?_
    refine lv_iload_n hx hb dX11_feed_31 rfl (lv_at hl 3 rfl) ?_
    refine z_callV (As := [.int (iI b3)]) (rest := []) F (c_lays h q (uV (uV v 0 0) 2 (((v 2) + 1 + 1 + 1 + 1) + 1 + 1 + 1 + 1)) (uA a 1 (LAY ((LAY ((a 1)) ((v 2)) b1)) (((v 2) + 1 + 1 + 1 + 1)) b2)) b3  (show 0 ≤ (((v 2) + 1 + 1 + 1 + 1) + 1 + 1 + 1 + 1) ∧ (((v 2) + 1 + 1 + 1 + 1) + 1 + 1 + 1 + 1) + 4 ≤ 640 by omega)) gX11_feed_X11_lays rfl ziX11_lays ⟨rfl, rfl, by decide, by decide⟩ rfl hl.1 rfl (Nat.le_of_ble_eq_true rfl) dX11_feed_32 ⟨Nat.zero_le _, Nat.zero_le _⟩ hW hA [0, 1, 2, 3, 4, 5, 6, 7, 8, 9, 10] rfl (by decide) (fun _ => rfl) (fun u => mW cI cJ h q (uV (uV v 0 0) 2 ((((v 2) + 1 + 1 + 1 + 1) + 1 + 1 + 1 + 1) + 1 + 1 + 1 + 1)) (uA a 1 u)) (fun _ => rfl) (fun u => []) (fun _ => rfl) 0 rfl rfl rfl (fun u H locs hp32 hW => ?_)
    obtain ⟨f1_3, rfl⟩ : ∃ z, z = u := ⟨_, rfl⟩
    have hp32 : f1_3 = LAY ((LAY ((LAY ((a 1)) ((v 2)) b1)) (((v 2) + 1 + 1 + 1 + 1)) b2)) ((((v 2) + 1 + 1 + 1 + 1) + 1 + 1 + 1 + 1)) b3 := hp32
    subst hp32
    have hW : zW G (tyZ cI cJ cO) A s (mW cI cJ h q (uV (uV v 0 0) 2 ((((v 2) + 1 + 1 + 1 + 1) + 1 + 1 + 1 + 1) + 1 + 1 + 1 + 1)) (uA a 1 (LAY ((LAY ((LAY ((a 1)) ((v 2)) b1)) (((v 2) + 1 + 1 + 1 + 1)) b2)) ((((v 2) + 1 + 1 + 1 + 1) + 1 + 1 + 1 + 1)) b3))) H locs := hW
    refine lv_aload_n hx hb dX11_feed_35 rfl (lv_at hl 0 rfl) ?_
    refine lv_iload hx hb dX11_feed_36 (lv_at hl 4 rfl) ?_
    refine z_callV (As := [.int (iI b4)]) (rest := []) F (c_lays h q (uV (uV v 0 0) 2 ((((v 2) + 1 + 1 + 1 + 1) + 1 + 1 + 1 + 1) + 1 + 1 + 1 + 1)) (uA a 1 (LAY ((LAY ((LAY ((a 1)) ((v 2)) b1)) (((v 2) + 1 + 1 + 1 + 1)) b2)) ((((v 2) + 1 + 1 + 1 + 1) + 1 + 1 + 1 + 1)) b3)) b4  (show 0 ≤ ((((v 2) + 1 + 1 + 1 + 1) + 1 + 1 + 1 + 1) + 1 + 1 + 1 + 1) ∧ ((((v 2) + 1 + 1 + 1 + 1) + 1 + 1 + 1 + 1) + 1 + 1 + 1 + 1) + 4 ≤ 640 by omega)) gX11_feed_X11_lays rfl ziX11_lays ⟨rfl, rfl, by decide, by decide⟩ rfl hl.1 rfl (Nat.le_of_ble_eq_true rfl) dX11_feed_38 ⟨Nat.zero_le _, Nat.zero_le _⟩ hW hA [0, 1, 2, 3, 4, 5, 6, 7, 8, 9, 10] rfl (by decide) (fun _ => rfl) (fun u => mW cI cJ h q (uV (uV v 0 0) 2 (((((v 2) + 1 + 1 + 1 + 1) + 1 + 1 + 1 + 1) + 1 + 1 + 1 + 1) + 1 + 1 + 1 + 1)) (uA a 1 u)) (fun _ => rfl) (fun u => []) (fun _ => rfl) 0 rfl rfl rfl (fun u H locs hp38 hW => ?_)
    obtain ⟨f1_4, rfl⟩ : ∃ z, z = u := ⟨_, rfl⟩
    have hp38 : f1_4 = LAY ((LAY ((LAY ((LAY ((a 1)) ((v 2)) b1)) (((v 2) + 1 + 1 + 1 + 1)) b2)) ((((v 2) + 1 + 1 + 1 + 1) + 1 + 1 + 1 + 1)) b3)) (((((v 2) + 1 + 1 + 1 + 1) + 1 + 1 + 1 + 1) + 1 + 1 + 1 + 1)) b4 := hp38
    subst hp38
    have hW : zW G (tyZ cI cJ cO) A s (mW cI cJ h q (uV (uV v 0 0) 2 (((((v 2) + 1 + 1 + 1 + 1) + 1 + 1 + 1 + 1) + 1 + 1 + 1 + 1) + 1 + 1 + 1 + 1)) (uA a 1 (LAY ((LAY ((LAY ((LAY ((a 1)) ((v 2)) b1)) (((v 2) + 1 + 1 + 1 + 1)) b2)) ((((v 2) + 1 + 1 + 1 + 1) + 1 + 1 + 1 + 1)) b3)) (((((v 2) + 1 + 1 + 1 + 1) + 1 + 1 + 1 + 1) + 1 + 1 + 1 + 1)) b4))) H locs := hW
    refine lv_aload_n hx hb dX11_feed_41 rfl (lv_at hl 0 rfl) ?_
    refine lv_iload hx hb dX11_feed_42 (lv_at hl 5 rfl) ?_
    refine z_callV (As := [.int (iI b5)]) (rest := []) F (c_lays h q (uV (uV v 0 0) 2 (((((v 2) + 1 + 1 + 1 + 1) + 1 + 1 + 1 + 1) + 1 + 1 + 1 + 1) + 1 + 1 + 1 + 1)) (uA a 1 (LAY ((LAY ((LAY ((LAY ((a 1)) ((v 2)) b1)) (((v 2) + 1 + 1 + 1 + 1)) b2)) ((((v 2) + 1 + 1 + 1 + 1) + 1 + 1 + 1 + 1)) b3)) (((((v 2) + 1 + 1 + 1 + 1) + 1 + 1 + 1 + 1) + 1 + 1 + 1 + 1)) b4)) b5  (show 0 ≤ (((((v 2) + 1 + 1 + 1 + 1) + 1 + 1 + 1 + 1) + 1 + 1 + 1 + 1) + 1 + 1 + 1 + 1) ∧ (((((v 2) + 1 + 1 + 1 + 1) + 1 + 1 + 1 + 1) + 1 + 1 + 1 + 1) + 1 + 1 + 1 + 1) + 4 ≤ 640 by omega)) gX11_feed_X11_lays rfl ziX11_lays ⟨rfl, rfl, by decide, by decide⟩ rfl hl.1 rfl (Nat.le_of_ble_eq_true rfl) dX11_feed_44 ⟨Nat.zero_le _, Nat.zero_le _⟩ hW hA [0, 1, 2, 3, 4, 5, 6, 7, 8, 9, 10] rfl (by decide) (fun _ => rfl) (fun u => mW cI cJ h q (uV (uV v 0 0) 2 ((((((v 2) + 1 + 1 + 1 + 1) + 1 + 1 + 1 + 1) + 1 + 1 + 1 + 1) + 1 + 1 + 1 + 1) + 1 + 1 + 1 + 1)) (uA a 1 u)) (fun _ => rfl) (fun u => []) (fun _ => rfl) 0 rfl rfl rfl (fun u H locs hp44 hW => ?_)
    obtain ⟨f1_5, rfl⟩ : ∃ z, z = u := ⟨_, rfl⟩
    have hp44 : f1_5 = LAY ((LAY ((LAY ((LAY ((LAY ((a 1)) ((v 2)) b1)) (((v 2) + 1 + 1 + 1 + 1)) b2)) ((((v 2) + 1 + 1 + 1 + 1) + 1 + 1 + 1 + 1)) b3)) (((((v 2) + 1 + 1 + 1 + 1) + 1 + 1 + 1 + 1) + 1 + 1 + 1 + 1)) b4)) ((((((v 2) + 1 + 1 + 1 + 1) + 1 + 1 + 1 + 1) + 1 + 1 + 1 + 1) + 1 + 1 + 1 + 1)) b5 := hp44
    subst hp44
    have hW : zW G (tyZ cI cJ cO) A s (mW cI cJ h q (uV (uV v 0 0) 2 ((((((v 2) + 1 + 1 + 1 + 1) + 1 + 1 + 1 + 1) + 1 + 1 + 1 + 1) + 1 + 1 + 1 + 1) + 1 + 1 + 1 + 1)) (uA a 1 (LAY ((LAY ((LAY ((LAY ((LAY ((a 1)) ((v 2)) b1)) (((v 2) + 1 + 1 + 1 + 1)) b2)) ((((v 2) + 1 + 1 + 1 + 1) + 1 + 1 + 1 + 1)) b3)) (((((v 2) + 1 + 1 + 1 + 1) + 1 + 1 + 1 + 1) + 1 + 1 + 1 + 1)) b4)) ((((((v 2) + 1 + 1 + 1 + 1) + 1 + 1 + 1 + 1) + 1 + 1 + 1 + 1) + 1 + 1 + 1 + 1)) b5))) H locs := hW
    refine lv_aload_n hx hb dX11_feed_47 rfl (lv_at hl 0 rfl) ?_
    refine z_get (v := .int (iI ((((((v 2) + 1 + 1 + 1 + 1) + 1 + 1 + 1 + 1) + 1 + 1 + 1 + 1) + 1 + 1 + 1 + 1) + 1 + 1 + 1 + 1))) hx hb hts hiX11_feed_X11 hown hW 0 2 2 rfl rfl rfl (by decide) rfl dX11_feed_48 ?_
    exact z_iret hx hb hr hlk hW (⟨(((((v 2) + 1 + 1 + 1 + 1) + 1 + 1 + 1 + 1) + 1 + 1 + 1 + 1) + 1 + 1 + 1 + 1) + 1 + 1 + 1 + 1, LAY ((LAY ((LAY ((LAY ((LAY ((a 1)) ((v 2)) b1)) (((v 2) + 1 + 1 + 1 + 1)) b2)) ((((v 2) + 1 + 1 + 1 + 1) + 1 + 1 + 1 + 1)) b3)) (((((v 2) + 1 + 1 + 1 + 1) + 1 + 1 + 1 + 1) + 1 + 1 + 1 + 1)) b4)) ((((((v 2) + 1 + 1 + 1 + 1) + 1 + 1 + 1 + 1) + 1 + 1 + 1 + 1) + 1 + 1 + 1 + 1)) b5⟩) (by rw [if_pos (by omega)]; omega) (show (_ → _) ∧ (_ → _) from ⟨fun _ => ⟨by show _ = _; omega, rfl⟩, fun q9 => absurd (by omega) q9⟩) rfl dX11_feed_51
  · refine z_iconst (n := -1) hx hb dX11_feed_18 ?_
    exact z_iret hx hb hr hlk hW (⟨v 2, a 1⟩) (by exact if_neg (by omega)) (show (_ → _) ∧ (_ → _) from ⟨fun q9 => absurd q9 (by omega), fun _ => ⟨rfl, rfl⟩⟩) rfl dX11_feed_19
theorem hiX11_end_X11 : ∀ w ∈ wsX110, w ∈ wsX11_end := fun _ h => List.mem_cons_of_mem _ (List.mem_append_right _ h)
theorem ziX11_end : yX11_end.cls = RX11 ∧ yX11_end.cls ≠ "java/lang/invoke/MethodHandle" ∧ yX11_end.cls ≠ "java/lang/invoke/VarHandle" ∧ (parseMethodDescriptor yX11_end.desc).map (fun d => d.parameters.length) = some 1 := by decide +kernel
set_option maxHeartbeats 4000000 in
set_option maxRecDepth 100000 in
theorem c_end {l : Launch} {G : va_G} {cI cJ cO : ClassId} (h : Nat) (q : Nat → Nat) (v : Nat → Int) (a : Nat → Int → Int) (w : Int)  (h1 : -2147483648 ≤ w ∧ w < 2147483648) (h2 : 0 ≤ v 2 ∧ v 2 ≤ 640) : zC l yX11_end wsX11_end { frames := 0, cells := 0, slots := 0, locals := 0 } G (tyZ cI cJ cO) (S := Int) [.ref h, .int (iI w)] (mW cI cJ h q v a) (zI (fun _ => bI (0 ≤ w ∧ w ≤ v 2))) (fun u => u = if 0 ≤ w ∧ w ≤ v 2 then w else v 2) (fun u => mW cI cJ h q (uV (uV v 0 0) 2 u) a) 0 0 := by
  refine z_start (cc := cX11_end) (maxL := 2) (ret := (some .boolean)) (by decide) rfl (Nat.le_of_ble_eq_true rfl) ?_
  intro p e s m below meth c A ls F hr hlk hnm hAe hA hW hl
  have hx := F.1
  have hb := F.2.1
  have hown : s.vm.findClass RX11 = some m.cls := F.2.2.2.1
  have hts := F.2.2.2.2
  have hl : lv_has ls 2 [(0, .ref h), (1, .int (iI w))] := hl
  refine lv_aload_n hx hb dX11_end_0 rfl (lv_at hl 0 rfl) ?_
  refine z_iconst (n := 0) hx hb dX11_end_1 ?_
  refine z_put hx hb hts hiX11_end_X11 tyX11 tyX11_ok nmX11 hown hW 0 0 1 rfl rfl (by decide) (Nat.le_of_ble_eq_true rfl) rfl rfl rfl rfl dX11_end_2 (fun H locs hW => ?_)
  have hW : zW G (tyZ cI cJ cO) A s (mW cI cJ h q (uV v 0 0) a) H locs := hW
  refine lv_iload_n hx hb dX11_end_5 rfl (lv_at hl 1 rfl) ?_
  refine z_if_lt (tgt := 17) hx hb dX11_end_6 (by decide) ⟨by omega, by omega⟩ (fun c6 => ?_) (fun c6 => ?_)
  · refine z_iconst (n := 0) hx hb dX11_end_17 ?_
    exact z_zret hx hb hr hlk (by first | exact Or.inl rfl | exact Or.inr rfl | omega) hW (v 2) (by exact bI_f (by omega)) (show _ = _ from (if_neg (by omega)).symm) rfl dX11_end_18
  · refine lv_iload_n hx hb dX11_end_9 rfl (lv_at hl 1 rfl) ?_
    refine lv_aload_n hx hb dX11_end_10 rfl (lv_at hl 0 rfl) ?_
    refine z_get (v := .int (iI (v 2))) hx hb hts hiX11_end_X11 hown hW 0 2 2 rfl rfl rfl (by decide) rfl dX11_end_11 ?_
    refine z_icmp_le (tgt := 19) hx hb dX11_end_14 (by decide) ⟨by omega, by omega⟩ ⟨by omega, by omega⟩ (fun c14 => ?_) (fun c14 => ?_)
    · refine lv_aload_n hx hb dX11_end_19 rfl (lv_at hl 0 rfl) ?_
      refine lv_iload_n hx hb dX11_end_20 rfl (lv_at hl 1 rfl) ?_
      refine z_put hx hb hts hiX11_end_X11 tyX11 tyX11_ok nmX11 hown hW 0 2 2 rfl rfl (by decide) (Nat.le_of_ble_eq_true rfl) rfl rfl rfl rfl dX11_end_21 (fun H locs hW => ?_)
      have hW : zW G (tyZ cI cJ cO) A s (mW cI cJ h q (uV (uV v 0 0) 2 w) a) H locs := hW
      refine z_iconst (n := 1) hx hb dX11_end_24 ?_
      exact z_zret hx hb hr hlk (by first | exact Or.inl rfl | exact Or.inr rfl | omega) hW w (by exact bI_t (by omega)) (show _ = _ from (if_pos (by omega)).symm) rfl dX11_end_25
    · refine z_iconst (n := 0) hx hb dX11_end_17 ?_
      exact z_zret hx hb hr hlk (by first | exact Or.inl rfl | exact Or.inr rfl | omega) hW (v 2) (by exact bI_f (by omega)) (show _ = _ from (if_neg (by omega)).symm) rfl dX11_end_18
theorem hiX11_laysSpreads_X11 : ∀ w ∈ wsX110, w ∈ wsX11_laysSpreads := fun _ h => List.mem_cons_of_mem _ (List.mem_append_right _ h)
theorem ziX11_laysSpreads : yX11_laysSpreads.cls = RX11 ∧ yX11_laysSpreads.cls ≠ "java/lang/invoke/MethodHandle" ∧ yX11_laysSpreads.cls ≠ "java/lang/invoke/VarHandle" ∧ (parseMethodDescriptor yX11_laysSpreads.desc).map (fun d => d.parameters.length) = some 2 := by decide +kernel
set_option maxHeartbeats 4000000 in
set_option maxRecDepth 100000 in
theorem c_laysSpreads {l : Launch} {G : va_G} {cI cJ cO : ClassId} (h : Nat) (q : Nat → Nat) (v : Nat → Int) (a : Nat → Int → Int) (x y : Int)  (hx6 : 0 ≤ x ∧ x < 6) (h2 : LF (a 11) x 0 ≤ y ∧ y < LF (a 11) x 0 + LF (a 11) x 1) (hV : WFv (a 11)) (hL : WFl (a 11) x) (hT : WFt (a 11) x) : zC l yX11_laysSpreads wsX11_laysSpreads { frames := 7, cells := 0, slots := 0, locals := 160 } G (tyZ cI cJ cO) (S := (Int → Int) × (Int → Int) × (Int → Int) × (Int → Int) × (Int → Int)) [.ref h, .int (iI x), .int (iI y)] (mW cI cJ h q v a) (zN) (fun u => ∀ j : Int, LF (a 11) x 0 ≤ j → j ≤ y → u.2.2.2.2 (j - LF (a 11) x 0) = SPR (a 11) x j) (fun u => mW cI cJ h q v (uA (uA (uA (uA (uA a 16 u.1) 17 u.2.1) 18 u.2.2.1) 19 u.2.2.2.1) 21 u.2.2.2.2)) 0 0 := by
  refine z_start (cc := cX11_laysSpreads) (maxL := 11) (ret := none) (by decide) rfl (Nat.le_of_ble_eq_true rfl) ?_
  intro p e s m below meth c A ls F hr hlk hnm hAe hA hW hl
  have hx := F.1
  have hb := F.2.1
  have hown : s.vm.findClass RX11 = some m.cls := F.2.2.2.1
  have hts := F.2.2.2.2
  have hl : lv_has ls 11 [(0, .ref h), (1, .int (iI x)), (2, .int (iI y))] := hl
  obtain ⟨l0, l1, l2, l3, l4, l5, l6, l7, l8, l9, l10, l11, l12, l13, l14, l15⟩ := id hL
  refine lv_aload_n hx hb dX11_laysSpreads_0 rfl (lv_at hl 0 rfl) ?_
  refine lv_iload_n hx hb dX11_laysSpreads_1 rfl (lv_at hl 1 rfl) ?_
  refine z_iconst (n := 0) hx hb dX11_laysSpreads_2 ?_
  refine z_callV (As := [.int (iI x), .int (iI 0)]) (rest := []) F (c_its h q v a x 0  (show 0 ≤ 483 + 500 * x + 0 ∧ 483 + 500 * x + 0 < 3483 by omega)) gX11_laysSpreads_X11_its rfl ziX11_its ⟨rfl, rfl, by decide, by decide⟩ rfl hl.1 rfl (Nat.le_of_ble_eq_true rfl) dX11_laysSpreads_3 ⟨Nat.zero_le _, Nat.zero_le _⟩ hW hA [0, 1, 2, 3, 4, 5, 6, 7, 8, 9, 10] rfl (by decide) (fun _ => rfl) (fun _ => mW cI cJ h q v a) (fun _ => rfl) (fun _ => [.int (iI (LF ((a 11)) x 0))]) (fun _ => rfl) 0 rfl rfl rfl (fun _ H locs hp3 hW => ?_)
  refine lv_istore_n (lv' := [(3, .int (iI (LF ((a 11)) x 0))), (0, .ref h), (1, .int (iI x)), (2, .int (iI y))]) hx hb dX11_laysSpreads_6 rfl hl (by decide) rfl (fun ls hl => ?_)
  refine z_lconst (z := 0) hx hb dX11_laysSpreads_7 (by decide +kernel) ?_
  refine lv_lstore (lv' := [(4, .long (lI 0)), (3, .int (iI (LF ((a 11)) x 0))), (0, .ref h), (1, .int (iI x)), (2, .int (iI y))]) hx hb dX11_laysSpreads_8 hl (by decide) rfl (fun ls hl => ?_)
  refine lv_iload_n hx hb dX11_laysSpreads_10 rfl (lv_at hl 1 rfl) ?_
  refine lv_istore (lv' := [(6, .int (iI (LF ((a 11)) x 0))), (4, .long (lI 0)), (3, .int (iI (LF ((a 11)) x 0))), (0, .ref h), (1, .int (iI x)), (2, .int (iI y))]) hx hb dX11_laysSpreads_11 hl (by decide) rfl (fun ls hl => ?_)
  refine z_loop7 (fun (g4 : Int) (y6 : Int) (f16 : Int → Int) (f17 : Int → Int) (f18 : Int → Int) (f19 : Int → Int) (f21 : Int → Int) (ls : Array Slot) (H : Heap) (locs : List Loc) => (LF (a 11) x 0 ≤ y6 ∧ y6 ≤ y + 1) ∧ (g4 = TOG (a 11) x (y6 - LF (a 11) x 0).toNat) ∧ (∀ j : Int, LF (a 11) x 0 ≤ j → j < y6 → f21 (j - LF (a 11) x 0) = SPR (a 11) x j) ∧ zW G (tyZ cI cJ cO) A s (mW cI cJ h q v (uA (uA (uA (uA (uA a 16 f16) 17 f17) 18 f18) 19 f19) 21 f21)) H locs ∧ lv_has ls 11 [(6, .int (iI y6)), (4, .long (lI g4)), (3, .int (iI (LF ((a 11)) x 0))), (0, .ref h), (1, .int (iI x)), (2, .int (iI y))]) (fun g4 y6 f16 f17 f18 f19 f21 => (y + 1 - y6).toNat) ?_ 0 (LF ((a 11)) x 0) (a 16) (a 17) (a 18) (a 19) (a 21) _ _ _ ⟨(by omega), (by rw [show (LF (a 11) x 0 - LF (a 11) x 0).toNat = 0 by omega]; rfl), (fun j j1 j2 => by omega), hW, (lv_sub hl [0, 1, 2, 3, 4, 5] rfl)⟩
  intro g4 y6 f16 f17 f18 f19 f21 ls H locs hI ih
  obtain ⟨i1, i2, i3, hW, hl⟩ := hI
  refine lv_iload hx hb dX11_laysSpreads_13 (lv_at hl 0 rfl) ?_
  refine lv_iload_n hx hb dX11_laysSpreads_15 rfl (lv_at hl 5 rfl) ?_
  refine z_icmp_gt (tgt := 119) hx hb dX11_laysSpreads_16 (by decide) ⟨by omega, by omega⟩ ⟨by omega, by omega⟩ (fun c16 => ?_) (fun c16 => ?_)
  · exact z_vret hx hb hr hlk hW (⟨f16, f17, f18, f19, f21⟩) (show ∀ j : Int, LF (a 11) x 0 ≤ j → j ≤ y → f21 (j - LF (a 11) x 0) = SPR (a 11) x j from fun j j1 j2 => i3 j j1 (by omega)) rfl dX11_laysSpreads_119
  · have hE := END_R (k := y6) hL
    refine lv_aload_n hx hb dX11_laysSpreads_19 rfl (lv_at hl 3 rfl) ?_
    refine lv_iload_n hx hb dX11_laysSpreads_20 rfl (lv_at hl 4 rfl) ?_
    refine lv_iload hx hb dX11_laysSpreads_21 (lv_at hl 0 rfl) ?_
    refine z_callV (As := [.int (iI x), .int (iI y6)]) (rest := []) F (c_endOf h q v (uA (uA (uA (uA (uA a 16 f16) 17 f17) 18 f18) 19 f19) 21 f21) x y6  (show 0 ≤ x ∧ x < 6 by omega) (show -2147483648 ≤ y6 ∧ y6 < 2147483648 by omega) (show 0 ≤ LF ((a 11)) x 13 ∧ LF ((a 11)) x 13 ≤ 240 by omega)) gX11_laysSpreads_X11_endOf rfl ziX11_endOf ⟨rfl, rfl, by decide, by decide⟩ rfl hl.1 rfl (Nat.le_of_ble_eq_true rfl) dX11_laysSpreads_23 ⟨Nat.zero_le _, Nat.zero_le _⟩ hW hA [0, 1, 2, 3, 4, 5, 6, 7, 8, 9, 10] rfl (by decide) (fun _ => rfl) (fun _ => mW cI cJ h q v (uA (uA (uA (uA (uA a 16 f16) 17 f17) 18 f18) 19 f19) 21 f21)) (fun _ => rfl) (fun _ => [.int (iI (END ((a 11)) x y6))]) (fun _ => rfl) 0 rfl rfl rfl (fun _ H locs hp23 hW => ?_)
    refine lv_istore (lv' := [(7, .int (iI (END ((a 11)) x y6))), (6, .int (iI y6)), (4, .long (lI g4)), (3, .int (iI (LF ((a 11)) x 0))), (0, .ref h), (1, .int (iI x)), (2, .int (iI y))]) hx hb dX11_laysSpreads_26 hl (by decide) rfl (fun ls hl => ?_)
    refine lv_aload_n hx hb dX11_laysSpreads_28 rfl (lv_at hl 4 rfl) ?_
    refine lv_iload_n hx hb dX11_laysSpreads_29 rfl (lv_at hl 5 rfl) ?_
    refine lv_iload hx hb dX11_laysSpreads_30 (lv_at hl 1 rfl) ?_
    refine z_callV (As := [.int (iI x), .int (iI y6)]) (rest := []) F (c_laysRents h q v (uA (uA (uA (uA (uA a 16 f16) 17 f17) 18 f18) 19 f19) 21 f21) x y6  (show 0 ≤ x ∧ x < 6 by omega) (show -2147483648 ≤ y6 ∧ y6 < 2147483648 by omega) hV hL hT) gX11_laysSpreads_X11_laysRents rfl ziX11_laysRents ⟨rfl, rfl, by decide, by decide⟩ rfl hl.1 rfl (Nat.le_of_ble_eq_true rfl) dX11_laysSpreads_32 ⟨Nat.zero_le _, Nat.zero_le _⟩ hW hA [0, 1, 2, 3, 4, 5, 6, 7, 8, 9, 10] rfl (by decide) (fun _ => rfl) (fun u => mW cI cJ h q v (uA (uA (uA (uA (uA a 21 f21) 16 u.1) 17 u.2.1) 18 u.2.2.1) 19 u.2.2.2)) (fun _ => rfl) (fun u => []) (fun _ => rfl) 0 rfl rfl rfl (fun u H locs hp32 hW => ?_)
    obtain ⟨f16_1, f17_2, f18_3, f19_4⟩ := u
    have hp32 : LD ((a 11)) x y6 (REV ((a 11)) x + 1) f16_1 f17_2 f18_3 f19_4 := hp32
    have hW : zW G (tyZ cI cJ cO) A s (mW cI cJ h q v (uA (uA (uA (uA (uA a 21 f21) 16 f16_1) 17 f17_2) 18 f18_3) 19 f19_4)) H locs := hW
    refine z_lconst (z := 0) hx hb dX11_laysSpreads_35 (by decide +kernel) ?_
    refine lv_lstore (lv' := [(8, .long (lI 0)), (7, .int (iI (END ((a 11)) x y6))), (6, .int (iI y6)), (4, .long (lI g4)), (3, .int (iI (LF ((a 11)) x 0))), (0, .ref h), (1, .int (iI x)), (2, .int (iI y))]) hx hb dX11_laysSpreads_36 hl (by decide) rfl (fun ls hl => ?_)
    refine lv_iload_n hx hb dX11_laysSpreads_38 rfl (lv_at hl 4 rfl) ?_
    refine lv_istore (lv' := [(10, .int (iI (LF ((a 11)) x 0))), (8, .long (lI 0)), (7, .int (iI (END ((a 11)) x y6))), (6, .int (iI y6)), (4, .long (lI g4)), (3, .int (iI (LF ((a 11)) x 0))), (0, .ref h), (1, .int (iI x)), (2, .int (iI y))]) hx hb dX11_laysSpreads_39 hl (by decide) rfl (fun ls hl => ?_)
    refine z_join2 (fun (s8 : Int) (x10 : Int) (ls : Array Slot) (H : Heap) (locs : List Loc) => (s8 = ALLD (a 11) x y6) ∧ zW G (tyZ cI cJ cO) A s (mW cI cJ h q v (uA (uA (uA (uA (uA a 21 f21) 16 f16_1) 17 f17_2) 18 f18_3) 19 f19_4)) H locs ∧ lv_has ls 11 [(10, .int (iI x10)), (8, .long (lI s8)), (7, .int (iI (END ((a 11)) x y6))), (6, .int (iI y6)), (4, .long (lI g4)), (3, .int (iI (LF ((a 11)) x 0))), (0, .ref h), (1, .int (iI x)), (2, .int (iI y))]) 67 (fun s8 x10 => []) ?_ ?_
    · intro s8 x10 ls H locs hJ
      obtain ⟨k3, hW, hl⟩ := hJ
      have hA := ALLD_R (m := y6) hL
      have hT2 := TOG_R hL (y6 - LF (a 11) x 0).toNat
      refine lv_aload_n hx hb dX11_laysSpreads_67 rfl (lv_at hl 6 rfl) ?_
      refine z_get (v := .ref (q 21)) hx hb hts hiX11_laysSpreads_X11 hown hW 0 21 1 rfl rfl rfl (by decide) rfl dX11_laysSpreads_68 ?_
      refine lv_iload hx hb dX11_laysSpreads_71 (lv_at hl 3 rfl) ?_
      refine lv_iload_n hx hb dX11_laysSpreads_73 rfl (lv_at hl 5 rfl) ?_
      refine z_isub hx hb dX11_laysSpreads_74 ?_
      refine z_join1 (fun (z9 : Int) (ls : Array Slot) (H : Heap) (locs : List Loc) => (z9 = SPR1 (a 11) x y6 g4) ∧ zW G (tyZ cI cJ cO) A s (mW cI cJ h q v (uA (uA (uA (uA (uA a 21 f21) 16 f16_1) 17 f17_2) 18 f18_3) 19 f19_4)) H locs ∧ lv_has ls 11 [(10, .int (iI x10)), (8, .long (lI s8)), (7, .int (iI (END ((a 11)) x y6))), (6, .int (iI y6)), (4, .long (lI g4)), (3, .int (iI (LF ((a 11)) x 0))), (0, .ref h), (1, .int (iI x)), (2, .int (iI y))]) 98 (fun z9 => [.long (lI z9), .int (iI (y6 - (LF ((a 11)) x 0))), .ref (q 21)]) ?_ ?_
      · intro z9 ls H locs hJ
        obtain ⟨es, hW, hl⟩ := hJ
        refine z_last (f := f21) (i := y6 - (LF ((a 11)) x 0)) (z := z9) hx hb hW 10 1 rfl rfl (by decide) ⟨by omega, by omega⟩ dX11_laysSpreads_98 (fun H locs hW => ?_)
        have hW : zW G (tyZ cI cJ cO) A s (mW cI cJ h q v (uA (uA (uA (uA (uA a 16 f16_1) 17 f17_2) 18 f18_3) 19 f19_4) 21 (uI f21 (y6 - (LF ((a 11)) x 0)) z9))) H locs := hW
        refine lv_lload hx hb dX11_laysSpreads_99 (lv_at hl 4 rfl) ?_
        refine lv_aload_n hx hb dX11_laysSpreads_101 rfl (lv_at hl 6 rfl) ?_
        refine z_get (v := .ref (q 21)) hx hb hts hiX11_laysSpreads_X11 hown hW 0 21 1 rfl rfl rfl (by decide) rfl dX11_laysSpreads_102 ?_
        refine lv_iload hx hb dX11_laysSpreads_105 (lv_at hl 3 rfl) ?_
        refine lv_iload_n hx hb dX11_laysSpreads_107 rfl (lv_at hl 5 rfl) ?_
        refine z_isub hx hb dX11_laysSpreads_108 ?_
        refine z_lald (f := uI f21 (y6 - (LF ((a 11)) x 0)) z9) (i := y6 - (LF ((a 11)) x 0)) hx hb hW 10 1 rfl rfl (by decide) ⟨by omega, by omega⟩ dX11_laysSpreads_109 ?_
        rw [uI_s (f := f21) (i := y6 - (LF ((a 11)) x 0)) (z := z9)]
        refine z_ladd hx hb dX11_laysSpreads_110 ?_
        refine lv_lstore (lv' := [(4, .long (lI (g4 + z9))), (10, .int (iI x10)), (8, .long (lI s8)), (7, .int (iI (END ((a 11)) x y6))), (6, .int (iI y6)), (3, .int (iI (LF ((a 11)) x 0))), (0, .ref h), (1, .int (iI x)), (2, .int (iI y))]) hx hb dX11_laysSpreads_111 hl (by decide) rfl (fun ls hl => ?_)
        refine z_iinc (k := 4) (lv' := [(6, .int (iI (y6 + 1))), (4, .long (lI (g4 + z9))), (10, .int (iI x10)), (8, .long (lI s8)), (7, .int (iI (END ((a 11)) x y6))), (3, .int (iI (LF ((a 11)) x 0))), (0, .ref h), (1, .int (iI x)), (2, .int (iI y))]) hx hb dX11_laysSpreads_113 hl rfl (by decide) rfl (fun ls hl => ?_)
        refine lv_goto (tgt := 13) hx hb dX11_laysSpreads_116 (by decide) ?_
        exact ih (g4 + z9) (y6 + 1) f16_1 f17_2 f18_3 f19_4 (uI f21 (y6 - (LF ((a 11)) x 0)) z9) _ _ _ ⟨(by omega), (by rw [show (y6 + 1 - LF (a 11) x 0).toNat = (y6 - LF (a 11) x 0).toNat + 1 by omega]; show _ = TOG (a 11) x (y6 - LF (a 11) x 0).toNat + SPR1 (a 11) x (LF (a 11) x 0 + ((y6 - LF (a 11) x 0).toNat : Int)) (TOG (a 11) x (y6 - LF (a 11) x 0).toNat); rw [show LF (a 11) x 0 + ((y6 - LF (a 11) x 0).toNat : Int) = y6 by omega, ← i2, es]), (fun j j1 j2 => by by_cases je : j = y6; (subst je; rw [uI_s, es]; unfold SPR; rw [← i2]); (rw [uI_n (by omega)]; exact i3 j j1 (by omega))), hW, (lv_sub hl [0, 1, 5, 6, 7, 8] rfl)⟩ (by omega)
      · intro J5
        refine lv_iload hx hb dX11_laysSpreads_75 (lv_at hl 3 rfl) ?_
        refine lv_iload hx hb dX11_laysSpreads_77 (lv_at hl 2 rfl) ?_
        refine z_icmp_ge (tgt := 97) hx hb dX11_laysSpreads_79 (by decide) ⟨by omega, by omega⟩ ⟨by omega, by omega⟩ (fun c79 => ?_) (fun c79 => ?_)
        · refine z_lconst (z := 0) hx hb dX11_laysSpreads_97 (by decide +kernel) ?_
          exact J5 0 _ _ _ ⟨(by unfold SPR1; first | (rw [if_pos (by omega), k3]; done) | exact (if_neg (by omega)).symm), hW, (lv_sub hl [0, 1, 2, 3, 4, 5, 6, 7, 8] rfl)⟩
        · refine lv_lload hx hb dX11_laysSpreads_82 (lv_at hl 1 rfl) ?_
          refine lv_lload hx hb dX11_laysSpreads_84 (lv_at hl 4 rfl) ?_
          refine z_lsub hx hb dX11_laysSpreads_86 ?_
          refine lv_iload hx hb dX11_laysSpreads_87 (lv_at hl 2 rfl) ?_
          refine lv_iload hx hb dX11_laysSpreads_89 (lv_at hl 3 rfl) ?_
          refine z_isub hx hb dX11_laysSpreads_91 ?_
          refine z_i2l hx hb dX11_laysSpreads_92 ⟨by omega, by omega⟩ ?_
          refine z_ldiv hx hb dX11_laysSpreads_93 ⟨by omega, by omega⟩ ⟨by omega, by omega⟩ (by omega) (by omega) ?_
          refine lv_goto (tgt := 98) hx hb dX11_laysSpreads_94 (by decide) ?_
          exact J5 ((s8 - g4).tdiv ((END ((a 11)) x y6) - y6)) _ _ _ ⟨(by unfold SPR1; first | (rw [if_pos (by omega), k3]; done) | exact (if_neg (by omega)).symm), hW, (lv_sub hl [0, 1, 2, 3, 4, 5, 6, 7, 8] rfl)⟩
    · intro J6
      refine z_loop2 (fun (s8 : Int) (x10 : Int) (ls : Array Slot) (H : Heap) (locs : List Loc) => (LF (a 11) x 0 ≤ x10 ∧ x10 ≤ END (a 11) x y6) ∧ (s8 = SUM (DUE (a 11) x y6) (LF (a 11) x 0) (x10 - LF (a 11) x 0).toNat) ∧ zW G (tyZ cI cJ cO) A s (mW cI cJ h q v (uA (uA (uA (uA (uA a 21 f21) 16 f16_1) 17 f17_2) 18 f18_3) 19 f19_4)) H locs ∧ lv_has ls 11 [(10, .int (iI x10)), (8, .long (lI s8)), (7, .int (iI (END ((a 11)) x y6))), (6, .int (iI y6)), (4, .long (lI g4)), (3, .int (iI (LF ((a 11)) x 0))), (0, .ref h), (1, .int (iI x)), (2, .int (iI y))]) (fun s8 x10 => (END (a 11) x y6 - x10).toNat) ?_ 0 (LF ((a 11)) x 0) _ _ _ ⟨(by omega), (by rw [show (LF (a 11) x 0 - LF (a 11) x 0).toNat = 0 by omega]; rfl), hW, (lv_sub hl [0, 1, 2, 3, 4, 5, 6, 7, 8] rfl)⟩
      intro s8 x10 ls H locs hI ih41
      obtain ⟨k1, k2, hW, hl⟩ := hI
      refine lv_iload hx hb dX11_laysSpreads_41 (lv_at hl 0 rfl) ?_
      refine lv_iload hx hb dX11_laysSpreads_43 (lv_at hl 2 rfl) ?_
      refine z_icmp_ge (tgt := 67) hx hb dX11_laysSpreads_45 (by decide) ⟨by omega, by omega⟩ ⟨by omega, by omega⟩ (fun c45 => ?_) (fun c45 => ?_)
      · exact J6 s8 x10 _ _ _ ⟨(by unfold ALLD; rw [k2, show x10 = END (a 11) x y6 by omega]), hW, (lv_sub hl [0, 1, 2, 3, 4, 5, 6, 7, 8] rfl)⟩
      · have hdr := DUE_R (k := y6) (y := x10) hL
        refine lv_lload hx hb dX11_laysSpreads_48 (lv_at hl 1 rfl) ?_
        refine lv_aload_n hx hb dX11_laysSpreads_50 rfl (lv_at hl 6 rfl) ?_
        refine lv_iload_n hx hb dX11_laysSpreads_51 rfl (lv_at hl 7 rfl) ?_
        refine lv_iload hx hb dX11_laysSpreads_52 (lv_at hl 0 rfl) ?_
        refine z_callV (As := [.int (iI x), .int (iI x10)]) (rest := [.long (lI s8)]) F (c_dueLaid h q v (uA (uA (uA (uA (uA a 21 f21) 16 f16_1) 17 f17_2) 18 f18_3) 19 f19_4) x x10 y6 (show 0 ≤ x ∧ x < 6 by omega) (show LF ((a 11)) x 0 ≤ x10 ∧ x10 ≤ LF ((a 11)) x 0 + 239 by omega) hL (show ∀ r : Int, 0 ≤ r → r ≤ REV ((a 11)) x → f17_2 r = RNT ((a 11)) x y6 r.toNat by exact fun r r0 r1 => (hp32 r r0 (by omega)).1)) gX11_laysSpreads_X11_dueLaid rfl ziX11_dueLaid ⟨rfl, rfl, by decide, by decide⟩ rfl hl.1 rfl (Nat.le_of_ble_eq_true rfl) dX11_laysSpreads_54 ⟨Nat.zero_le _, Nat.zero_le _⟩ hW hA [0, 1, 2, 3, 4, 5, 6, 7, 8, 9, 10] rfl (by decide) (fun _ => rfl) (fun _ => mW cI cJ h q v (uA (uA (uA (uA (uA a 21 f21) 16 f16_1) 17 f17_2) 18 f18_3) 19 f19_4)) (fun _ => rfl) (fun _ => [.int (iI (DUE ((a 11)) x y6 x10)), .long (lI s8)]) (fun _ => rfl) 0 rfl rfl rfl (fun _ H locs hp54 hW => ?_)
        refine z_i2l hx hb dX11_laysSpreads_57 ⟨by omega, by omega⟩ ?_
        refine z_ladd hx hb dX11_laysSpreads_58 ?_
        refine lv_lstore (lv' := [(8, .long (lI (s8 + (DUE ((a 11)) x y6 x10)))), (10, .int (iI x10)), (7, .int (iI (END ((a 11)) x y6))), (6, .int (iI y6)), (4, .long (lI g4)), (3, .int (iI (LF ((a 11)) x 0))), (0, .ref h), (1, .int (iI x)), (2, .int (iI y))]) hx hb dX11_laysSpreads_59 hl (by decide) rfl (fun ls hl => ?_)
        refine z_iinc (k := 1) (lv' := [(10, .int (iI (x10 + 1))), (8, .long (lI (s8 + (DUE ((a 11)) x y6 x10)))), (7, .int (iI (END ((a 11)) x y6))), (6, .int (iI y6)), (4, .long (lI g4)), (3, .int (iI (LF ((a 11)) x 0))), (0, .ref h), (1, .int (iI x)), (2, .int (iI y))]) hx hb dX11_laysSpreads_61 hl rfl (by decide) rfl (fun ls hl => ?_)
        refine lv_goto (tgt := 41) hx hb dX11_laysSpreads_64 (by decide) ?_
        exact ih41 (s8 + (DUE ((a 11)) x y6 x10)) (x10 + 1) _ _ _ ⟨(by omega), (by rw [SUM_succ (by omega), ← k2]), hW, (lv_sub hl [0, 1, 2, 3, 4, 5, 6, 7, 8] rfl)⟩ (by omega)
theorem hiX11_spread_X11 : ∀ w ∈ wsX110, w ∈ wsX11_spread := fun _ h => List.mem_cons_of_mem _ (List.mem_append_right _ h)
theorem ziX11_spread : yX11_spread.cls = RX11 ∧ yX11_spread.cls ≠ "java/lang/invoke/MethodHandle" ∧ yX11_spread.cls ≠ "java/lang/invoke/VarHandle" ∧ (parseMethodDescriptor yX11_spread.desc).map (fun d => d.parameters.length) = some 2 := by decide +kernel
set_option maxHeartbeats 4000000 in
set_option maxRecDepth 100000 in
theorem c_spread {l : Launch} {G : va_G} {cI cJ cO : ClassId} (h : Nat) (q : Nat → Nat) (v : Nat → Int) (a : Nat → Int → Int) (x y : Int)  (h1 : -2147483648 ≤ x ∧ x < 2147483648) (h2 : -2147483648 ≤ y ∧ y < 2147483648) (hWF : WF (a 11)) : zC l yX11_spread wsX11_spread { frames := 8, cells := 0, slots := 0, locals := 190 } G (tyZ cI cJ cO) (S := (Int → Int) × (Int → Int) × (Int → Int) × (Int → Int) × (Int → Int)) [.ref h, .int (iI x), .int (iI y)] (mW cI cJ h q v a) (zI (fun _ => A_spread (a 11) x y)) (fun u => True) (fun u => mW cI cJ h q (uV v 0 0) (uA (uA (uA (uA (uA a 16 u.1) 17 u.2.1) 18 u.2.2.1) 19 u.2.2.2.1) 21 u.2.2.2.2)) 0 0 := by
  refine z_start (cc := cX11_spread) (maxL := 3) (ret := (some .int)) (by decide) rfl (Nat.le_of_ble_eq_true rfl) ?_
  intro p e s m below meth c A ls F hr hlk hnm hAe hA hW hl
  have hx := F.1
  have hb := F.2.1
  have hown : s.vm.findClass RX11 = some m.cls := F.2.2.2.1
  have hts := F.2.2.2.2
  have hl : lv_has ls 3 [(0, .ref h), (1, .int (iI x)), (2, .int (iI y))] := hl
  obtain ⟨w0, w1, w2, hV, hls⟩ := id hWF
  refine lv_aload_n hx hb dX11_spread_0 rfl (lv_at hl 0 rfl) ?_
  refine z_iconst (n := 0) hx hb dX11_spread_1 ?_
  refine z_put hx hb hts hiX11_spread_X11 tyX11 tyX11_ok nmX11 hown hW 0 0 1 rfl rfl (by decide) (Nat.le_of_ble_eq_true rfl) rfl rfl rfl rfl dX11_spread_2 (fun H locs hW => ?_)
  have hW : zW G (tyZ cI cJ cO) A s (mW cI cJ h q (uV v 0 0) a) H locs := hW
  refine lv_aload_n hx hb dX11_spread_5 rfl (lv_at hl 0 rfl) ?_
  refine lv_iload_n hx hb dX11_spread_6 rfl (lv_at hl 1 rfl) ?_
  refine lv_iload_n hx hb dX11_spread_7 rfl (lv_at hl 2 rfl) ?_
  refine z_callV (As := [.int (iI x), .int (iI y)]) (rest := []) F (c_isOf h q (uV v 0 0) a x y  (show -2147483648 ≤ x ∧ x < 2147483648 by omega) (show -2147483648 ≤ y ∧ y < 2147483648 by omega) hWF) gX11_spread_X11_isOf rfl ziX11_isOf ⟨rfl, rfl, by decide, by decide⟩ rfl hl.1 rfl (Nat.le_of_ble_eq_true rfl) dX11_spread_8 ⟨Nat.zero_le _, Nat.zero_le _⟩ hW hA [0, 1, 2, 3, 4, 5, 6, 7, 8, 9, 10] rfl (by decide) (fun _ => rfl) (fun _ => mW cI cJ h q (uV v 0 0) a) (fun _ => rfl) (fun _ => [.int (iI (bI (isO ((a 11)) x y)))]) (fun _ => rfl) 0 rfl rfl rfl (fun _ H locs hp8 hW => ?_)
  refine z_b_ne (tgt := 17) hx hb dX11_spread_11 (by decide) (fun c11 => ?_) (fun c11 => ?_)
  · obtain ⟨hL, hT⟩ := hls x (by omega) (by omega)
    obtain ⟨l0, l1, l2, l3, l4, l5, l6, l7, l8, l9, l10, l11, l12, l13, l14, l15⟩ := id hL
    refine lv_aload_n hx hb dX11_spread_17 rfl (lv_at hl 0 rfl) ?_
    refine lv_iload_n hx hb dX11_spread_18 rfl (lv_at hl 1 rfl) ?_
    refine lv_iload_n hx hb dX11_spread_19 rfl (lv_at hl 2 rfl) ?_
    refine z_callV (As := [.int (iI x), .int (iI y)]) (rest := []) F (c_laysSpreads h q (uV v 0 0) a x y  (show 0 ≤ x ∧ x < 6 by omega) (show LF ((a 11)) x 0 ≤ y ∧ y < LF ((a 11)) x 0 + LF ((a 11)) x 1 by omega) hV hL hT) gX11_spread_X11_laysSpreads rfl ziX11_laysSpreads ⟨rfl, rfl, by decide, by decide⟩ rfl hl.1 rfl (Nat.le_of_ble_eq_true rfl) dX11_spread_20 ⟨Nat.zero_le _, Nat.zero_le _⟩ hW hA [0, 1, 2, 3, 4, 5, 6, 7, 8, 9, 10] rfl (by decide) (fun _ => rfl) (fun u => mW cI cJ h q (uV v 0 0) (uA (uA (uA (uA (uA a 16 u.1) 17 u.2.1) 18 u.2.2.1) 19 u.2.2.2.1) 21 u.2.2.2.2)) (fun _ => rfl) (fun u => []) (fun _ => rfl) 0 rfl rfl rfl (fun u H locs hp20 hW => ?_)
    obtain ⟨f16_1, f17_2, f18_3, f19_4, f21_5⟩ := u
    have hp20 : ∀ j : Int, LF ((a 11)) x 0 ≤ j → j ≤ y → f21_5 (j - LF ((a 11)) x 0) = SPR ((a 11)) x j := hp20
    have hW : zW G (tyZ cI cJ cO) A s (mW cI cJ h q (uV v 0 0) (uA (uA (uA (uA (uA a 16 f16_1) 17 f17_2) 18 f18_3) 19 f19_4) 21 f21_5)) H locs := hW
    refine lv_aload_n hx hb dX11_spread_23 rfl (lv_at hl 0 rfl) ?_
    refine z_get (v := .ref (q 21)) hx hb hts hiX11_spread_X11 hown hW 0 21 3 rfl rfl rfl (by decide) rfl dX11_spread_24 ?_
    refine lv_iload_n hx hb dX11_spread_27 rfl (lv_at hl 2 rfl) ?_
    refine lv_aload_n hx hb dX11_spread_28 rfl (lv_at hl 0 rfl) ?_
    refine lv_iload_n hx hb dX11_spread_29 rfl (lv_at hl 1 rfl) ?_
    refine z_iconst (n := 0) hx hb dX11_spread_30 ?_
    refine z_callV (As := [.int (iI x), .int (iI 0)]) (rest := [.int (iI y), .ref (q 21)]) F (c_its h q (uV v 0 0) (uA (uA (uA (uA (uA a 16 f16_1) 17 f17_2) 18 f18_3) 19 f19_4) 21 f21_5) x 0  (show 0 ≤ 483 + 500 * x + 0 ∧ 483 + 500 * x + 0 < 3483 by omega)) gX11_spread_X11_its rfl ziX11_its ⟨rfl, rfl, by decide, by decide⟩ rfl hl.1 rfl (Nat.le_of_ble_eq_true rfl) dX11_spread_31 ⟨Nat.zero_le _, Nat.zero_le _⟩ hW hA [0, 1, 2, 3, 4, 5, 6, 7, 8, 9, 10] rfl (by decide) (fun _ => rfl) (fun _ => mW cI cJ h q (uV v 0 0) (uA (uA (uA (uA (uA a 16 f16_1) 17 f17_2) 18 f18_3) 19 f19_4) 21 f21_5)) (fun _ => rfl) (fun _ => [.int (iI (LF ((a 11)) x 0)), .int (iI y), .ref (q 21)]) (fun _ => rfl) 0 rfl rfl rfl (fun _ H locs hp31 hW => ?_)
    refine z_isub hx hb dX11_spread_34 ?_
    refine z_lald (f := f21_5) (i := y - (LF ((a 11)) x 0)) hx hb hW 10 1 rfl rfl (by decide) ⟨by omega, by omega⟩ dX11_spread_35 ?_
    refine z_l2i hx hb dX11_spread_36 ?_
    exact z_iret hx hb hr hlk hW (⟨f16_1, f17_2, f18_3, f19_4, f21_5⟩) (by unfold A_spread; rw [if_pos c11]; exact (hp20 y (by omega) (by omega)).symm) trivial rfl dX11_spread_37
  · refine z_ldc hx hb (-100000000) hown (hts _ (List.mem_of_getElem? (i := 2) rfl)) (by decide +kernel) dX11_spread_14 ?_
    exact z_iret hx hb hr hlk hW (⟨a 16, a 17, a 18, a 19, a 21⟩) (by unfold A_spread; exact if_neg c11) trivial rfl dX11_spread_16
theorem hiX11_ahead_X11 : ∀ w ∈ wsX110, w ∈ wsX11_ahead := fun _ h => List.mem_cons_of_mem _ (List.mem_append_right _ h)
theorem ziX11_ahead : yX11_ahead.cls = RX11 ∧ yX11_ahead.cls ≠ "java/lang/invoke/MethodHandle" ∧ yX11_ahead.cls ≠ "java/lang/invoke/VarHandle" ∧ (parseMethodDescriptor yX11_ahead.desc).map (fun d => d.parameters.length) = some 2 := by decide +kernel
set_option maxHeartbeats 4000000 in
set_option maxRecDepth 100000 in
theorem c_ahead {l : Launch} {G : va_G} {cI cJ cO : ClassId} (h : Nat) (q : Nat → Nat) (v : Nat → Int) (a : Nat → Int → Int) (x y : Int)  (h1 : -2147483648 ≤ x ∧ x < 2147483648) (h2 : -2147483648 ≤ y ∧ y < 2147483648) (hWF : WF (a 11)) : zC l yX11_ahead wsX11_ahead { frames := 8, cells := 0, slots := 0, locals := 190 } G (tyZ cI cJ cO) (S := (Int → Int) × (Int → Int) × (Int → Int) × (Int → Int) × (Int → Int)) [.ref h, .int (iI x), .int (iI y)] (mW cI cJ h q v a) (zI (fun _ => A_ahead (a 11) x y)) (fun u => True) (fun u => mW cI cJ h q (uV v 0 0) (uA (uA (uA (uA (uA a 16 u.1) 17 u.2.1) 18 u.2.2.1) 19 u.2.2.2.1) 21 u.2.2.2.2)) 0 0 := by
  refine z_start (cc := cX11_ahead) (maxL := 6) (ret := (some .int)) (by decide) rfl (Nat.le_of_ble_eq_true rfl) ?_
  intro p e s m below meth c A ls F hr hlk hnm hAe hA hW hl
  have hx := F.1
  have hb := F.2.1
  have hown : s.vm.findClass RX11 = some m.cls := F.2.2.2.1
  have hts := F.2.2.2.2
  have hl : lv_has ls 6 [(0, .ref h), (1, .int (iI x)), (2, .int (iI y))] := hl
  obtain ⟨w0, w1, w2, hV, hls⟩ := id hWF
  refine lv_aload_n hx hb dX11_ahead_0 rfl (lv_at hl 0 rfl) ?_
  refine z_iconst (n := 0) hx hb dX11_ahead_1 ?_
  refine z_put hx hb hts hiX11_ahead_X11 tyX11 tyX11_ok nmX11 hown hW 0 0 1 rfl rfl (by decide) (Nat.le_of_ble_eq_true rfl) rfl rfl rfl rfl dX11_ahead_2 (fun H locs hW => ?_)
  have hW : zW G (tyZ cI cJ cO) A s (mW cI cJ h q (uV v 0 0) a) H locs := hW
  refine lv_aload_n hx hb dX11_ahead_5 rfl (lv_at hl 0 rfl) ?_
  refine lv_iload_n hx hb dX11_ahead_6 rfl (lv_at hl 1 rfl) ?_
  refine lv_iload_n hx hb dX11_ahead_7 rfl (lv_at hl 2 rfl) ?_
  refine z_callV (As := [.int (iI x), .int (iI y)]) (rest := []) F (c_isOf h q (uV v 0 0) a x y  (show -2147483648 ≤ x ∧ x < 2147483648 by omega) (show -2147483648 ≤ y ∧ y < 2147483648 by omega) hWF) gX11_ahead_X11_isOf rfl ziX11_isOf ⟨rfl, rfl, by decide, by decide⟩ rfl hl.1 rfl (Nat.le_of_ble_eq_true rfl) dX11_ahead_8 ⟨Nat.zero_le _, Nat.zero_le _⟩ hW hA [0, 1, 2, 3, 4, 5, 6, 7, 8, 9, 10] rfl (by decide) (fun _ => rfl) (fun _ => mW cI cJ h q (uV v 0 0) a) (fun _ => rfl) (fun _ => [.int (iI (bI (isO ((a 11)) x y)))]) (fun _ => rfl) 0 rfl rfl rfl (fun _ H locs hp8 hW => ?_)
  refine z_b_ne (tgt := 17) hx hb dX11_ahead_11 (by decide) (fun c11 => ?_) (fun c11 => ?_)
  · obtain ⟨hL, hT⟩ := hls x (by omega) (by omega)
    obtain ⟨l0, l1, l2, l3, l4, l5, l6, l7, l8, l9, l10, l11, l12, l13, l14, l15⟩ := id hL
    have hE := END_R (k := y) hL
    refine lv_aload_n hx hb dX11_ahead_17 rfl (lv_at hl 0 rfl) ?_
    refine lv_iload_n hx hb dX11_ahead_18 rfl (lv_at hl 1 rfl) ?_
    refine lv_iload_n hx hb dX11_ahead_19 rfl (lv_at hl 2 rfl) ?_
    refine z_callV (As := [.int (iI x), .int (iI y)]) (rest := []) F (c_laysSpreads h q (uV v 0 0) a x y  (show 0 ≤ x ∧ x < 6 by omega) (show LF ((a 11)) x 0 ≤ y ∧ y < LF ((a 11)) x 0 + LF ((a 11)) x 1 by omega) hV hL hT) gX11_ahead_X11_laysSpreads rfl ziX11_laysSpreads ⟨rfl, rfl, by decide, by decide⟩ rfl hl.1 rfl (Nat.le_of_ble_eq_true rfl) dX11_ahead_20 ⟨Nat.zero_le _, Nat.zero_le _⟩ hW hA [0, 1, 2, 3, 4, 5, 6, 7, 8, 9, 10] rfl (by decide) (fun _ => rfl) (fun u => mW cI cJ h q (uV v 0 0) (uA (uA (uA (uA (uA a 16 u.1) 17 u.2.1) 18 u.2.2.1) 19 u.2.2.2.1) 21 u.2.2.2.2)) (fun _ => rfl) (fun u => []) (fun _ => rfl) 0 rfl rfl rfl (fun u H locs hp20 hW => ?_)
    obtain ⟨f16_1, f17_2, f18_3, f19_4, f21_5⟩ := u
    have hp20 : ∀ j : Int, LF ((a 11)) x 0 ≤ j → j ≤ y → f21_5 (j - LF ((a 11)) x 0) = SPR ((a 11)) x j := hp20
    have hW : zW G (tyZ cI cJ cO) A s (mW cI cJ h q (uV v 0 0) (uA (uA (uA (uA (uA a 16 f16_1) 17 f17_2) 18 f18_3) 19 f19_4) 21 f21_5)) H locs := hW
    refine lv_aload_n hx hb dX11_ahead_23 rfl (lv_at hl 0 rfl) ?_
    refine lv_iload_n hx hb dX11_ahead_24 rfl (lv_at hl 1 rfl) ?_
    refine lv_iload_n hx hb dX11_ahead_25 rfl (lv_at hl 2 rfl) ?_
    refine z_callV (As := [.int (iI x), .int (iI y)]) (rest := []) F (c_laysRents h q (uV v 0 0) (uA (uA (uA (uA (uA a 16 f16_1) 17 f17_2) 18 f18_3) 19 f19_4) 21 f21_5) x y  (show 0 ≤ x ∧ x < 6 by omega) (show -2147483648 ≤ y ∧ y < 2147483648 by omega) hV hL hT) gX11_ahead_X11_laysRents rfl ziX11_laysRents ⟨rfl, rfl, by decide, by decide⟩ rfl hl.1 rfl (Nat.le_of_ble_eq_true rfl) dX11_ahead_26 ⟨Nat.zero_le _, Nat.zero_le _⟩ hW hA [0, 1, 2, 3, 4, 5, 6, 7, 8, 9, 10] rfl (by decide) (fun _ => rfl) (fun u => mW cI cJ h q (uV v 0 0) (uA (uA (uA (uA (uA a 21 f21_5) 16 u.1) 17 u.2.1) 18 u.2.2.1) 19 u.2.2.2)) (fun _ => rfl) (fun u => []) (fun _ => rfl) 0 rfl rfl rfl (fun u H locs hp26 hW => ?_)
    obtain ⟨f16_6, f17_7, f18_8, f19_9⟩ := u
    have hp26 : LD ((a 11)) x y (REV ((a 11)) x + 1) f16_6 f17_7 f18_8 f19_9 := hp26
    have hW : zW G (tyZ cI cJ cO) A s (mW cI cJ h q (uV v 0 0) (uA (uA (uA (uA (uA a 21 f21_5) 16 f16_6) 17 f17_7) 18 f18_8) 19 f19_9)) H locs := hW
    refine z_lconst (z := 0) hx hb dX11_ahead_29 (by decide +kernel) ?_
    refine lv_lstore_n (lv' := [(3, .long (lI 0)), (0, .ref h), (1, .int (iI x)), (2, .int (iI y))]) hx hb dX11_ahead_30 rfl hl (by decide) rfl (fun ls hl => ?_)
    refine lv_aload_n hx hb dX11_ahead_31 rfl (lv_at hl 1 rfl) ?_
    refine lv_iload_n hx hb dX11_ahead_32 rfl (lv_at hl 2 rfl) ?_
    refine z_iconst (n := 0) hx hb dX11_ahead_33 ?_
    refine z_callV (As := [.int (iI x), .int (iI 0)]) (rest := []) F (c_its h q (uV v 0 0) (uA (uA (uA (uA (uA a 21 f21_5) 16 f16_6) 17 f17_7) 18 f18_8) 19 f19_9) x 0  (show 0 ≤ 483 + 500 * x + 0 ∧ 483 + 500 * x + 0 < 3483 by omega)) gX11_ahead_X11_its rfl ziX11_its ⟨rfl, rfl, by decide, by decide⟩ rfl hl.1 rfl (Nat.le_of_ble_eq_true rfl) dX11_ahead_34 ⟨Nat.zero_le _, Nat.zero_le _⟩ hW hA [0, 1, 2, 3, 4, 5, 6, 7, 8, 9, 10] rfl (by decide) (fun _ => rfl) (fun _ => mW cI cJ h q (uV v 0 0) (uA (uA (uA (uA (uA a 21 f21_5) 16 f16_6) 17 f17_7) 18 f18_8) 19 f19_9)) (fun _ => rfl) (fun _ => [.int (iI (LF ((a 11)) x 0))]) (fun _ => rfl) 0 rfl rfl rfl (fun _ H locs hp34 hW => ?_)
    refine lv_istore (lv' := [(5, .int (iI (LF ((a 11)) x 0))), (3, .long (lI 0)), (0, .ref h), (1, .int (iI x)), (2, .int (iI y))]) hx hb dX11_ahead_37 hl (by decide) rfl (fun ls hl => ?_)
    refine z_loop2 (fun (n3 : Int) (x5 : Int) (ls : Array Slot) (H : Heap) (locs : List Loc) => (LF (a 11) x 0 ≤ x5 ∧ x5 ≤ y + 1 ∧ x5 ≤ END (a 11) x y) ∧ (n3 = SUM (fun j => SPR (a 11) x j - DUE (a 11) x y j) (LF (a 11) x 0) (x5 - LF (a 11) x 0).toNat) ∧ zW G (tyZ cI cJ cO) A s (mW cI cJ h q (uV v 0 0) (uA (uA (uA (uA (uA a 21 f21_5) 16 f16_6) 17 f17_7) 18 f18_8) 19 f19_9)) H locs ∧ lv_has ls 6 [(5, .int (iI x5)), (3, .long (lI n3)), (0, .ref h), (1, .int (iI x)), (2, .int (iI y))]) (fun n3 x5 => (y + 1 - x5).toNat) ?_ 0 (LF ((a 11)) x 0) _ _ _ ⟨(by omega), (by rw [show (LF (a 11) x 0 - LF (a 11) x 0).toNat = 0 by omega]; rfl), hW, (lv_sub hl [0, 1, 2, 3, 4] rfl)⟩
    intro n3 x5 ls H locs hI ih
    obtain ⟨k1, k2, hW, hl⟩ := hI
    refine lv_iload hx hb dX11_ahead_39 (lv_at hl 0 rfl) ?_
    refine lv_iload_n hx hb dX11_ahead_41 rfl (lv_at hl 4 rfl) ?_
    refine z_icmp_gt (tgt := 88) hx hb dX11_ahead_42 (by decide) ⟨by omega, by omega⟩ ⟨by omega, by omega⟩ (fun c42 => ?_) (fun c42 => ?_)
    · refine lv_lload_n hx hb dX11_ahead_88 rfl (lv_at hl 1 rfl) ?_
      refine z_l2i hx hb dX11_ahead_89 ?_
      exact z_iret hx hb hr hlk hW (⟨f16_6, f17_7, f18_8, f19_9, f21_5⟩) (by unfold A_ahead AHE; rw [if_pos c11, k2]; split <;> (congr 2; omega)) trivial rfl dX11_ahead_90
    · refine lv_iload hx hb dX11_ahead_45 (lv_at hl 0 rfl) ?_
      refine lv_aload_n hx hb dX11_ahead_47 rfl (lv_at hl 2 rfl) ?_
      refine lv_iload_n hx hb dX11_ahead_48 rfl (lv_at hl 3 rfl) ?_
      refine lv_iload_n hx hb dX11_ahead_49 rfl (lv_at hl 4 rfl) ?_
      refine z_callV (As := [.int (iI x), .int (iI y)]) (rest := [.int (iI x5)]) F (c_endOf h q (uV v 0 0) (uA (uA (uA (uA (uA a 21 f21_5) 16 f16_6) 17 f17_7) 18 f18_8) 19 f19_9) x y  (show 0 ≤ x ∧ x < 6 by omega) (show -2147483648 ≤ y ∧ y < 2147483648 by omega) (show 0 ≤ LF ((a 11)) x 13 ∧ LF ((a 11)) x 13 ≤ 240 by omega)) gX11_ahead_X11_endOf rfl ziX11_endOf ⟨rfl, rfl, by decide, by decide⟩ rfl hl.1 rfl (Nat.le_of_ble_eq_true rfl) dX11_ahead_50 ⟨Nat.zero_le _, Nat.zero_le _⟩ hW hA [0, 1, 2, 3, 4, 5, 6, 7, 8, 9, 10] rfl (by decide) (fun _ => rfl) (fun _ => mW cI cJ h q (uV v 0 0) (uA (uA (uA (uA (uA a 21 f21_5) 16 f16_6) 17 f17_7) 18 f18_8) 19 f19_9)) (fun _ => rfl) (fun _ => [.int (iI (END ((a 11)) x y)), .int (iI x5)]) (fun _ => rfl) 0 rfl rfl rfl (fun _ H locs hp50 hW => ?_)
      refine z_icmp_ge (tgt := 88) hx hb dX11_ahead_53 (by decide) ⟨by omega, by omega⟩ ⟨by omega, by omega⟩ (fun c53 => ?_) (fun c53 => ?_)
      · refine lv_lload_n hx hb dX11_ahead_88 rfl (lv_at hl 1 rfl) ?_
        refine z_l2i hx hb dX11_ahead_89 ?_
        exact z_iret hx hb hr hlk hW (⟨f16_6, f17_7, f18_8, f19_9, f21_5⟩) (by unfold A_ahead AHE; rw [if_pos c11, k2]; split <;> (congr 2; omega)) trivial rfl dX11_ahead_90
      · have hdr := DUE_R (k := y) (y := x5) hL
        refine lv_lload_n hx hb dX11_ahead_56 rfl (lv_at hl 1 rfl) ?_
        refine lv_aload_n hx hb dX11_ahead_57 rfl (lv_at hl 2 rfl) ?_
        refine z_get (v := .ref (q 21)) hx hb hts hiX11_ahead_X11 hown hW 0 21 3 rfl rfl rfl (by decide) rfl dX11_ahead_58 ?_
        refine lv_iload hx hb dX11_ahead_61 (lv_at hl 0 rfl) ?_
        refine lv_aload_n hx hb dX11_ahead_63 rfl (lv_at hl 2 rfl) ?_
        refine lv_iload_n hx hb dX11_ahead_64 rfl (lv_at hl 3 rfl) ?_
        refine z_iconst (n := 0) hx hb dX11_ahead_65 ?_
        refine z_callV (As := [.int (iI x), .int (iI 0)]) (rest := [.int (iI x5), .ref (q 21), .long (lI n3)]) F (c_its h q (uV v 0 0) (uA (uA (uA (uA (uA a 21 f21_5) 16 f16_6) 17 f17_7) 18 f18_8) 19 f19_9) x 0  (show 0 ≤ 483 + 500 * x + 0 ∧ 483 + 500 * x + 0 < 3483 by omega)) gX11_ahead_X11_its rfl ziX11_its ⟨rfl, rfl, by decide, by decide⟩ rfl hl.1 rfl (Nat.le_of_ble_eq_true rfl) dX11_ahead_66 ⟨Nat.zero_le _, Nat.zero_le _⟩ hW hA [0, 1, 2, 3, 4, 5, 6, 7, 8, 9, 10] rfl (by decide) (fun _ => rfl) (fun _ => mW cI cJ h q (uV v 0 0) (uA (uA (uA (uA (uA a 21 f21_5) 16 f16_6) 17 f17_7) 18 f18_8) 19 f19_9)) (fun _ => rfl) (fun _ => [.int (iI (LF ((a 11)) x 0)), .int (iI x5), .ref (q 21), .long (lI n3)]) (fun _ => rfl) 0 rfl rfl rfl (fun _ H locs hp66 hW => ?_)
        refine z_isub hx hb dX11_ahead_69 ?_
        refine z_lald (f := f21_5) (i := x5 - (LF ((a 11)) x 0)) hx hb hW 10 1 rfl rfl (by decide) ⟨by omega, by omega⟩ dX11_ahead_70 ?_
        refine lv_aload_n hx hb dX11_ahead_71 rfl (lv_at hl 2 rfl) ?_
        refine lv_iload_n hx hb dX11_ahead_72 rfl (lv_at hl 3 rfl) ?_
        refine lv_iload hx hb dX11_ahead_73 (lv_at hl 0 rfl) ?_
        refine z_callV (As := [.int (iI x), .int (iI x5)]) (rest := [.long (lI (f21_5 (x5 - (LF ((a 11)) x 0)))), .long (lI n3)]) F (c_dueLaid h q (uV v 0 0) (uA (uA (uA (uA (uA a 21 f21_5) 16 f16_6) 17 f17_7) 18 f18_8) 19 f19_9) x x5 y (show 0 ≤ x ∧ x < 6 by omega) (show LF ((a 11)) x 0 ≤ x5 ∧ x5 ≤ LF ((a 11)) x 0 + 239 by omega) hL (show ∀ r : Int, 0 ≤ r → r ≤ REV ((a 11)) x → f17_7 r = RNT ((a 11)) x y r.toNat by exact fun r r0 r1 => (hp26 r r0 (by omega)).1)) gX11_ahead_X11_dueLaid rfl ziX11_dueLaid ⟨rfl, rfl, by decide, by decide⟩ rfl hl.1 rfl (Nat.le_of_ble_eq_true rfl) dX11_ahead_75 ⟨Nat.zero_le _, Nat.zero_le _⟩ hW hA [0, 1, 2, 3, 4, 5, 6, 7, 8, 9, 10] rfl (by decide) (fun _ => rfl) (fun _ => mW cI cJ h q (uV v 0 0) (uA (uA (uA (uA (uA a 21 f21_5) 16 f16_6) 17 f17_7) 18 f18_8) 19 f19_9)) (fun _ => rfl) (fun _ => [.int (iI (DUE ((a 11)) x y x5)), .long (lI (f21_5 (x5 - (LF ((a 11)) x 0)))), .long (lI n3)]) (fun _ => rfl) 0 rfl rfl rfl (fun _ H locs hp75 hW => ?_)
        refine z_i2l hx hb dX11_ahead_78 ⟨by omega, by omega⟩ ?_
        refine z_lsub hx hb dX11_ahead_79 ?_
        refine z_ladd hx hb dX11_ahead_80 ?_
        refine lv_lstore_n (lv' := [(3, .long (lI (n3 + ((f21_5 (x5 - (LF ((a 11)) x 0))) - (DUE ((a 11)) x y x5))))), (5, .int (iI x5)), (0, .ref h), (1, .int (iI x)), (2, .int (iI y))]) hx hb dX11_ahead_81 rfl hl (by decide) rfl (fun ls hl => ?_)
        refine z_iinc (k := 1) (lv' := [(5, .int (iI (x5 + 1))), (3, .long (lI (n3 + ((f21_5 (x5 - (LF ((a 11)) x 0))) - (DUE ((a 11)) x y x5))))), (0, .ref h), (1, .int (iI x)), (2, .int (iI y))]) hx hb dX11_ahead_82 hl rfl (by decide) rfl (fun ls hl => ?_)
        refine lv_goto (tgt := 39) hx hb dX11_ahead_85 (by decide) ?_
        exact ih (n3 + ((f21_5 (x5 - (LF ((a 11)) x 0))) - (DUE ((a 11)) x y x5))) (x5 + 1) _ _ _ ⟨(by omega), (by rw [SUM_succ (by omega), ← k2, hp20 x5 (by omega) (by omega)]), hW, (lv_sub hl [0, 1, 2, 3, 4] rfl)⟩ (by omega)
  · refine z_ldc hx hb (-100000000) hown (hts _ (List.mem_of_getElem? (i := 2) rfl)) (by decide +kernel) dX11_ahead_14 ?_
    exact z_iret hx hb hr hlk hW (⟨a 16, a 17, a 18, a 19, a 21⟩) (by unfold A_ahead; exact if_neg c11) trivial rfl dX11_ahead_16
theorem hiX11_whyNot_X11 : ∀ w ∈ wsX110, w ∈ wsX11_whyNot := fun _ h => List.mem_cons_of_mem _ (List.mem_append_right _ h)
theorem ziX11_whyNot : yX11_whyNot.cls = RX11 ∧ yX11_whyNot.cls ≠ "java/lang/invoke/MethodHandle" ∧ yX11_whyNot.cls ≠ "java/lang/invoke/VarHandle" ∧ (parseMethodDescriptor yX11_whyNot.desc).map (fun d => d.parameters.length) = some 2 := by decide +kernel
set_option maxHeartbeats 4000000 in
set_option maxRecDepth 100000 in
theorem c_whyNot {l : Launch} {G : va_G} {cI cJ cO : ClassId} (h : Nat) (q : Nat → Nat) (v : Nat → Int) (a : Nat → Int → Int) (y z : Int)  (h1 : -2147483648 ≤ y ∧ y < 2147483648) (h2 : -2147483648 ≤ z ∧ z < 2147483648) (hV : WFv (a 11)) : zC l yX11_whyNot wsX11_whyNot { frames := 2, cells := 0, slots := 0, locals := 42 } G (tyZ cI cJ cO) (S := Unit) [.ref h, .int (iI y), .int (iI z)] (mW cI cJ h q v a) (zI (fun _ => WHY (a 11) y z)) (fun _ => True) (fun _ => mW cI cJ h q v a) 0 0 := by
  refine z_start (cc := cX11_whyNot) (maxL := 3) (ret := (some .int)) (by decide) rfl (Nat.le_of_ble_eq_true rfl) ?_
  intro p e s m below meth c A ls F hr hlk hnm hAe hA hW hl
  have hx := F.1
  have hb := F.2.1
  have hown : s.vm.findClass RX11 = some m.cls := F.2.2.2.1
  have hts := F.2.2.2.2
  have hl : lv_has ls 3 [(0, .ref h), (1, .int (iI y)), (2, .int (iI z))] := hl
  refine lv_iload_n hx hb dX11_whyNot_0 rfl (lv_at hl 1 rfl) ?_
  refine z_callS (As := [.int (iI y)]) (rest := []) F (c_isMonth y  (show -2147483648 ≤ y ∧ y < 2147483648 by omega)) gX11_whyNot_X11_isMonth rfl ziX11_isMonth ⟨rfl, rfl, by decide, by decide⟩ rfl hl.1 rfl (Nat.le_of_ble_eq_true rfl) dX11_whyNot_1 ⟨Nat.zero_le _, Nat.zero_le _⟩ hW hA [] rfl (by decide) (fun _ => rfl) (fun _ => mW cI cJ h q v a) (fun _ => rfl) (fun _ => [.int (iI (bI (0 ≤ y ∧ y ≤ 239)))]) (fun _ => rfl) (fun _ H locs hp1 hW => ?_)
  refine z_b_eq (tgt := 29) hx hb dX11_whyNot_4 (by decide) (fun c4 => ?_) (fun c4 => ?_)
  · refine z_iconst (n := -1) hx hb dX11_whyNot_29 ?_
    exact z_iret hx hb hr hlk hW () (by unfold WHY; first | (rw [if_pos ⟨c4, c15, by omega⟩]; first | exact if_pos (by omega) | exact if_neg (by omega)) | exact if_neg (fun q9 => by first | exact c4 q9.1 | exact c15 q9.2.1 | (have q8 := q9.2.2; omega))) trivial rfl dX11_whyNot_30
  · refine lv_iload_n hx hb dX11_whyNot_7 rfl (lv_at hl 2 rfl) ?_
    refine z_iconst (n := 1) hx hb dX11_whyNot_8 ?_
    refine z_sipush hx hb dX11_whyNot_9 (by decide +kernel) ?_
    refine z_callS (As := [.int (iI z), .int (iI 1), .int (iI 9999)]) (rest := []) F (c_isIn z 1 9999  (show -2147483648 ≤ z ∧ z < 2147483648 by omega) (show -2147483648 ≤ 1 ∧ 1 < 2147483648 by omega) (show -2147483648 ≤ 9999 ∧ 9999 < 2147483648 by omega)) gX11_whyNot_X11_isIn rfl ziX11_isIn ⟨rfl, rfl, by decide, by decide⟩ rfl hl.1 rfl (Nat.le_of_ble_eq_true rfl) dX11_whyNot_12 ⟨Nat.zero_le _, Nat.zero_le _⟩ hW hA [] rfl (by decide) (fun _ => rfl) (fun _ => mW cI cJ h q v a) (fun _ => rfl) (fun _ => [.int (iI (bI (1 ≤ z ∧ z ≤ 9999)))]) (fun _ => rfl) (fun _ H locs hp12 hW => ?_)
    refine z_b_eq (tgt := 29) hx hb dX11_whyNot_15 (by decide) (fun c15 => ?_) (fun c15 => ?_)
    · refine z_iconst (n := -1) hx hb dX11_whyNot_29 ?_
      exact z_iret hx hb hr hlk hW () (by unfold WHY; first | (rw [if_pos ⟨c4, c15, by omega⟩]; first | exact if_pos (by omega) | exact if_neg (by omega)) | exact if_neg (fun q9 => by first | exact c4 q9.1 | exact c15 q9.2.1 | (have q8 := q9.2.2; omega))) trivial rfl dX11_whyNot_30
    · have hv := hV y c4.1 c4.2
      refine lv_aload_n hx hb dX11_whyNot_18 rfl (lv_at hl 0 rfl) ?_
      refine z_get (v := .ref (q 11)) hx hb hts hiX11_whyNot_X11 hown hW 0 11 1 rfl rfl rfl (by decide) rfl dX11_whyNot_19 ?_
      refine z_iconst (n := 3) hx hb dX11_whyNot_22 ?_
      refine lv_iload_n hx hb dX11_whyNot_23 rfl (lv_at hl 1 rfl) ?_
      refine z_iadd hx hb dX11_whyNot_24 ?_
      refine z_iald (f := a 11) (i := 3 + y) hx hb hW 2 0 rfl rfl (by decide) ⟨by omega, by omega⟩ dX11_whyNot_25 ?_
      refine z_if_le (tgt := 31) hx hb dX11_whyNot_26 (by decide) ⟨by omega, by omega⟩ (fun c26 => ?_) (fun c26 => ?_)
      · have cr := CNTV_R (N := a 11) 240
        refine lv_aload_n hx hb dX11_whyNot_31 rfl (lv_at hl 0 rfl) ?_
        refine z_callV (As := []) (rest := []) F (c_valueMany h q v a   hV) gX11_whyNot_X11_valueMany rfl ziX11_valueMany ⟨rfl, rfl, by decide, by decide⟩ rfl hl.1 rfl (Nat.le_of_ble_eq_true rfl) dX11_whyNot_32 ⟨Nat.zero_le _, Nat.zero_le _⟩ hW hA [0, 1, 2, 3, 4, 5, 6, 7, 8, 9, 10] rfl (by decide) (fun _ => rfl) (fun _ => mW cI cJ h q v a) (fun _ => rfl) (fun _ => [.int (iI (CNTV ((a 11)) 240))]) (fun _ => rfl) 0 rfl rfl rfl (fun _ H locs hp32 hW => ?_)
        refine z_bipush hx hb dX11_whyNot_35 (by decide +kernel) ?_
        refine z_icmp_ne (tgt := 45) hx hb dX11_whyNot_37 (by decide) ⟨by omega, by omega⟩ (by decide) (fun c37 => ?_) (fun c37 => ?_)
        · refine z_iconst (n := 0) hx hb dX11_whyNot_45 ?_
          exact z_iret hx hb hr hlk hW () (by unfold WHY; first | (rw [if_pos ⟨c4, c15, by omega⟩]; first | exact if_pos (by omega) | exact if_neg (by omega)) | exact if_neg (fun q9 => by first | exact c4 q9.1 | exact c15 q9.2.1 | (have q8 := q9.2.2; omega))) trivial rfl dX11_whyNot_46
        · refine z_bipush hx hb dX11_whyNot_40 (by decide +kernel) ?_
          refine lv_goto (tgt := 46) hx hb dX11_whyNot_42 (by decide) ?_
          exact z_iret hx hb hr hlk hW () (by unfold WHY; first | (rw [if_pos ⟨c4, c15, by omega⟩]; first | exact if_pos (by omega) | exact if_neg (by omega)) | exact if_neg (fun q9 => by first | exact c4 q9.1 | exact c15 q9.2.1 | (have q8 := q9.2.2; omega))) trivial rfl dX11_whyNot_46
      · refine z_iconst (n := -1) hx hb dX11_whyNot_29 ?_
        exact z_iret hx hb hr hlk hW () (by unfold WHY; first | (rw [if_pos ⟨c4, c15, by omega⟩]; first | exact if_pos (by omega) | exact if_neg (by omega)) | exact if_neg (fun q9 => by first | exact c4 q9.1 | exact c15 q9.2.1 | (have q8 := q9.2.2; omega))) trivial rfl dX11_whyNot_30
theorem hiX11_tells_X11 : ∀ w ∈ wsX110, w ∈ wsX11_tells := fun _ h => List.mem_cons_of_mem _ (List.mem_append_right _ h)
theorem ziX11_tells : yX11_tells.cls = RX11 ∧ yX11_tells.cls ≠ "java/lang/invoke/MethodHandle" ∧ yX11_tells.cls ≠ "java/lang/invoke/VarHandle" ∧ (parseMethodDescriptor yX11_tells.desc).map (fun d => d.parameters.length) = some 2 := by decide +kernel
set_option maxHeartbeats 4000000 in
set_option maxRecDepth 100000 in
theorem c_tells {l : Launch} {G : va_G} {cI cJ cO : ClassId} (h : Nat) (q : Nat → Nat) (v : Nat → Int) (a : Nat → Int → Int) (y z : Int)  (h1 : 0 ≤ y ∧ y ≤ 239) (h2 : -2147483648 ≤ z ∧ z < 2147483648) : zC l yX11_tells wsX11_tells { frames := 0, cells := 0, slots := 0, locals := 0 } G (tyZ cI cJ cO) (S := (Int → Int)) [.ref h, .int (iI y), .int (iI z)] (mW cI cJ h q v a) (zN) (fun u => u = uI (uI (a 11) (3 + y) z) (243 + y) (if z = 0 then 0 else a 11 0)) (fun u => mW cI cJ h q v (uA a 11 u)) 0 0 := by
  refine z_start (cc := cX11_tells) (maxL := 3) (ret := none) (by decide) rfl (Nat.le_of_ble_eq_true rfl) ?_
  intro p e s m below meth c A ls F hr hlk hnm hAe hA hW hl
  have hx := F.1
  have hb := F.2.1
  have hown : s.vm.findClass RX11 = some m.cls := F.2.2.2.1
  have hts := F.2.2.2.2
  have hl : lv_has ls 3 [(0, .ref h), (1, .int (iI y)), (2, .int (iI z))] := hl
  refine lv_aload_n hx hb dX11_tells_0 rfl (lv_at hl 0 rfl) ?_
  refine z_get (v := .ref (q 11)) hx hb hts hiX11_tells_X11 hown hW 0 11 1 rfl rfl rfl (by decide) rfl dX11_tells_1 ?_
  refine z_iconst (n := 3) hx hb dX11_tells_4 ?_
  refine lv_iload_n hx hb dX11_tells_5 rfl (lv_at hl 1 rfl) ?_
  refine z_iadd hx hb dX11_tells_6 ?_
  refine lv_iload_n hx hb dX11_tells_7 rfl (lv_at hl 2 rfl) ?_
  refine z_iast (f := a 11) (i := 3 + y) (z := z) hx hb hW 2 0 rfl rfl (by decide) ⟨by omega, by omega⟩ dX11_tells_8 (fun H locs hW => ?_)
  have hW : zW G (tyZ cI cJ cO) A s (mW cI cJ h q v (uA a 11 (uI (a 11) (3 + y) z))) H locs := hW
  refine lv_aload_n hx hb dX11_tells_9 rfl (lv_at hl 0 rfl) ?_
  refine z_get (v := .ref (q 11)) hx hb hts hiX11_tells_X11 hown hW 0 11 1 rfl rfl rfl (by decide) rfl dX11_tells_10 ?_
  refine z_sipush hx hb dX11_tells_13 (by decide +kernel) ?_
  refine lv_iload_n hx hb dX11_tells_16 rfl (lv_at hl 1 rfl) ?_
  refine z_iadd hx hb dX11_tells_17 ?_
  refine lv_iload_n hx hb dX11_tells_18 rfl (lv_at hl 2 rfl) ?_
  refine z_if_ne (tgt := 26) hx hb dX11_tells_19 (by decide) ⟨by omega, by omega⟩ (fun c19 => ?_) (fun c19 => ?_)
  · refine lv_aload_n hx hb dX11_tells_26 rfl (lv_at hl 0 rfl) ?_
    refine z_get (v := .ref (q 11)) hx hb hts hiX11_tells_X11 hown hW 0 11 1 rfl rfl rfl (by decide) rfl dX11_tells_27 ?_
    refine z_iconst (n := 0) hx hb dX11_tells_30 ?_
    refine z_iald (f := uI (a 11) (3 + y) z) (i := 0) hx hb hW 2 0 rfl rfl (by decide) ⟨by omega, by omega⟩ dX11_tells_31 ?_
    rw [uI_n (f := a 11) (i := 3 + y) (j := 0) (z := z) (by omega)]
    refine z_iast (f := uI (a 11) (3 + y) z) (i := 243 + y) (z := (a 11) 0) hx hb hW 2 0 rfl rfl (by decide) ⟨by omega, by omega⟩ dX11_tells_32 (fun H locs hW => ?_)
    have hW : zW G (tyZ cI cJ cO) A s (mW cI cJ h q v (uA a 11 (uI (uI (a 11) (3 + y) z) (243 + y) ((a 11) 0)))) H locs := hW
    exact z_vret hx hb hr hlk hW (uI (uI (a 11) (3 + y) z) (243 + y) ((a 11) 0)) (by first | (rw [if_pos (by omega)]; done) | (rw [if_neg (by omega)]; done)) rfl dX11_tells_33
  · refine z_iconst (n := 0) hx hb dX11_tells_22 ?_
    refine lv_goto (tgt := 32) hx hb dX11_tells_23 (by decide) ?_
    refine z_iast (f := uI (a 11) (3 + y) z) (i := 243 + y) (z := 0) hx hb hW 2 0 rfl rfl (by decide) ⟨by omega, by omega⟩ dX11_tells_32 (fun H locs hW => ?_)
    have hW : zW G (tyZ cI cJ cO) A s (mW cI cJ h q v (uA a 11 (uI (uI (a 11) (3 + y) z) (243 + y) 0))) H locs := hW
    exact z_vret hx hb hr hlk hW (uI (uI (a 11) (3 + y) z) (243 + y) 0) (by first | (rw [if_pos (by omega)]; done) | (rw [if_neg (by omega)]; done)) rfl dX11_tells_33
theorem hiX11_snap_X11 : ∀ w ∈ wsX110, w ∈ wsX11_snap := fun _ h => List.mem_cons_of_mem _ (List.mem_append_right _ h)
theorem ziX11_snap : yX11_snap.cls = RX11 ∧ yX11_snap.cls ≠ "java/lang/invoke/MethodHandle" ∧ yX11_snap.cls ≠ "java/lang/invoke/VarHandle" ∧ (parseMethodDescriptor yX11_snap.desc).map (fun d => d.parameters.length) = some 0 := by decide +kernel
set_option maxHeartbeats 4000000 in
set_option maxRecDepth 100000 in
theorem c_snap {l : Launch} {G : va_G} {cI cJ cO : ClassId} (h : Nat) (q : Nat → Nat) (v : Nat → Int) (a : Nat → Int → Int)   (h1 : 0 ≤ v 14 ∧ v 14 ≤ 10) : zC l yX11_snap wsX11_snap { frames := 0, cells := 0, slots := 0, locals := 0 } G (tyZ cI cJ cO) (S := Int × (Int → Int)) [.ref h] (mW cI cJ h q v a) (zN) (fun u => SNAPPED (a 13) (a 11) (v 14) u.2 u.1) (fun u => mW cI cJ h q (uV v 14 u.1) (uA a 13 u.2)) 0 0 := by
  refine z_start (cc := cX11_snap) (maxL := 2) (ret := none) (by decide) rfl (Nat.le_of_ble_eq_true rfl) ?_
  intro p e s m below meth c A ls F hr hlk hnm hAe hA hW hl
  have hx := F.1
  have hb := F.2.1
  have hown : s.vm.findClass RX11 = some m.cls := F.2.2.2.1
  have hts := F.2.2.2.2
  have hl : lv_has ls 2 [(0, .ref h)] := hl
  refine z_join2 (fun (s14 : Int) (f13 : Int → Int) (ls : Array Slot) (H : Heap) (locs : List Loc) => (0 ≤ s14 ∧ s14 ≤ 9) ∧ ((v 14 = 10 ∧ s14 = 9 ∧ ∀ j : Int, 0 ≤ j → j < 31347 → f13 j = a 13 (j + 3483)) ∨ (v 14 ≠ 10 ∧ s14 = v 14 ∧ f13 = a 13)) ∧ zW G (tyZ cI cJ cO) A s (mW cI cJ h q (uV v 14 s14) (uA a 13 f13)) H locs ∧ lv_has ls 2 [(0, .ref h)]) 50 (fun s14 f13 => []) ?_ ?_
  · intro s14 f13 ls H locs hJ
    obtain ⟨g1, g2, hW, hl⟩ := hJ
    refine z_iconst (n := 0) hx hb dX11_snap_50 ?_
    refine lv_istore_n (lv' := [(1, .int (iI 0)), (0, .ref h)]) hx hb dX11_snap_51 rfl hl (by decide) rfl (fun ls hl => ?_)
    refine z_loop2 (fun (x1 : Int) (g13 : Int → Int) (ls : Array Slot) (H : Heap) (locs : List Loc) => (0 ≤ x1 ∧ x1 ≤ 3483) ∧ (∀ j : Int, 0 ≤ j → j < 34830 → g13 j = if 3483 * s14 ≤ j ∧ j < 3483 * s14 + x1 then a 11 (j - 3483 * s14) else f13 j) ∧ zW G (tyZ cI cJ cO) A s (mW cI cJ h q (uV v 14 s14) (uA a 13 g13)) H locs ∧ lv_has ls 2 [(1, .int (iI x1)), (0, .ref h)]) (fun x1 g13 => (3483 - x1).toNat) ?_ 0 f13 _ _ _ ⟨(by omega), (fun j j0 j1 => (if_neg (by omega)).symm), hW, (lv_sub hl [0, 1] rfl)⟩
    intro x1 g13 ls H locs hI ih
    obtain ⟨k1, k2, hW, hl⟩ := hI
    refine lv_iload_n hx hb dX11_snap_52 rfl (lv_at hl 0 rfl) ?_
    refine z_sipush hx hb dX11_snap_53 (by decide +kernel) ?_
    refine z_icmp_ge (tgt := 86) hx hb dX11_snap_56 (by decide) ⟨by omega, by omega⟩ (by decide) (fun c56 => ?_) (fun c56 => ?_)
    · have ex : x1 = 3483 := by omega
      subst ex
      refine lv_aload_n hx hb dX11_snap_86 rfl (lv_at hl 1 rfl) ?_
      refine lv_dup hx hb dX11_snap_87 rfl ?_
      refine z_get (v := .int (iI s14)) hx hb hts hiX11_snap_X11 hown hW 0 14 1 rfl rfl rfl (by decide) rfl dX11_snap_88 ?_
      refine z_iconst (n := 1) hx hb dX11_snap_91 ?_
      refine z_iadd hx hb dX11_snap_92 ?_
      refine z_put hx hb hts hiX11_snap_X11 tyX11 tyX11_ok nmX11 hown hW 0 14 1 rfl rfl (by decide) (Nat.le_of_ble_eq_true rfl) rfl rfl rfl rfl dX11_snap_93 (fun H locs hW => ?_)
      have hW : zW G (tyZ cI cJ cO) A s (mW cI cJ h q (uV v 14 (s14 + 1)) (uA a 13 g13)) H locs := hW
      exact z_vret hx hb hr hlk hW (⟨s14 + 1, g13⟩) (by show SNAPPED (a 13) (a 11) (v 14) g13 (s14 + 1); rcases g2 with ⟨e1, e2, e3⟩ | ⟨e1, e2, e3⟩; (rw [e1]; subst e2; exact SNAP_9 e3 k2); (subst e2; subst e3; exact SNAP_c e1 k2)) rfl dX11_snap_96
    · refine lv_aload_n hx hb dX11_snap_59 rfl (lv_at hl 1 rfl) ?_
      refine z_get (v := .ref (q 13)) hx hb hts hiX11_snap_X11 hown hW 0 13 2 rfl rfl rfl (by decide) rfl dX11_snap_60 ?_
      refine z_sipush hx hb dX11_snap_63 (by decide +kernel) ?_
      refine lv_aload_n hx hb dX11_snap_66 rfl (lv_at hl 1 rfl) ?_
      refine z_get (v := .int (iI s14)) hx hb hts hiX11_snap_X11 hown hW 0 14 1 rfl rfl rfl (by decide) rfl dX11_snap_67 ?_
      refine z_imul hx hb dX11_snap_70 ?_
      refine lv_iload_n hx hb dX11_snap_71 rfl (lv_at hl 0 rfl) ?_
      refine z_iadd hx hb dX11_snap_72 ?_
      refine lv_aload_n hx hb dX11_snap_73 rfl (lv_at hl 1 rfl) ?_
      refine z_get (v := .ref (q 11)) hx hb hts hiX11_snap_X11 hown hW 0 11 3 rfl rfl rfl (by decide) rfl dX11_snap_74 ?_
      refine lv_iload_n hx hb dX11_snap_77 rfl (lv_at hl 0 rfl) ?_
      refine z_iald (f := a 11) (i := x1) hx hb hW 2 0 rfl rfl (by decide) ⟨by omega, by omega⟩ dX11_snap_78 ?_
      refine z_iast (f := g13) (i := (3483 * s14) + x1) (z := (a 11) x1) hx hb hW 4 0 rfl rfl (by decide) ⟨by omega, by omega⟩ dX11_snap_79 (fun H locs hW => ?_)
      have hW : zW G (tyZ cI cJ cO) A s (mW cI cJ h q (uV v 14 s14) (uA a 13 (uI g13 ((3483 * s14) + x1) ((a 11) x1)))) H locs := hW
      refine z_iinc (k := 0) (lv' := [(1, .int (iI (x1 + 1))), (0, .ref h)]) hx hb dX11_snap_80 hl rfl (by decide) rfl (fun ls hl => ?_)
      refine lv_goto (tgt := 52) hx hb dX11_snap_83 (by decide) ?_
      exact ih (x1 + 1) (uI g13 ((3483 * s14) + x1) ((a 11) x1)) _ _ _ ⟨(by omega), (fun j j0 j1 => by by_cases je : j = 3483 * s14 + x1; (subst je; rw [uI_s, if_pos (by omega), show 3483 * s14 + x1 - 3483 * s14 = x1 by omega]); (rw [uI_n je, k2 j j0 j1]; by_cases jl : 3483 * s14 ≤ j ∧ j < 3483 * s14 + x1; (rw [if_pos jl, if_pos (by omega)]); (rw [if_neg jl, if_neg (by omega)]))), hW, (lv_sub hl [0, 1] rfl)⟩ (by omega)
  · intro J1
    refine lv_aload_n hx hb dX11_snap_0 rfl (lv_at hl 0 rfl) ?_
    refine z_get (v := .int (iI (v 14))) hx hb hts hiX11_snap_X11 hown hW 0 14 1 rfl rfl rfl (by decide) rfl dX11_snap_1 ?_
    refine z_bipush hx hb dX11_snap_4 (by decide +kernel) ?_
    refine z_icmp_ne (tgt := 50) hx hb dX11_snap_6 (by decide) ⟨by omega, by omega⟩ (by decide) (fun c6 => ?_) (fun c6 => ?_)
    · exact J1 (v 14) (a 13) _ _ _ ⟨(by omega), (Or.inr ⟨c6, rfl, rfl⟩), hW, (lv_sub hl [0] rfl)⟩
    · refine z_iconst (n := 0) hx hb dX11_snap_9 ?_
      refine lv_istore_n (lv' := [(1, .int (iI 0)), (0, .ref h)]) hx hb dX11_snap_10 rfl hl (by decide) rfl (fun ls hl => ?_)
      refine z_loop2 (fun (x1 : Int) (f13 : Int → Int) (ls : Array Slot) (H : Heap) (locs : List Loc) => (0 ≤ x1 ∧ x1 ≤ 31347) ∧ (∀ j : Int, 0 ≤ j → j < 34830 → f13 j = if j < x1 then a 13 (j + 3483) else a 13 j) ∧ zW G (tyZ cI cJ cO) A s (mW cI cJ h q v (uA a 13 f13)) H locs ∧ lv_has ls 2 [(1, .int (iI x1)), (0, .ref h)]) (fun x1 f13 => (31347 - x1).toNat) ?_ 0 (a 13) _ _ _ ⟨(by omega), (fun j j0 j1 => (if_neg (by omega)).symm), hW, (lv_sub hl [0, 1] rfl)⟩
      intro x1 f13 ls H locs hI ih
      obtain ⟨i1, i2, hW, hl⟩ := hI
      refine lv_iload_n hx hb dX11_snap_11 rfl (lv_at hl 0 rfl) ?_
      refine z_sipush hx hb dX11_snap_12 (by decide +kernel) ?_
      refine z_icmp_ge (tgt := 40) hx hb dX11_snap_15 (by decide) ⟨by omega, by omega⟩ (by decide) (fun c15 => ?_) (fun c15 => ?_)
      · refine lv_aload_n hx hb dX11_snap_40 rfl (lv_at hl 1 rfl) ?_
        refine lv_dup hx hb dX11_snap_41 rfl ?_
        refine z_get (v := .int (iI (v 14))) hx hb hts hiX11_snap_X11 hown hW 0 14 1 rfl rfl rfl (by decide) rfl dX11_snap_42 ?_
        refine z_iconst (n := 1) hx hb dX11_snap_45 ?_
        refine z_isub hx hb dX11_snap_46 ?_
        refine z_put hx hb hts hiX11_snap_X11 tyX11 tyX11_ok nmX11 hown hW 0 14 1 rfl rfl (by decide) (Nat.le_of_ble_eq_true rfl) rfl rfl rfl rfl dX11_snap_47 (fun H locs hW => ?_)
        have hW : zW G (tyZ cI cJ cO) A s (mW cI cJ h q (uV v 14 ((v 14) - 1)) (uA a 13 f13)) H locs := hW
        exact J1 ((v 14) - 1) f13 _ _ _ ⟨(by omega), (Or.inl ⟨c6, by omega, fun j j0 j1 => by rw [i2 j j0 (by omega), if_pos (by omega)]⟩), hW, (lv_sub hl [1] rfl)⟩
      · refine lv_aload_n hx hb dX11_snap_18 rfl (lv_at hl 1 rfl) ?_
        refine z_get (v := .ref (q 13)) hx hb hts hiX11_snap_X11 hown hW 0 13 2 rfl rfl rfl (by decide) rfl dX11_snap_19 ?_
        refine lv_iload_n hx hb dX11_snap_22 rfl (lv_at hl 0 rfl) ?_
        refine lv_aload_n hx hb dX11_snap_23 rfl (lv_at hl 1 rfl) ?_
        refine z_get (v := .ref (q 13)) hx hb hts hiX11_snap_X11 hown hW 0 13 2 rfl rfl rfl (by decide) rfl dX11_snap_24 ?_
        refine lv_iload_n hx hb dX11_snap_27 rfl (lv_at hl 0 rfl) ?_
        refine z_sipush hx hb dX11_snap_28 (by decide +kernel) ?_
        refine z_iadd hx hb dX11_snap_31 ?_
        refine z_iald (f := f13) (i := x1 + 3483) hx hb hW 4 0 rfl rfl (by decide) ⟨by omega, by omega⟩ dX11_snap_32 ?_
        refine z_iast (f := f13) (i := x1) (z := f13 (x1 + 3483)) hx hb hW 4 0 rfl rfl (by decide) ⟨by omega, by omega⟩ dX11_snap_33 (fun H locs hW => ?_)
        have hW : zW G (tyZ cI cJ cO) A s (mW cI cJ h q v (uA a 13 (uI f13 x1 (f13 (x1 + 3483))))) H locs := hW
        refine z_iinc (k := 0) (lv' := [(1, .int (iI (x1 + 1))), (0, .ref h)]) hx hb dX11_snap_34 hl rfl (by decide) rfl (fun ls hl => ?_)
        refine lv_goto (tgt := 11) hx hb dX11_snap_37 (by decide) ?_
        exact ih (x1 + 1) (uI f13 x1 (f13 (x1 + 3483))) _ _ _ ⟨(by omega), (fun j j0 j1 => by by_cases je : j = x1; (subst je; rw [uI_s, i2 (j + 3483) (by omega) (by omega), if_neg (by omega), if_pos (by omega)]); (rw [uI_n je, i2 j j0 j1]; by_cases jl : j < x1; (rw [if_pos jl, if_pos (by omega)]); (rw [if_neg jl, if_neg (by omega)]))), hW, (lv_sub hl [0, 1] rfl)⟩ (by omega)
