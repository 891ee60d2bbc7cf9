/-! the class: read() -/
theorem zset_len : ∀ (is : List Nat) (qs ws : va_W), (zset ws is qs).length = ws.length
  | [], _, _ => by simp [zset]
  | _ :: _, [], _ => by simp [zset]
  | i :: is, q :: qs, ws => by
    show (zset (ws.set i q) is qs).length = _
    rw [zset_len is qs (ws.set i q), List.length_set]
theorem zset_app : ∀ (i1 : List Nat) (q1 : va_W) (i2 : List Nat) (q2 ws : va_W), i1.length = q1.length → zset ws (i1 ++ i2) (q1 ++ q2) = zset (zset ws i1 q1) i2 q2
  | [], [], _, _, _, _ => rfl
  | [], _ :: _, _, _, _, h => by simp at h
  | _ :: _, [], _, _, _, h => by simp at h
  | i :: i1, q :: q1, i2, q2, ws, h => zset_app i1 q1 i2 q2 (ws.set i q) (by simpa using h)
theorem zset_left : ∀ (is : List Nat) (qs X Y : va_W), (∀ i ∈ is, i < X.length) → zset (X ++ Y) is qs = zset X is qs ++ Y
  | [], _, _, _, _ => by simp [zset]
  | _ :: _, [], _, _, _ => by simp [zset]
  | i :: is, q :: qs, X, Y, h => by
    show zset ((X ++ Y).set i q) is qs = zset (X.set i q) is qs ++ Y
    rw [List.set_append_left _ _ (h i (by simp)), zset_left is qs (X.set i q) Y (fun j hj => by rw [List.length_set]; exact h j (by simp [hj]))]
theorem zset_tail : ∀ (Y Y1 X : va_W), Y.length = Y1.length → zset (X ++ Y) (List.range' X.length Y.length) Y1 = X ++ Y1
  | [], [], X, _ => rfl
  | [], _ :: _, _, h => by simp at h
  | _ :: _, [], _, h => by simp at h
  | y :: Y, z :: Y1, X, h => by
    rw [show (y :: Y).length = Y.length + 1 from rfl, List.range'_succ]
    show zset ((X ++ y :: Y).set X.length z) (List.range' (X.length + 1) Y.length) Y1 = X ++ z :: Y1
    rw [List.set_append_right _ _ (Nat.le_refl _), Nat.sub_self]
    have t := zset_tail Y Y1 (X ++ [z]) (by simpa using h)
    rw [List.length_append] at t
    simpa using t
theorem zset_split {X Y Xc1 Y1 X1 : va_W} {isX : List Nat} {n k : Nat} (hn : X.length = n) (hk : Y.length = k) (h1 : zset X isX Xc1 = X1) (hl : isX.length = Xc1.length) (hb : isX.all (fun i => decide (i < n)) = true) (hY : Y.length = Y1.length) : zset (X ++ Y) (isX ++ List.range' n k) (Xc1 ++ Y1) = X1 ++ Y1 := by
  have hb' : ∀ i ∈ isX, i < X.length := fun i hi => by rw [hn]; exact of_decide_eq_true (List.all_eq_true.mp hb i hi)
  rw [zset_app _ _ _ _ _ hl, zset_left _ _ _ _ hb', h1]
  have e : X1.length = n := by rw [← h1, zset_len, hn]
  rw [← e, ← hk]
  exact zset_tail Y Y1 X1 hY
theorem Pally_r {T : Int → Int} {z y : Int} {N : Int → Int} : Pally T z y N = bnd (PrR T z y N) fun y2 N2 => bnd (Pixs T z 21 y2 N2) fun y3 N3 => bnd (Plss T z 7 y3 N3) fun y4 N4 => Pfin T z y4 N4 := by
  unfold Pally PrR
  by_cases q : KND T z y ≠ 5
  · rw [if_pos q, if_pos q, bnd_1 (by decide)]
  · rw [if_neg q, if_neg q]
    obtain ⟨f, y1, N1⟩ := Pnum T z 1 0 500 (tkB T z y) N
    by_cases h : f = 0
    · rw [bnd_0 h, bnd_0 h]
    · rw [bnd_1 h, bnd_1 h, bnd_1 h]
theorem PrR_0 {T : Int → Int} {z y f y1 : Int} {N N1 : Int → Int} (h : PrR T z y N = (f, y1, N1)) (hf : f = 0) : ∃ r : Int, (0 ≤ r ∧ r ≤ 500) ∧ N1 = uI N 1 r := by
  unfold PrR at h
  split at h
  · exact absurd (show (1 : Int) = f from congrArg Prod.fst h) (by omega)
  · obtain ⟨y2, N2, e1, h⟩ := bnd_inv h hf
    have a := Pnum_0 e1 rfl
    have b := Pend_0 h hf
    exact ⟨_, a.2.1, by rw [b.2.2, a.2.2.2]⟩
theorem Pfin_e {T : Int → Int} {z y f y1 : Int} {N : Int → Int} (h : (if KND T z y = 0 then (0, y) else (1, y)) = (f, y1)) : Pfin T z y N = (f, y1, N) := by
  unfold Pfin
  split at h
  · next q =>
    injection h with e1 e2
    rw [if_pos q, e1, e2]
  · next q =>
    injection h with e1 e2
    rw [if_neg q, e1, e2]
theorem SUM_0 {f : Int → Int} {i : Int} : ∀ n : Nat, (∀ j : Int, i ≤ j → j < i + (n : Int) → f j = 0) → SUM f i n = 0 := by
  intro n
  induction n with
  | zero => intro _; rfl
  | succ n ih =>
    intro h
    show SUM f i n + f (i + (n : Int)) = 0
    rw [ih (fun j j0 j1 => h j j0 (by omega)), h (i + (n : Int)) (by omega) (by omega)]
    rfl
theorem NWl_z {N : Int → Int} {x m : Int} (hm : 0 ≤ m) (h : LQ N x) : NWl N m x = 0 := by
  have z := h.2.2.2
  unfold NWl
  rw [SUM_0 120 (fun j j0 j1 => bI_f (fun q => by have := z (20 + j) (by omega) (by omega); omega)), SUM_0 120 (fun j j0 j1 => bI_f (fun q => by have := z (260 + j) (by omega) (by omega); omega)), z 13 (by omega) (by omega), bI_f (by omega)]
  rfl
theorem CV_le {N M : Int → Int} {i cv : Int} {a : Nat → Int → Int} {nw : Int → Int} (hC : CV N a cv nw) (h2 : N 2 = 0) (e : ∀ j : Int, 3 ≤ j → j < 483 → M j = N j) (hR : RD M i) : CV M a cv nw := by
  obtain ⟨c1, c2, c3⟩ := hC
  refine ⟨RV_ag e c1, by rw [CNTV_ag e 240 (by decide)]; exact c2, fun m m0 m1 => ?_⟩
  rw [c3 m m0 m1]
  unfold NWc
  rw [h2]
  have e1 : SUM (NWl M m) 0 (M 2).toNat = 0 := SUM_0 _ (fun x x0 x1 => NWl_z m0 (hR.2.2.2.2.2.1 x x0 (by omega)))
  have e2 : SUM (fun j => bI (0 < M (3 + j) ∧ M (243 + j) = m)) 0 240 = SUM (fun j => bI (0 < N (3 + j) ∧ N (243 + j) = m)) 0 240 := SUM_congr 240 (fun j j0 j1 => by rw [e (3 + j) (by omega) (by omega), e (243 + j) (by omega) (by omega)])
  rw [e1, e2]
  rfl
theorem CV_0 {a : Nat → Int → Int} {nw : Int → Int} (h0 : a 0 = fun _ => 0) (h1 : a 1 = fun _ => 240) (hn : nw = fun _ => 0) : CV Z0 a 0 nw := by
  refine ⟨fun m m0 m1 => ?_, (CNTV_0 240).symm, fun m m0 m1 => ?_⟩
  · rw [h0, h1]
    exact ⟨rfl, fun q => absurd rfl q, show (0 : Int) ≤ 240 by decide, show (240 : Int) ≤ 240 by decide⟩
  · rw [hn]
    unfold NWc
    rw [SUM_0 240 (fun j j0 j1 => bI_f (fun q => absurd q.1 (show ¬ (0 : Int) < 0 by decide)))]
    rfl
theorem Pixs_1 {T : Int → Int} {z : Int} : ∀ (n : Nat) (y f y1 : Int) (N N1 : Int → Int), Pixs T z n y N = (f, y1, N1) → f = 0 → N1 1 = N 1 := by
  intro n
  induction n with
  | zero =>
    intro y f y1 N N1 h _
    have h : ((0 : Int), y, N) = (f, y1, N1) := h
    injection h with _ e2
    injection e2 with _ e3
    rw [← e3]
  | succ n ih =>
    intro y f y1 N N1 h hf
    have h : (if KND T z y ≠ 6 then (0, y, N) else if n = 0 then (3, y, N) else bnd (Pix T z (tkB T z y) N) (Pixs T z n)) = (f, y1, N1) := h
    split at h
    · injection h with _ e2
      injection e2 with _ e3
      rw [← e3]
    · split at h
      · exact absurd (show (3 : Int) = f from congrArg Prod.fst h) (by omega)
      · obtain ⟨y2, N2, e1, h⟩ := bnd_inv h hf
        obtain ⟨m, v, k, hm, hv, hk, h0, e⟩ := Pix_0 e1 rfl
        rw [ih y2 f y1 N2 N1 h hf, e, uI_n (by omega), uI_n (by omega)]
def RDo (ff : Int) (nn : Int → Int) (rt n4 : Int) (a : Nat → Int → Int) (cv : Int) (nw : Int → Int) (VE : Nat → Nat → Int) (AE : Nat → Nat → Int → Int) : Prop := ff = 0 → ∃ i : Int, RD nn i ∧ CV nn a cv nw ∧ rt = nn 1 ∧ n4 = nn 2 ∧ LSX nn VE AE
def FTo (ff b1 b2 t : Int) : Prop := (ff = 0 → b1 = 0) ∧ (ff ≠ 0 → b1 = ff ∧ b2 = t)
theorem hiX4_read_X4 : ∀ w ∈ wsX40, w ∈ wsX4_read := fun _ h => List.mem_cons_of_mem _ (List.mem_append_left _ (List.mem_append_left _ (List.mem_append_left _ (List.mem_append_left _ (List.mem_append_left _ (List.mem_append_left _ (List.mem_append_right _ h)))))))
theorem hiX4_read_X7 : ∀ w ∈ wsX70, w ∈ wsX4_read := fun _ h => List.mem_cons_of_mem _ (List.mem_append_left _ (List.mem_append_left _ (List.mem_append_left _ (List.mem_append_left _ (List.mem_append_left _ (List.mem_append_right _ h))))))
theorem hiX4_read_X6 : ∀ w ∈ wsX60, w ∈ wsX4_read := fun _ h => List.mem_cons_of_mem _ (List.mem_append_left _ (List.mem_append_left _ (List.mem_append_left _ (List.mem_append_left _ (List.mem_append_right _ h)))))
theorem hiX4_read_X1 : ∀ w ∈ wsX10, w ∈ wsX4_read := fun _ h => List.mem_cons_of_mem _ (List.mem_append_left _ (List.mem_append_left _ (List.mem_append_left _ (List.mem_append_right _ h))))
theorem hiX4_read_X8 : ∀ w ∈ wsX80, w ∈ wsX4_read := fun _ h => List.mem_cons_of_mem _ (List.mem_append_left _ (List.mem_append_left _ (List.mem_append_right _ h)))
theorem hiX4_read_X2 : ∀ w ∈ wsX20, w ∈ wsX4_read := fun _ h => List.mem_cons_of_mem _ (List.mem_append_left _ (List.mem_append_right _ h))
theorem hiX4_read_X3 : ∀ w ∈ wsX30, w ∈ wsX4_read := fun _ h => List.mem_cons_of_mem _ (List.mem_append_right _ h)
theorem ziX4_read : yX4_read.cls = RX4 ∧ yX4_read.cls ≠ "java/lang/invoke/MethodHandle" ∧ yX4_read.cls ≠ "java/lang/invoke/VarHandle" ∧ (parseMethodDescriptor yX4_read.desc).map (fun d => d.parameters.length) = some 2 := by decide +kernel
set_option maxHeartbeats 4000000 in
set_option maxRecDepth 100000 in
theorem c_X4_read {l : Launch} {G : va_G} {cI cJ cO : ClassId} {aK aV : Nat → Nat}  (hd : Nat) (qd : Nat → Nat) (vd : Nat → Int) (ad : Nat → Int → Int) (qo : Nat → Nat) (vo : Nat → Int) (ao : Nat → Int → Int) (hf : Nat) (qf : Nat → Nat) (vf : Nat → Int) (af : Nat → Int → Int) (hB : Nat) (qB : Nat → Nat) (vB : Nat → Int) (aB : Nat → Int → Int) (gB : Nat → Nat) (qv : Nat → Nat) (vv : Nat → Int) (av : Nat → Int → Int) (qE : Nat → Nat → Nat) (VE : Nat → Nat → Int) (aE : Nat → Nat → Int → Int)   (h2 : 0 ≤ vf 1 ∧ vf 1 ≤ 640) (hT : ∀ j : Int, 0 ≤ j → j < 640 → 0 ≤ af 0 j ∧ af 0 j ≤ 255) : zCK l yX4_read wsX4_read { frames := 8, cells := 0, slots := 0, locals := 198 } G (tyZ cI cJ cO) aK aV (S := (Int) × (Int) × (Int → Int) × Int × Int × Int × Int × Int × Int × Int × Int × (Int → Int) × (Int → Int) × (Int → Int) × Int × Int × (Int → Int) × (Int → Int) × (Int → Int) × Int × (Nat → Nat → Int) × (Nat → Nat → Int → Int)) [.ref hd, .ref hf, .ref hB] ((rW cI cJ hd qd vd ad) ++ ((sW cI cJ (qd 0) qo vo ao) ++ ((tW cI cJ hf qf vf af) ++ ((bO cI cJ hB qB vB aB) ++ ((gW cO (qB 1) gB) ++ ((vW cI cJ (qB 0) qv vv av) ++ ((lW cI cJ (gB 0) (qE 0) (VE 0) (aE 0)) ++ ((lW cI cJ (gB 1) (qE 1) (VE 1) (aE 1)) ++ ((lW cI cJ (gB 2) (qE 2) (VE 2) (aE 2)) ++ ((lW cI cJ (gB 3) (qE 3) (VE 3) (aE 3)) ++ ((lW cI cJ (gB 4) (qE 4) (VE 4) (aE 4)) ++ (lW cI cJ (gB 5) (qE 5) (VE 5) (aE 5))))))))))))) (zI (fun u => bI (u.1 = 0))) (fun u => Pally (af 0) (vf 1) 0 Z0 = (u.1, u.2.1, u.2.2.1) ∧ FTo u.1 u.2.2.2.1 u.2.2.2.2.1 (tkP (af 0) (vf 1) u.2.1) ∧ RDo u.1 u.2.2.1 u.2.2.2.2.2.2.2.2.2.2.2.2.2.2.1 u.2.2.2.2.2.2.2.2.2.2.2.2.2.2.2.1 (uA (uA (av) 0 u.2.2.2.2.2.2.2.2.2.2.2.2.2.2.2.2.2.1) 1 u.2.2.2.2.2.2.2.2.2.2.2.2.2.2.2.2.2.2.1) u.2.2.2.2.2.2.2.2.2.2.2.2.2.2.2.2.2.2.2.1 u.2.2.2.2.2.2.2.2.2.2.2.2.2.2.2.2.1 u.2.2.2.2.2.2.2.2.2.2.2.2.2.2.2.2.2.2.2.2.1 u.2.2.2.2.2.2.2.2.2.2.2.2.2.2.2.2.2.2.2.2.2) (fun u => (rW cI cJ hd qd (uV (uV (uV (uV (uV (uV vd 1 u.2.2.2.1) 2 u.2.2.2.2.1) 3 u.2.2.2.2.2.1) 4 u.2.2.2.2.2.2.1) 5 u.2.2.2.2.2.2.2.1) 6 u.2.2.2.2.2.2.2.2.1) ad) ++ ((sW cI cJ (qd 0) qo (uV (uV vo 3 u.2.2.2.2.2.2.2.2.2.1) 4 u.2.2.2.2.2.2.2.2.2.2.1) (uA (uA (uA ao 0 u.2.2.2.2.2.2.2.2.2.2.2.1) 1 u.2.2.2.2.2.2.2.2.2.2.2.2.1) 2 u.2.2.2.2.2.2.2.2.2.2.2.2.2.1)) ++ ((tW cI cJ hf qf vf af) ++ ((bO cI cJ hB qB (uV (uV vB 3 u.2.2.2.2.2.2.2.2.2.2.2.2.2.2.1) 4 u.2.2.2.2.2.2.2.2.2.2.2.2.2.2.2.1) (uA aB 2 u.2.2.2.2.2.2.2.2.2.2.2.2.2.2.2.2.1)) ++ ((gW cO (qB 1) gB) ++ ((vW cI cJ (qB 0) qv (uV vv 2 u.2.2.2.2.2.2.2.2.2.2.2.2.2.2.2.2.2.2.2.1) (uA (uA av 0 u.2.2.2.2.2.2.2.2.2.2.2.2.2.2.2.2.2.1) 1 u.2.2.2.2.2.2.2.2.2.2.2.2.2.2.2.2.2.2.1)) ++ ((lW cI cJ (gB 0) (qE 0) (u.2.2.2.2.2.2.2.2.2.2.2.2.2.2.2.2.2.2.2.2.1 0) (u.2.2.2.2.2.2.2.2.2.2.2.2.2.2.2.2.2.2.2.2.2 0)) ++ ((lW cI cJ (gB 1) (qE 1) (u.2.2.2.2.2.2.2.2.2.2.2.2.2.2.2.2.2.2.2.2.1 1) (u.2.2.2.2.2.2.2.2.2.2.2.2.2.2.2.2.2.2.2.2.2 1)) ++ ((lW cI cJ (gB 2) (qE 2) (u.2.2.2.2.2.2.2.2.2.2.2.2.2.2.2.2.2.2.2.2.1 2) (u.2.2.2.2.2.2.2.2.2.2.2.2.2.2.2.2.2.2.2.2.2 2)) ++ ((lW cI cJ (gB 3) (qE 3) (u.2.2.2.2.2.2.2.2.2.2.2.2.2.2.2.2.2.2.2.2.1 3) (u.2.2.2.2.2.2.2.2.2.2.2.2.2.2.2.2.2.2.2.2.2 3)) ++ ((lW cI cJ (gB 4) (qE 4) (u.2.2.2.2.2.2.2.2.2.2.2.2.2.2.2.2.2.2.2.2.1 4) (u.2.2.2.2.2.2.2.2.2.2.2.2.2.2.2.2.2.2.2.2.2 4)) ++ (lW cI cJ (gB 5) (qE 5) (u.2.2.2.2.2.2.2.2.2.2.2.2.2.2.2.2.2.2.2.2.1 5) (u.2.2.2.2.2.2.2.2.2.2.2.2.2.2.2.2.2.2.2.2.2 5))))))))))))) 0 0 := by
  refine z_startK (cc := cX4_read) (maxL := 3) (ret := (some .boolean)) (by decide) rfl (Nat.le_of_ble_eq_true rfl) ?_
  intro p e s m below meth c A ls F hr hlk hnm hAe hA hW hl hX
  have hx := F.1
  have hb := F.2.1
  have hown : s.vm.findClass RX4 = some m.cls := F.2.2.2.1
  have hts := F.2.2.2.2
  have hl : lv_has ls 3 [(0, .ref hd), (1, .ref hf), (2, .ref hB)] := hl
  refine lv_aload_n hx hb dX4_read_0 rfl (lv_at hl 0 rfl) ?_
  refine z_get (v := .ref (qd 0)) hx hb hts hiX4_read_X4 hown hW 0 0 1 rfl rfl rfl (by decide) rfl dX4_read_1 ?_
  refine lv_aload_n hx hb dX4_read_4 rfl (lv_at hl 1 rfl) ?_
  refine z_callVK (As := [.ref hf]) (rest := []) F hX (c_X7_scan  (qd 0) qo vo ao hf qf vf af   (show 0 ≤ (vf 1) ∧ (vf 1) ≤ 640 by omega) hT) gX4_read_X7_scan rfl ziX7_scan ⟨rfl, rfl, by decide, by decide⟩ rfl hl.1 rfl (Nat.le_of_ble_eq_true rfl) dX4_read_5 ⟨Nat.zero_le _, Nat.zero_le _⟩ hW hA [1, 2, 3, 4, 5, 6] rfl (by decide) (fun _ => rfl) (fun u => (rW cI cJ hd qd vd ad) ++ ((sW cI cJ (qd 0) qo (uV (uV vo 3 u.1) 4 u.2.1) (uA (uA (uA ao 0 u.2.2.1) 1 u.2.2.2.1) 2 u.2.2.2.2)) ++ ((tW cI cJ hf qf vf af) ++ ((bO cI cJ hB qB vB aB) ++ ((gW cO (qB 1) gB) ++ ((vW cI cJ (qB 0) qv vv av) ++ ((lW cI cJ (gB 0) (qE 0) (VE 0) (aE 0)) ++ ((lW cI cJ (gB 1) (qE 1) (VE 1) (aE 1)) ++ ((lW cI cJ (gB 2) (qE 2) (VE 2) (aE 2)) ++ ((lW cI cJ (gB 3) (qE 3) (VE 3) (aE 3)) ++ ((lW cI cJ (gB 4) (qE 4) (VE 4) (aE 4)) ++ (lW cI cJ (gB 5) (qE 5) (VE 5) (aE 5))))))))))))) (fun _ => rfl) (fun u => []) (fun _ => rfl) 1 rfl rfl rfl (fun u H locs hp5 hW => ?_)
  obtain ⟨b3_1, b4_2, b0_3, b1_4, b2_5⟩ := u
  have hp5 : TKS ((af 0)) ((vf 1)) b0_3 b1_4 b2_5 b3_1 := hp5
  have hW : zW G (tyZ cI cJ cO) A s ((rW cI cJ hd qd vd ad) ++ ((sW cI cJ (qd 0) qo (uV (uV vo 3 b3_1) 4 b4_2) (uA (uA (uA ao 0 b0_3) 1 b1_4) 2 b2_5)) ++ ((tW cI cJ hf qf vf af) ++ ((bO cI cJ hB qB vB aB) ++ ((gW cO (qB 1) gB) ++ ((vW cI cJ (qB 0) qv vv av) ++ ((lW cI cJ (gB 0) (qE 0) (VE 0) (aE 0)) ++ ((lW cI cJ (gB 1) (qE 1) (VE 1) (aE 1)) ++ ((lW cI cJ (gB 2) (qE 2) (VE 2) (aE 2)) ++ ((lW cI cJ (gB 3) (qE 3) (VE 3) (aE 3)) ++ ((lW cI cJ (gB 4) (qE 4) (VE 4) (aE 4)) ++ (lW cI cJ (gB 5) (qE 5) (VE 5) (aE 5))))))))))))) H locs := hW
  have hK : TKS (af 0) (vf 1) b0_3 b1_4 b2_5 b3_1 := hp5
  refine lv_aload_n hx hb dX4_read_8 rfl (lv_at hl 2 rfl) ?_
  refine z_callV (As := []) (rest := []) F (c_X1_clear  hB qB vB aB qv vv av   ) gX4_read_X1_clear rfl ziX1_clear ⟨rfl, rfl, by decide, by decide⟩ rfl hl.1 rfl (Nat.le_of_ble_eq_true rfl) dX4_read_9 ⟨Nat.zero_le _, Nat.zero_le _⟩ hW hA [7, 8, 10, 11, 12] rfl (by decide) (fun _ => rfl) (fun _ => (rW cI cJ hd qd vd ad) ++ ((sW cI cJ (qd 0) qo (uV (uV vo 3 b3_1) 4 b4_2) (uA (uA (uA ao 0 b0_3) 1 b1_4) 2 b2_5)) ++ ((tW cI cJ hf qf vf af) ++ ((bO cI cJ hB qB (uV (uV vB 3 0) 4 0) (uA aB 2 (fun _ => 0))) ++ ((gW cO (qB 1) gB) ++ ((vW cI cJ (qB 0) qv (uV vv 2 0) (uA (uA av 0 (fun _ => 0)) 1 (fun _ => 240))) ++ ((lW cI cJ (gB 0) (qE 0) (VE 0) (aE 0)) ++ ((lW cI cJ (gB 1) (qE 1) (VE 1) (aE 1)) ++ ((lW cI cJ (gB 2) (qE 2) (VE 2) (aE 2)) ++ ((lW cI cJ (gB 3) (qE 3) (VE 3) (aE 3)) ++ ((lW cI cJ (gB 4) (qE 4) (VE 4) (aE 4)) ++ (lW cI cJ (gB 5) (qE 5) (VE 5) (aE 5))))))))))))) (fun _ => rfl) (fun _ => []) (fun _ => rfl) 7 rfl rfl rfl (fun _ H locs hp9 hW => ?_)
  have hW : zW G (tyZ cI cJ cO) A s ((rW cI cJ hd qd vd ad) ++ ((sW cI cJ (qd 0) qo (uV (uV vo 3 b3_1) 4 b4_2) (uA (uA (uA ao 0 b0_3) 1 b1_4) 2 b2_5)) ++ ((tW cI cJ hf qf vf af) ++ ((bO cI cJ hB qB (uV (uV vB 3 0) 4 0) (uA aB 2 (fun _ => 0))) ++ ((gW cO (qB 1) gB) ++ ((vW cI cJ (qB 0) qv (uV vv 2 0) (uA (uA av 0 (fun _ => 0)) 1 (fun _ => 240))) ++ ((lW cI cJ (gB 0) (qE 0) (VE 0) (aE 0)) ++ ((lW cI cJ (gB 1) (qE 1) (VE 1) (aE 1)) ++ ((lW cI cJ (gB 2) (qE 2) (VE 2) (aE 2)) ++ ((lW cI cJ (gB 3) (qE 3) (VE 3) (aE 3)) ++ ((lW cI cJ (gB 4) (qE 4) (VE 4) (aE 4)) ++ (lW cI cJ (gB 5) (qE 5) (VE 5) (aE 5))))))))))))) H locs := hW
  refine lv_aload_n hx hb dX4_read_12 rfl (lv_at hl 0 rfl) ?_
  refine z_iconst (n := 0) hx hb dX4_read_13 ?_
  refine z_put hx hb hts hiX4_read_X4 tyX4 tyX4_ok nmX4 hown hW 0 1 2 rfl rfl (by decide) (Nat.le_of_ble_eq_true rfl) rfl rfl rfl rfl dX4_read_14 (fun H locs hW => ?_)
  have hW : zW G (tyZ cI cJ cO) A s ((rW cI cJ hd qd (uV vd 1 0) ad) ++ ((sW cI cJ (qd 0) qo (uV (uV vo 3 b3_1) 4 b4_2) (uA (uA (uA ao 0 b0_3) 1 b1_4) 2 b2_5)) ++ ((tW cI cJ hf qf vf af) ++ ((bO cI cJ hB qB (uV (uV vB 3 0) 4 0) (uA aB 2 (fun _ => 0))) ++ ((gW cO (qB 1) gB) ++ ((vW cI cJ (qB 0) qv (uV vv 2 0) (uA (uA av 0 (fun _ => 0)) 1 (fun _ => 240))) ++ ((lW cI cJ (gB 0) (qE 0) (VE 0) (aE 0)) ++ ((lW cI cJ (gB 1) (qE 1) (VE 1) (aE 1)) ++ ((lW cI cJ (gB 2) (qE 2) (VE 2) (aE 2)) ++ ((lW cI cJ (gB 3) (qE 3) (VE 3) (aE 3)) ++ ((lW cI cJ (gB 4) (qE 4) (VE 4) (aE 4)) ++ (lW cI cJ (gB 5) (qE 5) (VE 5) (aE 5))))))))))))) H locs := hW
  refine lv_aload_n hx hb dX4_read_17 rfl (lv_at hl 0 rfl) ?_
  refine z_iconst (n := 0) hx hb dX4_read_18 ?_
  refine z_put hx hb hts hiX4_read_X4 tyX4 tyX4_ok nmX4 hown hW 0 3 3 rfl rfl (by decide) (Nat.le_of_ble_eq_true rfl) rfl rfl rfl rfl dX4_read_19 (fun H locs hW => ?_)
  have hW : zW G (tyZ cI cJ cO) A s ((rW cI cJ hd qd (uV (uV vd 1 0) 3 0) ad) ++ ((sW cI cJ (qd 0) qo (uV (uV vo 3 b3_1) 4 b4_2) (uA (uA (uA ao 0 b0_3) 1 b1_4) 2 b2_5)) ++ ((tW cI cJ hf qf vf af) ++ ((bO cI cJ hB qB (uV (uV vB 3 0) 4 0) (uA aB 2 (fun _ => 0))) ++ ((gW cO (qB 1) gB) ++ ((vW cI cJ (qB 0) qv (uV vv 2 0) (uA (uA av 0 (fun _ => 0)) 1 (fun _ => 240))) ++ ((lW cI cJ (gB 0) (qE 0) (VE 0) (aE 0)) ++ ((lW cI cJ (gB 1) (qE 1) (VE 1) (aE 1)) ++ ((lW cI cJ (gB 2) (qE 2) (VE 2) (aE 2)) ++ ((lW cI cJ (gB 3) (qE 3) (VE 3) (aE 3)) ++ ((lW cI cJ (gB 4) (qE 4) (VE 4) (aE 4)) ++ (lW cI cJ (gB 5) (qE 5) (VE 5) (aE 5))))))))))))) H locs := hW
  refine lv_aload_n hx hb dX4_read_22 rfl (lv_at hl 0 rfl) ?_
  refine z_callV (As := []) (rest := []) F (c_X4_advance0  hd qd (uV (uV vd 1 0) 3 0) ad qo (uV (uV vo 3 b3_1) 4 b4_2) (uA (uA (uA ao 0 b0_3) 1 b1_4) 2 b2_5)  (af 0) (vf 1) hK rfl h2.1) gX4_read_X4_advance rfl ziX4_advance ⟨rfl, rfl, by decide, by decide⟩ rfl hl.1 rfl (Nat.le_of_ble_eq_true rfl) dX4_read_23 ⟨Nat.zero_le _, Nat.zero_le _⟩ hW hA [0, 1, 2, 3, 4] rfl (by decide) (fun _ => rfl) (fun u => (rW cI cJ hd qd (uV (uV (uV (uV (uV (uV vd 1 0) 3 0) 2 u.1) 3 u.2.1) 4 u.2.2.1) 5 u.2.2.2) ad) ++ ((sW cI cJ (qd 0) qo (uV (uV vo 3 b3_1) 4 b4_2) (uA (uA (uA ao 0 b0_3) 1 b1_4) 2 b2_5)) ++ ((tW cI cJ hf qf vf af) ++ ((bO cI cJ hB qB (uV (uV vB 3 0) 4 0) (uA aB 2 (fun _ => 0))) ++ ((gW cO (qB 1) gB) ++ ((vW cI cJ (qB 0) qv (uV vv 2 0) (uA (uA av 0 (fun _ => 0)) 1 (fun _ => 240))) ++ ((lW cI cJ (gB 0) (qE 0) (VE 0) (aE 0)) ++ ((lW cI cJ (gB 1) (qE 1) (VE 1) (aE 1)) ++ ((lW cI cJ (gB 2) (qE 2) (VE 2) (aE 2)) ++ ((lW cI cJ (gB 3) (qE 3) (VE 3) (aE 3)) ++ ((lW cI cJ (gB 4) (qE 4) (VE 4) (aE 4)) ++ (lW cI cJ (gB 5) (qE 5) (VE 5) (aE 5))))))))))))) (fun _ => rfl) (fun u => []) (fun _ => rfl) 0 rfl rfl rfl (fun u H locs hp23 hW => ?_)
  obtain ⟨b2_6, b3_7, b4_8, b5_9⟩ := u
  have hp23 : RT (af 0) (vf 1) 0 (b3_1) b3_7 b4_8 b5_9 b2_6 := hp23
  have hW : zW G (tyZ cI cJ cO) A s ((rW cI cJ hd qd (uV (uV (uV (uV (uV vd 1 0) 2 b2_6) 3 b3_7) 4 b4_8) 5 b5_9) ad) ++ ((sW cI cJ (qd 0) qo (uV (uV vo 3 b3_1) 4 b4_2) (uA (uA (uA ao 0 b0_3) 1 b1_4) 2 b2_5)) ++ ((tW cI cJ hf qf vf af) ++ ((bO cI cJ hB qB (uV (uV vB 3 0) 4 0) (uA aB 2 (fun _ => 0))) ++ ((gW cO (qB 1) gB) ++ ((vW cI cJ (qB 0) qv (uV vv 2 0) (uA (uA av 0 (fun _ => 0)) 1 (fun _ => 240))) ++ ((lW cI cJ (gB 0) (qE 0) (VE 0) (aE 0)) ++ ((lW cI cJ (gB 1) (qE 1) (VE 1) (aE 1)) ++ ((lW cI cJ (gB 2) (qE 2) (VE 2) (aE 2)) ++ ((lW cI cJ (gB 3) (qE 3) (VE 3) (aE 3)) ++ ((lW cI cJ (gB 4) (qE 4) (VE 4) (aE 4)) ++ (lW cI cJ (gB 5) (qE 5) (VE 5) (aE 5))))))))))))) H locs := hW
  have hR : RT (af 0) (vf 1) 0 b3_1 b3_7 b4_8 b5_9 b2_6 := hp23
  refine lv_aload_n hx hb dX4_read_26 rfl (lv_at hl 0 rfl) ?_
  refine lv_aload_n hx hb dX4_read_27 rfl (lv_at hl 2 rfl) ?_
  refine z_callV (As := [.ref hB]) (rest := []) F (c_X4_readRate Z0 hd qd (uV (uV (uV (uV (uV vd 1 0) 2 b2_6) 3 b3_7) 4 b4_8) 5 b5_9) ad qo (uV (uV vo 3 b3_1) 4 b4_2) (uA (uA (uA ao 0 b0_3) 1 b1_4) 2 b2_5) hB qB (uV (uV vB 3 0) 4 0) (uA aB 2 (fun _ => 0))  (af 0) (vf 1) 0 hK hR) gX4_read_X4_readRate rfl ziX4_readRate ⟨rfl, rfl, by decide, by decide⟩ rfl hl.1 rfl (Nat.le_of_ble_eq_true rfl) dX4_read_28 ⟨Nat.zero_le _, Nat.zero_le _⟩ hW hA [0, 1, 2, 3, 4, 7, 8] rfl (by decide) (fun _ => rfl) (fun u => (rW cI cJ hd qd (uV (uV (uV (uV (uV (uV (uV (uV (uV (uV (uV vd 1 0) 2 b2_6) 3 b3_7) 4 b4_8) 5 b5_9) 1 u.2.2.2.1) 2 u.2.2.2.2.1) 3 u.2.2.2.2.2.1) 4 u.2.2.2.2.2.2.1) 5 u.2.2.2.2.2.2.2.1) 6 u.2.2.2.2.2.2.2.2.1) ad) ++ ((sW cI cJ (qd 0) qo (uV (uV vo 3 b3_1) 4 b4_2) (uA (uA (uA ao 0 b0_3) 1 b1_4) 2 b2_5)) ++ ((tW cI cJ hf qf vf af) ++ ((bO cI cJ hB qB (uV (uV (uV vB 3 0) 4 0) 3 u.2.2.2.2.2.2.2.2.2) (uA aB 2 (fun _ => 0))) ++ ((gW cO (qB 1) gB) ++ ((vW cI cJ (qB 0) qv (uV vv 2 0) (uA (uA av 0 (fun _ => 0)) 1 (fun _ => 240))) ++ ((lW cI cJ (gB 0) (qE 0) (VE 0) (aE 0)) ++ ((lW cI cJ (gB 1) (qE 1) (VE 1) (aE 1)) ++ ((lW cI cJ (gB 2) (qE 2) (VE 2) (aE 2)) ++ ((lW cI cJ (gB 3) (qE 3) (VE 3) (aE 3)) ++ ((lW cI cJ (gB 4) (qE 4) (VE 4) (aE 4)) ++ (lW cI cJ (gB 5) (qE 5) (VE 5) (aE 5))))))))))))) (fun _ => rfl) (fun u => [.int (iI (bI (u.1 = 0)))]) (fun _ => rfl) 0 rfl rfl rfl (fun u H locs hp28 hW => ?_)
  obtain ⟨ff_10, yy_11, nn_12, b1_13, b2_14, b3_15, b4_16, b5_17, b6_18, c3_19⟩ := u
  have hp28 : PrR (af 0) (vf 1) 0 Z0 = (ff_10, yy_11, nn_12) ∧ RT (af 0) (vf 1) yy_11 (b3_1) b3_15 b4_16 b5_17 b2_14 ∧ NF1 ff_10 b1_13 ∧ N8 ff_10 b1_13 (0) ∧ N8 ff_10 c3_19 (nn_12 1) := hp28
  have hW : zW G (tyZ cI cJ cO) A s ((rW cI cJ hd qd (uV (uV (uV (uV (uV (uV vd 1 b1_13) 2 b2_14) 3 b3_15) 4 b4_16) 5 b5_17) 6 b6_18) ad) ++ ((sW cI cJ (qd 0) qo (uV (uV vo 3 b3_1) 4 b4_2) (uA (uA (uA ao 0 b0_3) 1 b1_4) 2 b2_5)) ++ ((tW cI cJ hf qf vf af) ++ ((bO cI cJ hB qB (uV (uV vB 4 0) 3 c3_19) (uA aB 2 (fun _ => 0))) ++ ((gW cO (qB 1) gB) ++ ((vW cI cJ (qB 0) qv (uV vv 2 0) (uA (uA av 0 (fun _ => 0)) 1 (fun _ => 240))) ++ ((lW cI cJ (gB 0) (qE 0) (VE 0) (aE 0)) ++ ((lW cI cJ (gB 1) (qE 1) (VE 1) (aE 1)) ++ ((lW cI cJ (gB 2) (qE 2) (VE 2) (aE 2)) ++ ((lW cI cJ (gB 3) (qE 3) (VE 3) (aE 3)) ++ ((lW cI cJ (gB 4) (qE 4) (VE 4) (aE 4)) ++ (lW cI cJ (gB 5) (qE 5) (VE 5) (aE 5))))))))))))) H locs := hW
  have hR : RT (af 0) (vf 1) yy_11 (b3_1) b3_15 b4_16 b5_17 b2_14 := hp28.2.1
  have hk9 := KND_R (T := (af 0)) (z := (vf 1)) (y := yy_11)
  have ek9 := hR.2.2.2.1
  refine z_b_eq (tgt := 61) hx hb dX4_read_31 (by decide) (fun c31 => ?_) (fun c31 => ?_)
  · refine z_iconst (n := 0) hx hb dX4_read_61 ?_
    exact z_zret hx hb hr hlk (by first | exact Or.inl rfl | exact Or.inr rfl | omega) hW (⟨ff_10, yy_11, nn_12, b1_13, b2_14, b3_15, b4_16, b5_17, b6_18, b3_1, b4_2, b0_3, b1_4, b2_5, c3_19, 0, fun _ => 0, fun _ => 0, fun _ => 240, 0, VE, aE⟩) (bI_f c31) (show _ = _ ∧ FTo _ _ _ _ ∧ RDo _ _ _ _ _ _ _ _ _ from ⟨by rw [Pally_r, hp28.1, bnd_1 c31], ⟨fun q => absurd q c31, fun q => ⟨hp28.2.2.1 q, hp28.2.1.2.2.2.2.1⟩⟩, (fun q => absurd q c31)⟩) rfl dX4_read_62
  · obtain ⟨rt9, hrt9, en1⟩ := PrR_0 hp28.1 c31
    have hR1 := RD_rate RD_0 hrt9 en1
    have hC1 : CV nn_12 (uA (uA av 0 (fun _ => 0)) 1 (fun _ => 240)) 0 (fun _ => 0) := CV_le (CV_0 rfl rfl rfl) rfl (fun j j0 j1 => by rw [en1, uI_n (by omega)]) hR1.1
    refine lv_aload_n hx hb dX4_read_34 rfl (lv_at hl 0 rfl) ?_
    refine lv_aload_n hx hb dX4_read_35 rfl (lv_at hl 2 rfl) ?_
    refine z_callV (As := [.ref hB]) (rest := []) F (c_X4_readIndexLines nn_12 hd qd (uV (uV (uV (uV (uV (uV vd 1 b1_13) 2 b2_14) 3 b3_15) 4 b4_16) 5 b5_17) 6 b6_18) ad qo (uV (uV vo 3 b3_1) 4 b4_2) (uA (uA (uA ao 0 b0_3) 1 b1_4) 2 b2_5) hB qB (uV (uV vB 4 0) 3 c3_19) (uA aB 2 (fun _ => 0)) qv (uV vv 2 0) (uA (uA av 0 (fun _ => 0)) 1 (fun _ => 240))  (af 0) (vf 1) yy_11 hK hR hR1 hC1) gX4_read_X4_readIndexLines rfl ziX4_readIndexLines ⟨rfl, rfl, by decide, by decide⟩ rfl hl.1 rfl (Nat.le_of_ble_eq_true rfl) dX4_read_36 ⟨Nat.zero_le _, Nat.zero_le _⟩ hW hA [0, 1, 2, 3, 4, 7, 8, 10, 11, 12] rfl (by decide) (fun _ => rfl) (fun u => (rW cI cJ hd qd (uV (uV (uV (uV (uV (uV (uV (uV (uV (uV (uV (uV vd 1 b1_13) 2 b2_14) 3 b3_15) 4 b4_16) 5 b5_17) 6 b6_18) 1 u.2.2.2.1) 2 u.2.2.2.2.1) 3 u.2.2.2.2.2.1) 4 u.2.2.2.2.2.2.1) 5 u.2.2.2.2.2.2.2.1) 6 u.2.2.2.2.2.2.2.2.1) ad) ++ ((sW cI cJ (qd 0) qo (uV (uV vo 3 b3_1) 4 b4_2) (uA (uA (uA ao 0 b0_3) 1 b1_4) 2 b2_5)) ++ ((tW cI cJ hf qf vf af) ++ ((bO cI cJ hB qB (uV (uV vB 4 0) 3 c3_19) (uA (uA aB 2 (fun _ => 0)) 2 u.2.2.2.2.2.2.2.2.2.2.2.2)) ++ ((gW cO (qB 1) gB) ++ ((vW cI cJ (qB 0) qv (uV (uV vv 2 0) 2 u.2.2.2.2.2.2.2.2.2.2.2.1) (uA (uA (uA (uA av 0 (fun _ => 0)) 1 (fun _ => 240)) 0 u.2.2.2.2.2.2.2.2.2.1) 1 u.2.2.2.2.2.2.2.2.2.2.1)) ++ ((lW cI cJ (gB 0) (qE 0) (VE 0) (aE 0)) ++ ((lW cI cJ (gB 1) (qE 1) (VE 1) (aE 1)) ++ ((lW cI cJ (gB 2) (qE 2) (VE 2) (aE 2)) ++ ((lW cI cJ (gB 3) (qE 3) (VE 3) (aE 3)) ++ ((lW cI cJ (gB 4) (qE 4) (VE 4) (aE 4)) ++ (lW cI cJ (gB 5) (qE 5) (VE 5) (aE 5))))))))))))) (fun _ => rfl) (fun u => [.int (iI (bI (u.1 = 0)))]) (fun _ => rfl) 0 rfl rfl rfl (fun u H locs hp36 hW => ?_)
    obtain ⟨ff_20, yy_21, nn_22, b1_23, b2_24, b3_25, b4_26, b5_27, b6_28, d0_29, d1_30, d2_31, dn_32⟩ := u
    have hp36 : Pixs (af 0) (vf 1) 21 yy_11 nn_12 = (ff_20, yy_21, nn_22) ∧ RT (af 0) (vf 1) yy_21 (b3_1) b3_25 b4_26 b5_27 b2_24 ∧ NF1 ff_20 b1_23 ∧ N8 ff_20 b1_23 (b1_13) ∧ IXs ff_20 nn_22 (uA (uA ((uA (uA av 0 (fun _ => 0)) 1 (fun _ => 240))) 0 d0_29) 1 d1_30) d2_31 dn_32 := hp36
    have hW : zW G (tyZ cI cJ cO) A s ((rW cI cJ hd qd (uV (uV (uV (uV (uV (uV vd 1 b1_23) 2 b2_24) 3 b3_25) 4 b4_26) 5 b5_27) 6 b6_28) ad) ++ ((sW cI cJ (qd 0) qo (uV (uV vo 3 b3_1) 4 b4_2) (uA (uA (uA ao 0 b0_3) 1 b1_4) 2 b2_5)) ++ ((tW cI cJ hf qf vf af) ++ ((bO cI cJ hB qB (uV (uV vB 4 0) 3 c3_19) (uA aB 2 dn_32)) ++ ((gW cO (qB 1) gB) ++ ((vW cI cJ (qB 0) qv (uV vv 2 d2_31) (uA (uA av 0 d0_29) 1 d1_30)) ++ ((lW cI cJ (gB 0) (qE 0) (VE 0) (aE 0)) ++ ((lW cI cJ (gB 1) (qE 1) (VE 1) (aE 1)) ++ ((lW cI cJ (gB 2) (qE 2) (VE 2) (aE 2)) ++ ((lW cI cJ (gB 3) (qE 3) (VE 3) (aE 3)) ++ ((lW cI cJ (gB 4) (qE 4) (VE 4) (aE 4)) ++ (lW cI cJ (gB 5) (qE 5) (VE 5) (aE 5))))))))))))) H locs := hW
    have hR : RT (af 0) (vf 1) yy_21 (b3_1) b3_25 b4_26 b5_27 b2_24 := hp36.2.1
    have hk9 := KND_R (T := (af 0)) (z := (vf 1)) (y := yy_21)
    have ek9 := hR.2.2.2.1
    refine z_b_eq (tgt := 61) hx hb dX4_read_39 (by decide) (fun c39 => ?_) (fun c39 => ?_)
    · refine z_iconst (n := 0) hx hb dX4_read_61 ?_
      exact z_zret hx hb hr hlk (by first | exact Or.inl rfl | exact Or.inr rfl | omega) hW (⟨ff_20, yy_21, nn_22, b1_23, b2_24, b3_25, b4_26, b5_27, b6_28, b3_1, b4_2, b0_3, b1_4, b2_5, c3_19, 0, dn_32, d0_29, d1_30, d2_31, VE, aE⟩) (bI_f c39) (show _ = _ ∧ FTo _ _ _ _ ∧ RDo _ _ _ _ _ _ _ _ _ from ⟨by rw [Pally_r, hp28.1, bnd_0 c31, hp36.1, bnd_1 c39], ⟨fun q => absurd q c39, fun q => ⟨hp36.2.2.1 q, hp36.2.1.2.2.2.2.1⟩⟩, (fun q => absurd q c39)⟩) rfl dX4_read_62
    · obtain ⟨i9, hR2, h22, hC2⟩ := hp36.2.2.2.2 c39
      have hri := Pixs_1 21 _ _ _ _ _ hp36.1 c39
      refine lv_aload_n hx hb dX4_read_42 rfl (lv_at hl 0 rfl) ?_
      refine lv_aload_n hx hb dX4_read_43 rfl (lv_at hl 2 rfl) ?_
      have hW : zW G (tyZ cI cJ cO) A s (((rW cI cJ hd qd (uV (uV (uV (uV (uV (uV vd 1 b1_23) 2 b2_24) 3 b3_25) 4 b4_26) 5 b5_27) 6 b6_28) ad) ++ ((sW cI cJ (qd 0) qo (uV (uV vo 3 b3_1) 4 b4_2) (uA (uA (uA ao 0 b0_3) 1 b1_4) 2 b2_5)) ++ ((tW cI cJ hf qf vf af) ++ ((bO cI cJ hB qB (uV (uV vB 4 0) 3 c3_19) (uA aB 2 dn_32)) ++ ((gW cO (qB 1) gB) ++ (vW cI cJ (qB 0) qv (uV vv 2 d2_31) (uA (uA av 0 d0_29) 1 d1_30))))))) ++ ((lW cI cJ (gB 0) (qE 0) (VE 0) (aE 0)) ++ ((lW cI cJ (gB 1) (qE 1) (VE 1) (aE 1)) ++ ((lW cI cJ (gB 2) (qE 2) (VE 2) (aE 2)) ++ ((lW cI cJ (gB 3) (qE 3) (VE 3) (aE 3)) ++ ((lW cI cJ (gB 4) (qE 4) (VE 4) (aE 4)) ++ (lW cI cJ (gB 5) (qE 5) (VE 5) (aE 5)))))))) H locs := hW
      refine z_callV (As := [.ref hB]) (rest := []) F (c_X4_readLeases nn_22 hd qd (uV (uV (uV (uV (uV (uV vd 1 b1_23) 2 b2_24) 3 b3_25) 4 b4_26) 5 b5_27) 6 b6_28) ad qo (uV (uV vo 3 b3_1) 4 b4_2) (uA (uA (uA ao 0 b0_3) 1 b1_4) 2 b2_5) hB qB (uV (uV vB 4 0) 3 c3_19) (uA aB 2 dn_32) gB qE VE aE  (af 0) (vf 1) yy_21 i9 hK hR hR2 h22 rfl) gX4_read_X4_readLeases rfl ziX4_readLeases ⟨rfl, rfl, by decide, by decide⟩ rfl hl.1 rfl (Nat.le_of_ble_eq_true rfl) dX4_read_44 ⟨Nat.zero_le _, Nat.zero_le _⟩ hW hA ([0, 1, 2, 3, 4, 7, 8, 9] ++ List.range' 13 30) rfl (by decide) (fun _ => rfl) (fun u => ((rW cI cJ hd qd (uV (uV (uV (uV (uV (uV (uV (uV (uV (uV (uV (uV vd 1 b1_23) 2 b2_24) 3 b3_25) 4 b4_26) 5 b5_27) 6 b6_28) 1 u.2.2.2.1) 2 u.2.2.2.2.1) 3 u.2.2.2.2.2.1) 4 u.2.2.2.2.2.2.1) 5 u.2.2.2.2.2.2.2.1) 6 u.2.2.2.2.2.2.2.2.1) ad) ++ ((sW cI cJ (qd 0) qo (uV (uV vo 3 b3_1) 4 b4_2) (uA (uA (uA ao 0 b0_3) 1 b1_4) 2 b2_5)) ++ ((tW cI cJ hf qf vf af) ++ ((bO cI cJ hB qB (uV (uV (uV vB 4 0) 3 c3_19) 4 u.2.2.2.2.2.2.2.2.2.2.2) (uA aB 2 dn_32)) ++ ((gW cO (qB 1) gB) ++ (vW cI cJ (qB 0) qv (uV vv 2 d2_31) (uA (uA av 0 d0_29) 1 d1_30))))))) ++ ((lW cI cJ (gB 0) (qE 0) (u.2.2.2.2.2.2.2.2.2.1 0) (u.2.2.2.2.2.2.2.2.2.2.1 0)) ++ ((lW cI cJ (gB 1) (qE 1) (u.2.2.2.2.2.2.2.2.2.1 1) (u.2.2.2.2.2.2.2.2.2.2.1 1)) ++ ((lW cI cJ (gB 2) (qE 2) (u.2.2.2.2.2.2.2.2.2.1 2) (u.2.2.2.2.2.2.2.2.2.2.1 2)) ++ ((lW cI cJ (gB 3) (qE 3) (u.2.2.2.2.2.2.2.2.2.1 3) (u.2.2.2.2.2.2.2.2.2.2.1 3)) ++ ((lW cI cJ (gB 4) (qE 4) (u.2.2.2.2.2.2.2.2.2.1 4) (u.2.2.2.2.2.2.2.2.2.2.1 4)) ++ (lW cI cJ (gB 5) (qE 5) (u.2.2.2.2.2.2.2.2.2.1 5) (u.2.2.2.2.2.2.2.2.2.2.1 5)))))))) (fun u => (congrArg (zset (((rW cI cJ hd qd (uV (uV (uV (uV (uV (uV vd 1 b1_23) 2 b2_24) 3 b3_25) 4 b4_26) 5 b5_27) 6 b6_28) ad) ++ ((sW cI cJ (qd 0) qo (uV (uV vo 3 b3_1) 4 b4_2) (uA (uA (uA ao 0 b0_3) 1 b1_4) 2 b2_5)) ++ ((tW cI cJ hf qf vf af) ++ ((bO cI cJ hB qB (uV (uV vB 4 0) 3 c3_19) (uA aB 2 dn_32)) ++ ((gW cO (qB 1) gB) ++ (vW cI cJ (qB 0) qv (uV vv 2 d2_31) (uA (uA av 0 d0_29) 1 d1_30))))))) ++ ((lW cI cJ (gB 0) (qE 0) (VE 0) (aE 0)) ++ ((lW cI cJ (gB 1) (qE 1) (VE 1) (aE 1)) ++ ((lW cI cJ (gB 2) (qE 2) (VE 2) (aE 2)) ++ ((lW cI cJ (gB 3) (qE 3) (VE 3) (aE 3)) ++ ((lW cI cJ (gB 4) (qE 4) (VE 4) (aE 4)) ++ (lW cI cJ (gB 5) (qE 5) (VE 5) (aE 5)))))))) ([0, 1, 2, 3, 4, 7, 8, 9] ++ List.range' 13 30)) (show (rW cI cJ hd qd (uV (uV (uV (uV (uV (uV (uV (uV (uV (uV (uV (uV vd 1 b1_23) 2 b2_24) 3 b3_25) 4 b4_26) 5 b5_27) 6 b6_28) 1 u.2.2.2.1) 2 u.2.2.2.2.1) 3 u.2.2.2.2.2.1) 4 u.2.2.2.2.2.2.1) 5 u.2.2.2.2.2.2.2.1) 6 u.2.2.2.2.2.2.2.2.1) ad) ++ ((sW cI cJ (qd 0) qo (uV (uV vo 3 b3_1) 4 b4_2) (uA (uA (uA ao 0 b0_3) 1 b1_4) 2 b2_5)) ++ ((bO cI cJ hB qB (uV (uV (uV vB 4 0) 3 c3_19) 4 u.2.2.2.2.2.2.2.2.2.2.2) (uA aB 2 dn_32)) ++ ((gW cO (qB 1) gB) ++ ((lW cI cJ (gB 0) (qE 0) (u.2.2.2.2.2.2.2.2.2.1 0) (u.2.2.2.2.2.2.2.2.2.2.1 0)) ++ ((lW cI cJ (gB 1) (qE 1) (u.2.2.2.2.2.2.2.2.2.1 1) (u.2.2.2.2.2.2.2.2.2.2.1 1)) ++ ((lW cI cJ (gB 2) (qE 2) (u.2.2.2.2.2.2.2.2.2.1 2) (u.2.2.2.2.2.2.2.2.2.2.1 2)) ++ ((lW cI cJ (gB 3) (qE 3) (u.2.2.2.2.2.2.2.2.2.1 3) (u.2.2.2.2.2.2.2.2.2.2.1 3)) ++ ((lW cI cJ (gB 4) (qE 4) (u.2.2.2.2.2.2.2.2.2.1 4) (u.2.2.2.2.2.2.2.2.2.2.1 4)) ++ (lW cI cJ (gB 5) (qE 5) (u.2.2.2.2.2.2.2.2.2.1 5) (u.2.2.2.2.2.2.2.2.2.2.1 5)))))))))) = ((rW cI cJ hd qd (uV (uV (uV (uV (uV (uV (uV (uV (uV (uV (uV (uV vd 1 b1_23) 2 b2_24) 3 b3_25) 4 b4_26) 5 b5_27) 6 b6_28) 1 u.2.2.2.1) 2 u.2.2.2.2.1) 3 u.2.2.2.2.2.1) 4 u.2.2.2.2.2.2.1) 5 u.2.2.2.2.2.2.2.1) 6 u.2.2.2.2.2.2.2.2.1) ad) ++ ((sW cI cJ (qd 0) qo (uV (uV vo 3 b3_1) 4 b4_2) (uA (uA (uA ao 0 b0_3) 1 b1_4) 2 b2_5)) ++ ((bO cI cJ hB qB (uV (uV (uV vB 4 0) 3 c3_19) 4 u.2.2.2.2.2.2.2.2.2.2.2) (uA aB 2 dn_32)) ++ (gW cO (qB 1) gB)))) ++ ((lW cI cJ (gB 0) (qE 0) (u.2.2.2.2.2.2.2.2.2.1 0) (u.2.2.2.2.2.2.2.2.2.2.1 0)) ++ ((lW cI cJ (gB 1) (qE 1) (u.2.2.2.2.2.2.2.2.2.1 1) (u.2.2.2.2.2.2.2.2.2.2.1 1)) ++ ((lW cI cJ (gB 2) (qE 2) (u.2.2.2.2.2.2.2.2.2.1 2) (u.2.2.2.2.2.2.2.2.2.2.1 2)) ++ ((lW cI cJ (gB 3) (qE 3) (u.2.2.2.2.2.2.2.2.2.1 3) (u.2.2.2.2.2.2.2.2.2.2.1 3)) ++ ((lW cI cJ (gB 4) (qE 4) (u.2.2.2.2.2.2.2.2.2.1 4) (u.2.2.2.2.2.2.2.2.2.2.1 4)) ++ (lW cI cJ (gB 5) (qE 5) (u.2.2.2.2.2.2.2.2.2.1 5) (u.2.2.2.2.2.2.2.2.2.2.1 5))))))) from rfl)).trans (zset_split rfl rfl rfl rfl (by decide) rfl)) (fun u => [.int (iI (bI (u.1 = 0)))]) (fun _ => rfl) 0 rfl rfl rfl (fun u H locs hp44 hW => ?_)
      obtain ⟨ff_33, yy_34, nn_35, b1_36, b2_37, b3_38, b4_39, b5_40, b6_41, Wn_42, Xn_43, c4_44⟩ := u
      have hp44 : Plss (af 0) (vf 1) 7 yy_21 nn_22 = (ff_33, yy_34, nn_35) ∧ RT (af 0) (vf 1) yy_34 (b3_1) b3_38 b4_39 b5_40 b2_37 ∧ NF1 ff_33 b1_36 ∧ N8 ff_33 b1_36 (b1_23) ∧ LSo ff_33 nn_35 nn_22 i9 c4_44 Wn_42 Xn_43 := hp44
      have hW : zW G (tyZ cI cJ cO) A s ((rW cI cJ hd qd (uV (uV (uV (uV (uV (uV vd 1 b1_36) 2 b2_37) 3 b3_38) 4 b4_39) 5 b5_40) 6 b6_41) ad) ++ ((sW cI cJ (qd 0) qo (uV (uV vo 3 b3_1) 4 b4_2) (uA (uA (uA ao 0 b0_3) 1 b1_4) 2 b2_5)) ++ ((tW cI cJ hf qf vf af) ++ ((bO cI cJ hB qB (uV (uV vB 3 c3_19) 4 c4_44) (uA aB 2 dn_32)) ++ ((gW cO (qB 1) gB) ++ ((vW cI cJ (qB 0) qv (uV vv 2 d2_31) (uA (uA av 0 d0_29) 1 d1_30)) ++ ((lW cI cJ (gB 0) (qE 0) (Wn_42 0) (Xn_43 0)) ++ ((lW cI cJ (gB 1) (qE 1) (Wn_42 1) (Xn_43 1)) ++ ((lW cI cJ (gB 2) (qE 2) (Wn_42 2) (Xn_43 2)) ++ ((lW cI cJ (gB 3) (qE 3) (Wn_42 3) (Xn_43 3)) ++ ((lW cI cJ (gB 4) (qE 4) (Wn_42 4) (Xn_43 4)) ++ (lW cI cJ (gB 5) (qE 5) (Wn_42 5) (Xn_43 5))))))))))))) H locs := hW
      have hR : RT (af 0) (vf 1) yy_34 (b3_1) b3_38 b4_39 b5_40 b2_37 := hp44.2.1
      have hk9 := KND_R (T := (af 0)) (z := (vf 1)) (y := yy_34)
      have ek9 := hR.2.2.2.1
      refine z_b_eq (tgt := 61) hx hb dX4_read_47 (by decide) (fun c47 => ?_) (fun c47 => ?_)
      · refine z_iconst (n := 0) hx hb dX4_read_61 ?_
        exact z_zret hx hb hr hlk (by first | exact Or.inl rfl | exact Or.inr rfl | omega) hW (⟨ff_33, yy_34, nn_35, b1_36, b2_37, b3_38, b4_39, b5_40, b6_41, b3_1, b4_2, b0_3, b1_4, b2_5, c3_19, c4_44, dn_32, d0_29, d1_30, d2_31, Wn_42, Xn_43⟩) (bI_f c47) (show _ = _ ∧ FTo _ _ _ _ ∧ RDo _ _ _ _ _ _ _ _ _ from ⟨by rw [Pally_r, hp28.1, bnd_0 c31, hp36.1, bnd_0 c39, hp44.1, bnd_1 c47], ⟨fun q => absurd q c47, fun q => ⟨hp44.2.2.1 q, hp44.2.1.2.2.2.2.1⟩⟩, (fun q => absurd q c47)⟩) rfl dX4_read_62
      · refine lv_aload_n hx hb dX4_read_50 rfl (lv_at hl 0 rfl) ?_
        refine z_callV (As := []) (rest := []) F (c_X4_isAtEnd  hd qd (uV (uV (uV (uV (uV (uV vd 1 b1_36) 2 b2_37) 3 b3_38) 4 b4_39) 5 b5_40) 6 b6_41) ad qo (uV (uV vo 3 b3_1) 4 b4_2) (uA (uA (uA ao 0 b0_3) 1 b1_4) 2 b2_5)  (af 0) (vf 1) yy_34 hK hR) gX4_read_X4_isAtEnd rfl ziX4_isAtEnd ⟨rfl, rfl, by decide, by decide⟩ rfl hl.1 rfl (Nat.le_of_ble_eq_true rfl) dX4_read_51 ⟨Nat.zero_le _, Nat.zero_le _⟩ hW hA [0, 1, 2, 3, 4] rfl (by decide) (fun _ => rfl) (fun u => (rW cI cJ hd qd (uV (uV (uV (uV (uV (uV (uV (uV (uV (uV (uV (uV vd 1 b1_36) 2 b2_37) 3 b3_38) 4 b4_39) 5 b5_40) 6 b6_41) 1 u.2.2.1) 2 u.2.2.2.1) 3 u.2.2.2.2.1) 4 u.2.2.2.2.2.1) 5 u.2.2.2.2.2.2.1) 6 u.2.2.2.2.2.2.2) ad) ++ ((sW cI cJ (qd 0) qo (uV (uV vo 3 b3_1) 4 b4_2) (uA (uA (uA ao 0 b0_3) 1 b1_4) 2 b2_5)) ++ ((tW cI cJ hf qf vf af) ++ ((bO cI cJ hB qB (uV (uV vB 3 c3_19) 4 c4_44) (uA aB 2 dn_32)) ++ ((gW cO (qB 1) gB) ++ ((vW cI cJ (qB 0) qv (uV vv 2 d2_31) (uA (uA av 0 d0_29) 1 d1_30)) ++ ((lW cI cJ (gB 0) (qE 0) (Wn_42 0) (Xn_43 0)) ++ ((lW cI cJ (gB 1) (qE 1) (Wn_42 1) (Xn_43 1)) ++ ((lW cI cJ (gB 2) (qE 2) (Wn_42 2) (Xn_43 2)) ++ ((lW cI cJ (gB 3) (qE 3) (Wn_42 3) (Xn_43 3)) ++ ((lW cI cJ (gB 4) (qE 4) (Wn_42 4) (Xn_43 4)) ++ (lW cI cJ (gB 5) (qE 5) (Wn_42 5) (Xn_43 5))))))))))))) (fun _ => rfl) (fun u => [.int (iI (bI (u.1 = 0)))]) (fun _ => rfl) 0 rfl rfl rfl (fun u H locs hp51 hW => ?_)
        obtain ⟨ff_45, yy_46, b1_47, b2_48, b3_49, b4_50, b5_51, b6_52⟩ := u
        have hp51 : (if KND (af 0) (vf 1) yy_34 = 0 then (0, yy_34) else (1, yy_34)) = (ff_45, yy_46) ∧ RT (af 0) (vf 1) yy_46 (b3_1) b3_49 b4_50 b5_51 b2_48 ∧ NF1 ff_45 b1_47 ∧ N8 ff_45 b1_47 (b1_36) := hp51
        have hW : zW G (tyZ cI cJ cO) A s ((rW cI cJ hd qd (uV (uV (uV (uV (uV (uV vd 1 b1_47) 2 b2_48) 3 b3_49) 4 b4_50) 5 b5_51) 6 b6_52) ad) ++ ((sW cI cJ (qd 0) qo (uV (uV vo 3 b3_1) 4 b4_2) (uA (uA (uA ao 0 b0_3) 1 b1_4) 2 b2_5)) ++ ((tW cI cJ hf qf vf af) ++ ((bO cI cJ hB qB (uV (uV vB 3 c3_19) 4 c4_44) (uA aB 2 dn_32)) ++ ((gW cO (qB 1) gB) ++ ((vW cI cJ (qB 0) qv (uV vv 2 d2_31) (uA (uA av 0 d0_29) 1 d1_30)) ++ ((lW cI cJ (gB 0) (qE 0) (Wn_42 0) (Xn_43 0)) ++ ((lW cI cJ (gB 1) (qE 1) (Wn_42 1) (Xn_43 1)) ++ ((lW cI cJ (gB 2) (qE 2) (Wn_42 2) (Xn_43 2)) ++ ((lW cI cJ (gB 3) (qE 3) (Wn_42 3) (Xn_43 3)) ++ ((lW cI cJ (gB 4) (qE 4) (Wn_42 4) (Xn_43 4)) ++ (lW cI cJ (gB 5) (qE 5) (Wn_42 5) (Xn_43 5))))))))))))) H locs := hW
        have hR : RT (af 0) (vf 1) yy_46 (b3_1) b3_49 b4_50 b5_51 b2_48 := hp51.2.1
        have hk9 := KND_R (T := (af 0)) (z := (vf 1)) (y := yy_46)
        have ek9 := hR.2.2.2.1
        refine z_b_eq (tgt := 61) hx hb dX4_read_54 (by decide) (fun c54 => ?_) (fun c54 => ?_)
        · refine z_iconst (n := 0) hx hb dX4_read_61 ?_
          exact z_zret hx hb hr hlk (by first | exact Or.inl rfl | exact Or.inr rfl | omega) hW (⟨ff_45, yy_46, nn_35, b1_47, b2_48, b3_49, b4_50, b5_51, b6_52, b3_1, b4_2, b0_3, b1_4, b2_5, c3_19, c4_44, dn_32, d0_29, d1_30, d2_31, Wn_42, Xn_43⟩) (bI_f c54) (show _ = _ ∧ FTo _ _ _ _ ∧ RDo _ _ _ _ _ _ _ _ _ from ⟨by rw [Pally_r, hp28.1, bnd_0 c31, hp36.1, bnd_0 c39, hp44.1, bnd_0 c47, Pfin_e hp51.1], ⟨fun q => absurd q c54, fun q => ⟨hp51.2.2.1 q, hp51.2.1.2.2.2.2.1⟩⟩, (fun q => absurd q c54)⟩) rfl dX4_read_62
        · refine z_iconst (n := 1) hx hb dX4_read_57 ?_
          refine lv_goto (tgt := 62) hx hb dX4_read_58 (by decide) ?_
          exact z_zret hx hb hr hlk (by first | exact Or.inl rfl | exact Or.inr rfl | omega) hW (⟨ff_45, yy_46, nn_35, b1_47, b2_48, b3_49, b4_50, b5_51, b6_52, b3_1, b4_2, b0_3, b1_4, b2_5, c3_19, c4_44, dn_32, d0_29, d1_30, d2_31, Wn_42, Xn_43⟩) (bI_t c54) (show _ = _ ∧ FTo _ _ _ _ ∧ RDo _ _ _ _ _ _ _ _ _ from ⟨by rw [Pally_r, hp28.1, bnd_0 c31, hp36.1, bnd_0 c39, hp44.1, bnd_0 c47, Pfin_e hp51.1], ⟨fun _ => (hp51.2.2.2 c54).trans ((hp44.2.2.2.1 c47).trans ((hp36.2.2.2.1 c39).trans (hp28.2.2.2.1 c31))), fun q => absurd c54 q⟩, (fun _ => by obtain ⟨k1, k2, k3, k4, k5⟩ := hp44.2.2.2.2 c47; exact ⟨i9, k1, CV_le hC2 h22 k4 k1, ((hp28.2.2.2.2 c31).trans (hri.symm.trans k5.symm)), k2, k3⟩)⟩) rfl dX4_read_62
