/-! glue: the desk and the class's rows, ahead of an act and behind it -/
def GOOD (N : Int → Int) : Prop := WF N ∧ CNTV N 240 ≤ 40 ∧ ∀ x : Int, 0 ≤ x → x < N 2 → WFb N x ∧ WFk N x
def uE (b : Nat → Nat → Int → Int) (x : Int) (f : Nat → Int → Int) : Nat → Nat → Int → Int := fun j => if (j : Int) = x then f else b j
/-- the class's rows hold N -/
def CLS (N : Int → Int) (av : Nat → Int → Int) (cv : Int) (aE : Nat → Nat → Int → Int) (nw : Int → Int) : Prop :=
  RV N av ∧ cv = CNTV N 240 ∧ (∀ x : Nat, (x : Int) < N 2 → TR N x (aE x)) ∧ ∀ m : Int, 0 ≤ m → m ≤ 239 → nw m = NWc N m
theorem WHY_ok {N : Int → Int} {y z : Int} (h : ¬ WHY N y z < 0) : (0 ≤ y ∧ y ≤ 239) ∧ (1 ≤ z ∧ z ≤ 9999) ∧ ¬ 0 < N (3 + y) ∧ CNTV N 240 ≠ 40 := by
  unfold WHY at h
  by_cases q : (0 ≤ y ∧ y ≤ 239) ∧ (1 ≤ z ∧ z ≤ 9999) ∧ ¬ 0 < N (3 + y)
  · rw [if_pos q] at h
    refine ⟨q.1, q.2.1, q.2.2, fun e => ?_⟩
    rw [if_pos e] at h
    omega
  · rw [if_neg q] at h
    omega
theorem okM_ok {N : Int → Int} {x r z : Int} (hW : WF N) (h : okM N x r z) : (0 ≤ x ∧ x < N 2) ∧ LF N x 5 = 2 ∧ (0 ≤ r ∧ r ≤ 119) ∧ (1 ≤ z ∧ z ≤ 99999) ∧ ¬ 0 < LF N x (20 + r) := by
  obtain ⟨k1, k2, k3, k4, k5⟩ := h
  have hL := (hW.2.2.2.2 x k1.1 (by omega)).1
  have := REV_R hL
  exact ⟨by omega, k2, by omega, k4, k5⟩
theorem okT_ok {N : Int → Int} {x y z : Int} (hW : WF N) (h : okT N x y z) : (0 ≤ x ∧ x < N 2) ∧ LF N x 5 = 3 ∧ (0 ≤ y - LF N x 0 ∧ y - LF N x 0 ≤ 119) ∧ (0 ≤ z ∧ z ≤ 999999) ∧ ¬ 0 < LF N x (260 + (y - LF N x 0)) := by
  obtain ⟨⟨k1, k2, k3⟩, k4, k5, k6⟩ := h
  have hL := (hW.2.2.2.2 x (by omega) (by omega)).1
  have l1 := hL.2.1
  rw [show 260 + y - LF N x 0 = 260 + (y - LF N x 0) by omega] at k6
  exact ⟨by omega, k4, by omega, k5, k6⟩
theorem nw_up {nw f g : Int → Int} {k : Int} (hk : 0 ≤ k ∧ k ≤ 239) (h : ∀ m : Int, 0 ≤ m → m ≤ 239 → nw m = f m) (hg : ∀ m : Int, 0 ≤ m → m ≤ 239 → g m = f m + bI (k = m)) : ∀ m : Int, 0 ≤ m → m ≤ 239 → uI nw k (nw k + 1) m = g m := by
  intro m m0 m1
  rw [hg m m0 m1]
  by_cases q : m = k
  · subst q; rw [uI_s, h m m0 m1, bI_t rfl]
  · rw [uI_n q, h m m0 m1, bI_f (fun e => q e.symm)]; omega
theorem nw_dn {nw f g : Int → Int} {k : Int} (hk : 0 ≤ k ∧ k ≤ 239) (h : ∀ m : Int, 0 ≤ m → m ≤ 239 → nw m = g m) (hg : ∀ m : Int, 0 ≤ m → m ≤ 239 → g m = f m + bI (k = m)) : ∀ m : Int, 0 ≤ m → m ≤ 239 → uI nw k (nw k + (-1)) m = f m := by
  intro m m0 m1
  by_cases q : m = k
  · subst q; rw [uI_s, h m m0 m1, hg m m0 m1, bI_t rfl]; omega
  · rw [uI_n q, h m m0 m1, hg m m0 m1, bI_f (fun e => q e.symm)]; omega
theorem GOOD_PUB {N : Int → Int} {y z : Int} (h : GOOD N) (hok : ¬ WHY N y z < 0) : GOOD (PUB N y z) := by
  obtain ⟨hW, hC, hx⟩ := h
  obtain ⟨k1, k2, k3, k4⟩ := WHY_ok hok
  refine ⟨PUB_WF hW k1 k2, by rw [CNTV_PUB k1 k2.1 k3]; omega, fun x x0 x1 => ?_⟩
  rw [PUB_h k1.1 (by decide)] at x1
  have a := PUB_l (N := N) (z := z) x0 k1
  refine ⟨WFb_ag a (hx x x0 x1).1, ?_⟩
  unfold WFk
  rw [a 7 (by decide) (by decide), a 0 (by decide) (by decide), a 12 (by decide) (by decide), a 1 (by decide) (by decide)]
  exact (hx x x0 x1).2
theorem CLS_PUB {N : Int → Int} {y z cv : Int} {av b : Nat → Int → Int} {aE : Nat → Nat → Int → Int} {nw : Int → Int} (h : CLS N av cv aE nw) (hG : GOOD N) (hok : ¬ WHY N y z < 0) (b0 : b 0 = uI (av 0) y z) (b1 : b 1 = uI (av 1) y (N 0)) : CLS (PUB N y z) b (cv + 1) aE (uI nw (N 0) (nw (N 0) + 1)) := by
  obtain ⟨h1, h2, h3, h4⟩ := h
  obtain ⟨k1, k2, k3, k4⟩ := WHY_ok hok
  refine ⟨RV_tell h1 k2.1 hG.1.1 k1 b0 b1, by rw [CNTV_PUB k1 k2.1 k3, h2], fun x hx => ?_, nw_up hG.1.1 h4 (fun m _ _ => NWc_PUB k1 k2.1 k3)⟩
  rw [PUB_h k1.1 (by decide)] at hx
  exact TR_PUB (by omega) k1 (h3 x hx)
theorem CLS_PUBd {N : Int → Int} {y z cv : Int} {av b : Nat → Int → Int} {aE : Nat → Nat → Int → Int} {nw : Int → Int} (h : CLS (PUB N y z) av cv aE nw) (hG : GOOD N) (hok : ¬ WHY N y z < 0) (b0 : b 0 = uI (av 0) y 0) (b1 : b 1 = uI (av 1) y 240) : CLS N b (cv - 1) aE (uI nw (N 0) (nw (N 0) + (-1))) := by
  obtain ⟨h1, h2, h3, h4⟩ := h
  obtain ⟨k1, k2, k3, k4⟩ := WHY_ok hok
  have v := hG.1.2.2.2.1 y k1.1 k1.2
  refine ⟨RV_PUBd h1 k1 (by omega) b0 b1, by rw [h2, CNTV_PUB k1 k2.1 k3]; omega, fun x hx => ?_, nw_dn hG.1.1 h4 (fun m _ _ => NWc_PUB k1 k2.1 k3)⟩
  have t := h3 x (by rw [PUB_h k1.1 (by decide)]; exact hx)
  have a : AGl N (PUB N y z) x := fun w w0 w1 => (PUB_l (N := N) (z := z) (by omega) k1 w w0 w1).symm
  exact TR_ag a t
theorem GOOD_MKT {N : Int → Int} {x r z : Int} (h : GOOD N) (hok : okM N x r z) : GOOD (MKT N x r z) := by
  obtain ⟨hW, hC, hx⟩ := h
  obtain ⟨k1, k2, k3, k4, k5⟩ := okM_ok hW hok
  rw [MKT_TEL]
  have hls := hW.2.2.2.2 x k1.1 k1.2
  have q := MK_x (r := r) (z := z) hW.1 hls.1 hls.2 k3 k4
  have av := TEL_v (N := N) (i := 20 + r) (j := 140 + r) (z := z) k1.1 (by omega) (by omega)
  have al : ∀ y9 : Int, y9 ≠ x → AGl (TEL N x (20 + r) (140 + r) z) N y9 := fun y9 h9 => TEL_l ⟨by omega, by omega⟩ ⟨by omega, by omega⟩ h9
  have ah : ∀ k : Int, k < 483 → TEL N x (20 + r) (140 + r) z k = N k := fun k hk => TEL_h k1.1 (by omega) (by omega) hk
  refine ⟨WF_one (x := x) hW av (ah 0 (by decide)) (ah 1 (by decide)) (ah 2 (by decide)) (fun y9 _ _ h9 => al y9 h9) q.1 q.2, by rw [CNTV_ag av 240 (by decide)]; exact hC, fun y9 y0 y1 => ?_⟩
  rw [ah 2 (by decide)] at y1
  have e1 : ∀ w : Int, 0 ≤ w → w < 20 → LF (TEL N x (20 + r) (140 + r) z) y9 w = LF N y9 w := by
    intro w w0 w1
    by_cases h9 : y9 = x
    · subst h9; exact TEL_n (by omega) (by omega)
    · exact al y9 h9 w w0 (by omega)
  unfold WFb WFk
  rw [e1 13 (by decide) (by decide), e1 7 (by decide) (by decide), e1 0 (by decide) (by decide), e1 12 (by decide) (by decide), e1 1 (by decide) (by decide)]
  exact hx y9 y0 y1
theorem NWc_MKT {N : Int → Int} {x r z : Int} {m : Int} (hG : GOOD N) (hok : okM N x r z) : NWc (MKT N x r z) m = NWc N m + bI (N 0 = m) := by
  obtain ⟨k1, k2, k3, k4, k5⟩ := okM_ok hG.1 hok
  rw [MKT_TEL, NWc_one (x := x) (TEL_v k1.1 (by omega) (by omega)) (TEL_h k1.1 (by omega) (by omega) (by decide)) k1 (fun y9 _ _ h9 => TEL_l ⟨by omega, by omega⟩ ⟨by omega, by omega⟩ h9), NWl_MK k3 k4.1 k5]
  omega
theorem CLS_MKT {N : Int → Int} {x r z : Int} {cv : Int} {av b : Nat → Int → Int} {aE : Nat → Nat → Int → Int} {nw : Int → Int} (h : CLS N av cv aE nw) (hG : GOOD N) (hok : okM N x r z) (b2 : b 2 = uI (aE x.toNat 2) r z) (b3 : b 3 = uI (aE x.toNat 3) r (N 0)) : CLS (MKT N x r z) av cv (uE aE x b) (uI nw (N 0) (nw (N 0) + 1)) := by
  obtain ⟨h1, h2, h3, h4⟩ := h
  obtain ⟨k1, k2, k3, k4, k5⟩ := okM_ok hG.1 hok
  have n9 : ∀ m : Int, 0 ≤ m → m ≤ 239 → NWc (MKT N x r z) m = NWc N m + bI (N 0 = m) := fun m _ _ => NWc_MKT hG hok
  rw [MKT_TEL] at n9 ⊢
  have av9 := TEL_v (N := N) (i := 20 + r) (j := 140 + r) (z := z) k1.1 (by omega) (by omega)
  refine ⟨RV_ag av9 h1, by rw [CNTV_ag av9 240 (by decide)]; exact h2, fun y9 h9 => ?_, nw_up hG.1.1 h4 n9⟩
  rw [TEL_h k1.1 (by omega) (by omega) (by decide)] at h9
  by_cases q : (y9 : Int) = x
  · have e : uE aE x b y9 = b := if_pos q
    rw [e, q]
    have t := h3 x.toNat (by omega)
    rw [show ((x.toNat : Nat) : Int) = x by omega] at t
    exact TR_MK t k2 hG.1.1 k3 k4 b2 b3
  · have e : uE aE x b y9 = aE y9 := if_neg q
    rw [e]
    exact TR_ag (TEL_l ⟨by omega, by omega⟩ ⟨by omega, by omega⟩ q) (h3 y9 h9)
theorem CLS_MKTd {N : Int → Int} {x r z : Int} {cv : Int} {av b : Nat → Int → Int} {aE : Nat → Nat → Int → Int} {nw : Int → Int} (h : CLS (MKT N x r z) av cv aE nw) (hG : GOOD N) (hok : okM N x r z) (b2 : b 2 = uI (aE x.toNat 2) r 0) (b3 : b 3 = uI (aE x.toNat 3) r 240) : CLS N av cv (uE aE x b) (uI nw (N 0) (nw (N 0) + (-1))) := by
  obtain ⟨h1, h2, h3, h4⟩ := h
  obtain ⟨k1, k2, k3, k4, k5⟩ := okM_ok hG.1 hok
  have n9 : ∀ m : Int, 0 ≤ m → m ≤ 239 → NWc (MKT N x r z) m = NWc N m + bI (N 0 = m) := fun m _ _ => NWc_MKT hG hok
  rw [MKT_TEL] at n9 h1 h2 h3 h4
  have av9 := TEL_v (N := N) (i := 20 + r) (j := 140 + r) (z := z) k1.1 (by omega) (by omega)
  have av8 : AGv N (TEL N x (20 + r) (140 + r) z) := fun j j0 j1 => (av9 j j0 j1).symm
  refine ⟨RV_ag av8 h1, by rw [CNTV_ag av8 240 (by decide)]; exact h2, fun y9 h9 => ?_, nw_dn hG.1.1 h4 n9⟩
  have h8 : (y9 : Int) < TEL N x (20 + r) (140 + r) z 2 := by rw [TEL_h k1.1 (by omega) (by omega) (by decide)]; exact h9
  by_cases q : (y9 : Int) = x
  · have e : uE aE x b y9 = b := if_pos q
    rw [e, q]
    have t := h3 y9 h8
    rw [show y9 = x.toNat by omega, show ((x.toNat : Nat) : Int) = x by omega] at t
    exact TR_MKd t k2 k5 k3 b2 b3
  · have e : uE aE x b y9 = aE y9 := if_neg q
    rw [e]
    have al := TEL_l (N := N) (i := 20 + r) (j := 140 + r) (z := z) ⟨by omega, by omega⟩ ⟨by omega, by omega⟩ q
    exact TR_ag (fun w w0 w1 => (al w w0 w1).symm) (h3 y9 h8)
theorem GOOD_TRN {N : Int → Int} {x y z : Int} (h : GOOD N) (hok : okT N x y z) : GOOD (TRN N x y z) := by
  obtain ⟨hW, hC, hx⟩ := h
  obtain ⟨k1, k2, k3, k4, k5⟩ := okT_ok hW hok
  rw [TRN_TEL]
  have hls := hW.2.2.2.2 x k1.1 k1.2
  have q := TN_x (r := (y - LF N x 0)) (z := (z + 1)) hW.1 hls.1 hls.2 k3 ⟨by omega, by omega⟩
  have av := TEL_v (N := N) (i := 260 + (y - LF N x 0)) (j := 380 + (y - LF N x 0)) (z := (z + 1)) k1.1 (by omega) (by omega)
  have al : ∀ y9 : Int, y9 ≠ x → AGl (TEL N x (260 + (y - LF N x 0)) (380 + (y - LF N x 0)) (z + 1)) N y9 := fun y9 h9 => TEL_l ⟨by omega, by omega⟩ ⟨by omega, by omega⟩ h9
  have ah : ∀ k : Int, k < 483 → TEL N x (260 + (y - LF N x 0)) (380 + (y - LF N x 0)) (z + 1) k = N k := fun k hk => TEL_h k1.1 (by omega) (by omega) hk
  refine ⟨WF_one (x := x) hW av (ah 0 (by decide)) (ah 1 (by decide)) (ah 2 (by decide)) (fun y9 _ _ h9 => al y9 h9) q.1 q.2, by rw [CNTV_ag av 240 (by decide)]; exact hC, fun y9 y0 y1 => ?_⟩
  rw [ah 2 (by decide)] at y1
  have e1 : ∀ w : Int, 0 ≤ w → w < 20 → LF (TEL N x (260 + (y - LF N x 0)) (380 + (y - LF N x 0)) (z + 1)) y9 w = LF N y9 w := by
    intro w w0 w1
    by_cases h9 : y9 = x
    · subst h9; exact TEL_n (by omega) (by omega)
    · exact al y9 h9 w w0 (by omega)
  unfold WFb WFk
  rw [e1 13 (by decide) (by decide), e1 7 (by decide) (by decide), e1 0 (by decide) (by decide), e1 12 (by decide) (by decide), e1 1 (by decide) (by decide)]
  exact hx y9 y0 y1
theorem NWc_TRN {N : Int → Int} {x y z : Int} {m : Int} (hG : GOOD N) (hok : okT N x y z) : NWc (TRN N x y z) m = NWc N m + bI (N 0 = m) := by
  obtain ⟨k1, k2, k3, k4, k5⟩ := okT_ok hG.1 hok
  rw [TRN_TEL, NWc_one (x := x) (TEL_v k1.1 (by omega) (by omega)) (TEL_h k1.1 (by omega) (by omega) (by decide)) k1 (fun y9 _ _ h9 => TEL_l ⟨by omega, by omega⟩ ⟨by omega, by omega⟩ h9), NWl_TN k3 (by omega) k5]
  omega
theorem CLS_TRN {N : Int → Int} {x y z : Int} {cv : Int} {av b : Nat → Int → Int} {aE : Nat → Nat → Int → Int} {nw : Int → Int} (h : CLS N av cv aE nw) (hG : GOOD N) (hok : okT N x y z) (b2 : b 2 = uI (aE x.toNat 2) (y - LF N x 0) z) (b3 : b 3 = uI (aE x.toNat 3) (y - LF N x 0) (N 0)) : CLS (TRN N x y z) av cv (uE aE x b) (uI nw (N 0) (nw (N 0) + 1)) := by
  obtain ⟨h1, h2, h3, h4⟩ := h
  obtain ⟨k1, k2, k3, k4, k5⟩ := okT_ok hG.1 hok
  have n9 : ∀ m : Int, 0 ≤ m → m ≤ 239 → NWc (TRN N x y z) m = NWc N m + bI (N 0 = m) := fun m _ _ => NWc_TRN hG hok
  rw [TRN_TEL] at n9 ⊢
  have av9 := TEL_v (N := N) (i := 260 + (y - LF N x 0)) (j := 380 + (y - LF N x 0)) (z := (z + 1)) k1.1 (by omega) (by omega)
  refine ⟨RV_ag av9 h1, by rw [CNTV_ag av9 240 (by decide)]; exact h2, fun y9 h9 => ?_, nw_up hG.1.1 h4 n9⟩
  rw [TEL_h k1.1 (by omega) (by omega) (by decide)] at h9
  by_cases q : (y9 : Int) = x
  · have e : uE aE x b y9 = b := if_pos q
    rw [e, q]
    have t := h3 x.toNat (by omega)
    rw [show ((x.toNat : Nat) : Int) = x by omega] at t
    exact TR_TN t k2 hG.1.1 k3 k4 b2 b3
  · have e : uE aE x b y9 = aE y9 := if_neg q
    rw [e]
    exact TR_ag (TEL_l ⟨by omega, by omega⟩ ⟨by omega, by omega⟩ q) (h3 y9 h9)
theorem CLS_TRNd {N : Int → Int} {x y z : Int} {cv : Int} {av b : Nat → Int → Int} {aE : Nat → Nat → Int → Int} {nw : Int → Int} (h : CLS (TRN N x y z) av cv aE nw) (hG : GOOD N) (hok : okT N x y z) (b2 : b 2 = uI (aE x.toNat 2) (y - LF N x 0) 0) (b3 : b 3 = uI (aE x.toNat 3) (y - LF N x 0) 240) : CLS N av cv (uE aE x b) (uI nw (N 0) (nw (N 0) + (-1))) := by
  obtain ⟨h1, h2, h3, h4⟩ := h
  obtain ⟨k1, k2, k3, k4, k5⟩ := okT_ok hG.1 hok
  have n9 : ∀ m : Int, 0 ≤ m → m ≤ 239 → NWc (TRN N x y z) m = NWc N m + bI (N 0 = m) := fun m _ _ => NWc_TRN hG hok
  rw [TRN_TEL] at n9 h1 h2 h3 h4
  have av9 := TEL_v (N := N) (i := 260 + (y - LF N x 0)) (j := 380 + (y - LF N x 0)) (z := (z + 1)) k1.1 (by omega) (by omega)
  have av8 : AGv N (TEL N x (260 + (y - LF N x 0)) (380 + (y - LF N x 0)) (z + 1)) := fun j j0 j1 => (av9 j j0 j1).symm
  refine ⟨RV_ag av8 h1, by rw [CNTV_ag av8 240 (by decide)]; exact h2, fun y9 h9 => ?_, nw_dn hG.1.1 h4 n9⟩
  have h8 : (y9 : Int) < TEL N x (260 + (y - LF N x 0)) (380 + (y - LF N x 0)) (z + 1) 2 := by rw [TEL_h k1.1 (by omega) (by omega) (by decide)]; exact h9
  by_cases q : (y9 : Int) = x
  · have e : uE aE x b y9 = b := if_pos q
    rw [e, q]
    have t := h3 y9 h8
    rw [show y9 = x.toNat by omega, show ((x.toNat : Nat) : Int) = x by omega] at t
    exact TR_TNd t k2 k5 k3 b2 b3
  · have e : uE aE x b y9 = aE y9 := if_neg q
    rw [e]
    have al := TEL_l (N := N) (i := 260 + (y - LF N x 0)) (j := 380 + (y - LF N x 0)) (z := (z + 1)) ⟨by omega, by omega⟩ ⟨by omega, by omega⟩ q
    exact TR_ag (fun w w0 w1 => (al w w0 w1).symm) (h3 y9 h8)
theorem GOOD_BRK {N : Int → Int} {x : Int} (h : GOOD N) (hok : okB N x) : GOOD (BRK N x) := by
  obtain ⟨hW, hC, hx⟩ := h
  obtain ⟨k1, k2, k3, k4⟩ := hok
  have hls := hW.2.2.2.2 x k1.1 (by omega)
  have q := BRK_x hW.1 hls.1 hls.2 (hx x k1.1 (by omega)).2 k2
  have av := BRK_v (N := N) k1.1
  refine ⟨WF_one (x := x) hW av (BRK_h k1.1 (by decide)) (BRK_h k1.1 (by decide)) (BRK_h k1.1 (by decide)) (fun y9 _ _ h9 => BRK_l h9) q.1 q.2, by rw [CNTV_ag av 240 (by decide)]; exact hC, fun y9 y0 y1 => ?_⟩
  rw [BRK_h k1.1 (by decide)] at y1
  have e1 : ∀ w : Int, 0 ≤ w → w < 13 → LF (BRK N x) y9 w = LF N y9 w := by
    intro w w0 w1
    by_cases h9 : y9 = x
    · subst h9; exact BRK_n (by omega)
    · exact BRK_l h9 w w0 (by omega)
  refine ⟨fun q9 => ?_, ?_⟩
  · rw [e1 7 (by decide) (by decide)]
    by_cases h9 : y9 = x
    · rw [h9]; exact k2
    · rw [BRK_l h9 13 (by decide) (by decide)] at q9
      exact (hx y9 y0 y1).1 q9
  · unfold WFk
    rw [e1 7 (by decide) (by decide), e1 0 (by decide) (by decide), e1 12 (by decide) (by decide), e1 1 (by decide) (by decide)]
    exact (hx y9 y0 y1).2
theorem NWc_BRK {N : Int → Int} {x m : Int} (hm : 0 ≤ m) (hok : okB N x) : NWc (BRK N x) m = NWc N m + bI (N 0 = m) := by
  obtain ⟨k1, k2, k3, k4⟩ := hok
  rw [NWc_one (x := x) (BRK_v k1.1) (BRK_h k1.1 (by decide)) ⟨k1.1, by omega⟩ (fun y9 _ _ h9 => BRK_l h9), NWl_BRK hm k4]
  omega
theorem CLS_BRK {N : Int → Int} {x cv : Int} {av : Nat → Int → Int} {aE : Nat → Nat → Int → Int} {nw : Int → Int} (h : CLS N av cv aE nw) (hG : GOOD N) (hok : okB N x) : CLS (BRK N x) av cv aE (uI nw (N 0) (nw (N 0) + 1)) := by
  obtain ⟨h1, h2, h3, h4⟩ := h
  have k1 := hok.1
  have av9 := BRK_v (N := N) k1.1
  refine ⟨RV_ag av9 h1, by rw [CNTV_ag av9 240 (by decide)]; exact h2, fun y9 h9 => ?_, nw_up hG.1.1 h4 (fun m m0 _ => NWc_BRK m0 hok)⟩
  rw [BRK_h k1.1 (by decide)] at h9
  by_cases q : (y9 : Int) = x
  · have t := h3 y9 h9
    rw [q] at t ⊢
    exact BRK_TR.mpr t
  · exact TR_ag (BRK_l q) (h3 y9 h9)
theorem CLS_BRKd {N : Int → Int} {x cv : Int} {av : Nat → Int → Int} {aE : Nat → Nat → Int → Int} {nw : Int → Int} (h : CLS (BRK N x) av cv aE nw) (hG : GOOD N) (hok : okB N x) : CLS N av cv aE (uI nw (N 0) (nw (N 0) + (-1))) := by
  obtain ⟨h1, h2, h3, h4⟩ := h
  have k1 := hok.1
  have av9 := BRK_v (N := N) k1.1
  have av8 : AGv N (BRK N x) := fun j j0 j1 => (av9 j j0 j1).symm
  refine ⟨RV_ag av8 h1, by rw [CNTV_ag av8 240 (by decide)]; exact h2, fun y9 h9 => ?_, nw_dn hG.1.1 h4 (fun m m0 _ => NWc_BRK m0 hok)⟩
  have t := h3 y9 (by rw [BRK_h k1.1 (by decide)]; exact h9)
  by_cases q : (y9 : Int) = x
  · rw [q] at t ⊢
    exact BRK_TR.mp t
  · exact TR_ag (fun w w0 w1 => (BRK_l (N := N) q w w0 w1).symm) t
theorem GOOD_PAS {N : Int → Int} {z : Int} (h : GOOD N) (hok : okA N z) : GOOD (PAS N z) := by
  obtain ⟨hW, hC, hx⟩ := h
  refine ⟨PAS_WF hW hok, by rw [CNTV_ag PAS_v 240 (by decide)]; exact hC, fun x x0 x1 => ?_⟩
  rw [PAS_n (by decide)] at x1
  have a := PAS_l (N := N) (z := z) x0
  refine ⟨WFb_ag a (hx x x0 x1).1, ?_⟩
  unfold WFk
  rw [a 7 (by decide) (by decide), a 0 (by decide) (by decide), a 12 (by decide) (by decide), a 1 (by decide) (by decide)]
  exact (hx x x0 x1).2
theorem CLS_PAS {N : Int → Int} {z cv : Int} {av : Nat → Int → Int} {aE : Nat → Nat → Int → Int} {nw : Int → Int} : CLS (PAS N z) av cv aE nw ↔ CLS N av cv aE nw := by
  have e2 : PAS N z 2 = N 2 := PAS_n (by decide)
  have vs : AGv N (PAS N z) := fun j j0 j1 => (PAS_v (N := N) (z := z) j j0 j1).symm
  have n9 : ∀ m, NWc (PAS N z) m = NWc N m := fun m => NWc_ag PAS_v e2 (fun x x0 _ => PAS_l x0)
  constructor
  · rintro ⟨h1, h2, h3, h4⟩
    exact ⟨RV_ag vs h1, by rw [h2]; exact CNTV_ag PAS_v 240 (by decide), fun x hx => TR_ag (fun w w0 w1 => (PAS_l (N := N) (z := z) (by omega) w w0 w1).symm) (h3 x (by rw [e2]; exact hx)), fun m m0 m1 => by rw [h4 m m0 m1, n9]⟩
  · rintro ⟨h1, h2, h3, h4⟩
    exact ⟨RV_ag PAS_v h1, by rw [h2]; exact (CNTV_ag PAS_v 240 (by decide)).symm, fun x hx => TR_ag (PAS_l (by omega)) (h3 x (by rw [← e2]; exact hx)), fun m m0 m1 => by rw [h4 m m0 m1, n9]⟩
