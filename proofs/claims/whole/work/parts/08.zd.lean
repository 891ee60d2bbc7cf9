/-! ===== more rows ===== -/
def zmax (a b : Int) : Int := if a < b then b else a
def zmin (a b : Int) : Int := if b < a then b else a
theorem zmax_is (a b : Int) : a ≤ zmax a b ∧ b ≤ zmax a b ∧ (zmax a b = a ∨ zmax a b = b) := by unfold zmax; split <;> omega
theorem zmin_is (a b : Int) : zmin a b ≤ a ∧ zmin a b ≤ b ∧ (zmin a b = a ∨ zmin a b = b) := by unfold zmin; split <;> omega
def zand (a b : Int) : Int := (iI a &&& iI b).toInt
def zor (a b : Int) : Int := (iI a ||| iI b).toInt
def zushr (a b : Int) : Int := ((iI a).toUInt32 >>> ((iI b).toUInt32 &&& Int32.toUInt32 31)).toInt32.toInt
theorem zand_R (a b : Int) : -2147483648 ≤ zand a b ∧ zand a b < 2147483648 := iI_R _
theorem zor_R (a b : Int) : -2147483648 ≤ zor a b ∧ zor a b < 2147483648 := iI_R _
section ZD
variable {p : Program} {l : Launch} {e : Env} {R : Room} {s : State} {m : MethodId} {args : Array Value} {below : List Frame} {meth : Method} {c : Code} {H : Heap} {locs : List Loc} {cells slots : Nat} {Q : State → Prop}
variable {cc : ByteArray} {pc : Nat} {ls : Array Slot} {rest : List Value} {nL : Nat} {Ts : List Cond} {own : String}
theorem z_iand (hexec : p.tables.exec = Jvm.exec) (hb : c.code = cc) {a b : Int} (hdg : decode cc pc = .ok (.iand, 1)) (k : W p l e R s m args below meth c H locs cells slots Q (F0 m (pc + 1) ls (.int (iI (zand a b)) :: rest))) : W p l e R s m args below meth c H locs cells slots Q (F0 m pc ls (.int (iI b) :: .int (iI a) :: rest)) := lv_iand hexec hb hdg (by rw [show zand a b = (iI a &&& iI b).toInt from rfl, ← iI_of] at k; exact k)
theorem z_ior (hexec : p.tables.exec = Jvm.exec) (hb : c.code = cc) {a b : Int} (hdg : decode cc pc = .ok (.ior, 1)) (k : W p l e R s m args below meth c H locs cells slots Q (F0 m (pc + 1) ls (.int (iI (zor a b)) :: rest))) : W p l e R s m args below meth c H locs cells slots Q (F0 m pc ls (.int (iI b) :: .int (iI a) :: rest)) := lv_ior hexec hb hdg (by rw [show zor a b = (iI a ||| iI b).toInt from rfl, ← iI_of] at k; exact k)
theorem z_iushr (hexec : p.tables.exec = Jvm.exec) (hb : c.code = cc) {a b : Int} (hdg : decode cc pc = .ok (.iushr, 1)) (k : W p l e R s m args below meth c H locs cells slots Q (F0 m (pc + 1) ls (.int (iI (zushr a b)) :: rest))) : W p l e R s m args below meth c H locs cells slots Q (F0 m pc ls (.int (iI b) :: .int (iI a) :: rest)) := lv_iushr hexec hb hdg (iI_of _) k
theorem z_tabIn (hexec : p.tables.exec = Jvm.exec) (hb : c.code = cc) {dflt lo hi : Int} {offs : Array Int} {len : Nat} {a z : Int} {off : Int} {tgt : Nat} (hdg : decode cc pc = .ok (.tableswitch dflt lo hi offs, len)) (hz : a = z) (hR : R3 z) (h1 : ¬ z < lo) (h2 : ¬ hi < z) (ho : offs[(z - lo).toNat]? = some off) (ht : (pc : Int) + off = (tgt : Int)) (k : W p l e R s m args below meth c H locs cells slots Q (F0 m tgt ls rest)) : W p l e R s m args below meth c H locs cells slots Q (F0 m pc ls (.int (iI a) :: rest)) := by
  subst hz
  exact lv_tableIn hexec hb hdg (by rw [iI_toInt hR]; exact h1) (by rw [iI_toInt hR]; exact h2) (by rw [iI_toInt hR]; exact ho) ht k
theorem z_tabOut (hexec : p.tables.exec = Jvm.exec) (hb : c.code = cc) {dflt lo hi : Int} {offs : Array Int} {len : Nat} {a : Int} {tgt : Nat} (hdg : decode cc pc = .ok (.tableswitch dflt lo hi offs, len)) (hR : R3 a) (h : a < lo ∨ hi < a) (ht : (pc : Int) + dflt = (tgt : Int)) (k : W p l e R s m args below meth c H locs cells slots Q (F0 m tgt ls rest)) : W p l e R s m args below meth c H locs cells slots Q (F0 m pc ls (.int (iI a) :: rest)) :=
  lv_tableOut hexec hb hdg (by rw [iI_toInt hR]; exact h) ht k
theorem z_mmax (F : CallFix p m c cc nL s args Ts own) (hls : ls.size = nL) (i1 i2 i3 i4 : Nat) {index : Nat} {a b : Int} (h1 : Ts[i1]? = some (.methodLink own index Lib.Math.max.name)) (h2 : Ts[i2]? = some (.static Lib.Math.max.name)) (h3 : Ts[i3]? = some (.initialized "java/lang/Math")) (h4 : Ts[i4]? = some (.code Lib.Math.max.name Lib.Math.max.code 2 (some .int))) (hfr : 1 ≤ R.frames) (hlo : (rest.map fun v => v.category).sum + 13 ≤ R.locals) (hf : cells ≤ R.cells ∧ slots ≤ R.slots) (ha : R3 a) (hb1 : R3 b) (hdg : decode cc pc = .ok (.invokestatic index, 3)) (k : W p l e R s m args below meth c H locs cells slots Q (F0 m (pc + 3) ls (.int (iI (zmax a b)) :: rest))) : W p l e R s m args below meth c H locs cells slots Q (F0 m pc ls (.int (iI b) :: .int (iI a) :: rest)) := by
  refine va_mmax F.1 F.2.1 (F.2.2.1.trans hls.symm) F.2.2.2.1 (F.2.2.2.2 _ (List.mem_of_getElem? h1)) (F.2.2.2.2 _ (List.mem_of_getElem? h2)) (F.2.2.2.2 _ (List.mem_of_getElem? h3)) (F.2.2.2.2 _ (List.mem_of_getElem? h4)) hfr hlo hf.1 hf.2 hdg ?_
  have e1 : (if iI a < iI b then iI b else iI a) = iI (zmax a b) := by
    unfold zmax
    by_cases h : a < b
    · rw [if_pos h, if_pos ((iI_lt ha hb1).mpr h)]
    · rw [if_neg h, if_neg (fun q => h ((iI_lt ha hb1).mp q))]
  rw [e1]; exact k
theorem z_mmin (F : CallFix p m c cc nL s args Ts own) (hls : ls.size = nL) (i1 i2 i3 i4 : Nat) {index : Nat} {a b : Int} (h1 : Ts[i1]? = some (.methodLink own index Lib.Math.min.name)) (h2 : Ts[i2]? = some (.static Lib.Math.min.name)) (h3 : Ts[i3]? = some (.initialized "java/lang/Math")) (h4 : Ts[i4]? = some (.code Lib.Math.min.name Lib.Math.min.code 2 (some .int))) (hfr : 1 ≤ R.frames) (hlo : (rest.map fun v => v.category).sum + 13 ≤ R.locals) (hf : cells ≤ R.cells ∧ slots ≤ R.slots) (ha : R3 a) (hb1 : R3 b) (hdg : decode cc pc = .ok (.invokestatic index, 3)) (k : W p l e R s m args below meth c H locs cells slots Q (F0 m (pc + 3) ls (.int (iI (zmin a b)) :: rest))) : W p l e R s m args below meth c H locs cells slots Q (F0 m pc ls (.int (iI b) :: .int (iI a) :: rest)) := by
  refine va_mmin F.1 F.2.1 (F.2.2.1.trans hls.symm) F.2.2.2.1 (F.2.2.2.2 _ (List.mem_of_getElem? h1)) (F.2.2.2.2 _ (List.mem_of_getElem? h2)) (F.2.2.2.2 _ (List.mem_of_getElem? h3)) (F.2.2.2.2 _ (List.mem_of_getElem? h4)) hfr hlo hf.1 hf.2 hdg ?_
  have e1 : (if iI b < iI a then iI b else iI a) = iI (zmin a b) := by
    unfold zmin
    by_cases h : b < a
    · rw [if_pos h, if_pos ((iI_lt hb1 ha).mpr h)]
    · rw [if_neg h, if_neg (fun q => h ((iI_lt hb1 ha).mp q))]
  rw [e1]; exact k
end ZD
/-! ===== the worlds ===== -/
abbrev tyZ (cI cJ cO : ClassId) : List (ClassId × FieldType) := [(cI, .int), (cJ, .long), (cO, .object "RentReview$Lease")]
def mW (cI cJ : ClassId) (h : Nat) (q : Nat → Nat) (v : Nat → Int) (a : Nat → Int → Int) : va_W := [(h, .inr (11, [.int (iI (v 0)), .ref (q 1), .int (iI (v 2)), .int (iI (v 3)), .int (iI (v 4)), .int (iI (v 5)), .int (iI (v 6)), .int (iI (v 7)), .int (iI (v 8)), .int (iI (v 9)), .long (lI (v 10)), .ref (q 11), .ref (q 12), .ref (q 13), .int (iI (v 14)), .int (iI (v 15)), .ref (q 16), .ref (q 17), .ref (q 18), .ref (q 19), .ref (q 20), .ref (q 21)])), (q 1, .inl (cI, 640, .inl (aI (a 1)))), (q 11, .inl (cI, 3483, .inl (aI (a 11)))), (q 12, .inl (cI, 3483, .inl (aI (a 12)))), (q 13, .inl (cI, 34830, .inl (aI (a 13)))), (q 16, .inl (cJ, 120, .inr (.inl (aL (a 16))))), (q 17, .inl (cJ, 120, .inr (.inl (aL (a 17))))), (q 18, .inl (cJ, 120, .inr (.inl (aL (a 18))))), (q 19, .inl (cJ, 120, .inr (.inl (aL (a 19))))), (q 20, .inl (cI, 120, .inl (aI (a 20)))), (q 21, .inl (cJ, 120, .inr (.inl (aL (a 21)))))]
def tW (cI cJ : ClassId) (h : Nat) (q : Nat → Nat) (v : Nat → Int) (a : Nat → Int → Int) : va_W := [(h, .inr (6, [.ref (q 0), .int (iI (v 1))])), (q 0, .inl (cI, 640, .inl (aI (a 0))))]
def vW (cI cJ : ClassId) (h : Nat) (q : Nat → Nat) (v : Nat → Int) (a : Nat → Int → Int) : va_W := [(h, .inr (8, [.ref (q 0), .ref (q 1), .int (iI (v 2))])), (q 0, .inl (cI, 240, .inl (aI (a 0)))), (q 1, .inl (cI, 240, .inl (aI (a 1))))]
def lW (cI cJ : ClassId) (h : Nat) (q : Nat → Nat) (v : Nat → Int) (a : Nat → Int → Int) : va_W := [(h, .inr (2, [.ref (q 0), .ref (q 1), .ref (q 2), .ref (q 3), .int (iI (v 4)), .int (iI (v 5)), .int (iI (v 6)), .int (iI (v 7)), .int (iI (v 8)), .int (iI (v 9)), .int (iI (v 10)), .int (iI (v 11)), .int (iI (v 12)), .int (iI (v 13))])), (q 0, .inr (3, [.int (iI (v 20)), .int (iI (v 21)), .int (iI (v 22))])), (q 1, .inr (3, [.int (iI (v 30)), .int (iI (v 31)), .int (iI (v 32))])), (q 2, .inl (cI, 120, .inl (aI (a 2)))), (q 3, .inl (cI, 120, .inl (aI (a 3))))]
def kO (cI cJ : ClassId) (h : Nat) (q : Nat → Nat) (v : Nat → Int) (a : Nat → Int → Int) : va_W := [(h, .inr (9, [.ref (q 0), .int (iI (v 1)), .int (iI (v 2)), .int (iI (v 3)), .int (iI (v 4)), .int (iI (v 5)), .int (iI (v 6))]))]
def sW (cI cJ : ClassId) (h : Nat) (q : Nat → Nat) (v : Nat → Int) (a : Nat → Int → Int) : va_W := [(h, .inr (7, [.ref (q 0), .ref (q 1), .ref (q 2), .int (iI (v 3)), .int (iI (v 4))])), (q 0, .inl (cI, 601, .inl (aI (a 0)))), (q 1, .inl (cI, 601, .inl (aI (a 1)))), (q 2, .inl (cI, 601, .inl (aI (a 2))))]
def aW (cI cJ : ClassId) (h : Nat) (q : Nat → Nat) (v : Nat → Int) (a : Nat → Int → Int) : va_W := [(h, .inr (0, [.ref (q 0), .ref (q 1), .ref (q 2), .int (iI (v 3))])), (q 0, .inl (cI, 10, .inl (aI (a 0)))), (q 1, .inl (cI, 10, .inl (aI (a 1)))), (q 2, .inl (cI, 10, .inl (aI (a 2))))]
def pW (cI cJ : ClassId) (h : Nat) (q : Nat → Nat) (v : Nat → Int) (a : Nat → Int → Int) : va_W := [(h, .inr (5, [.int (iI (v 0)), .int (iI (v 1))]))]
def uW (cI cJ : ClassId) (h : Nat) (q : Nat → Nat) (v : Nat → Int) (a : Nat → Int → Int) : va_W := [(h, .inr (3, [.int (iI (v 0)), .int (iI (v 1)), .int (iI (v 2))]))]
def rW (cI cJ : ClassId) (h : Nat) (q : Nat → Nat) (v : Nat → Int) (a : Nat → Int → Int) : va_W := [(h, .inr (4, [.ref (q 0), .int (iI (v 1)), .int (iI (v 2)), .int (iI (v 3)), .int (iI (v 4)), .int (iI (v 5)), .int (iI (v 6))]))]
def iW (cI cJ : ClassId) (h : Nat) (q : Nat → Nat) (v : Nat → Int) (a : Nat → Int → Int) : va_W := [(q 0, .inl (cI, 240, .inl (aI (a 0))))]
