/-! RULES: Math, System.arraycopy over ints, a static, methods with handlers of their own -/
section ZMORE
variable {Z : zPar} {l : Launch} {d d' : Nat} {mm mm' : zMeth} {pc n nc ns ix : Nat} {L : List (Nat × Value)} {st : List Value} {M : zMem} {Q Post : zO → zMem → Prop}
def zMath (own : String) (ix : Nat) (y : MethodName) (cc : ByteArray) (k : Nat) : Prop := zwd (.methodLink own ix y) ∧ zwd (.static y) ∧ zwd (.initialized "java/lang/Math") ∧ zwd (.code y cc k (some .int))
theorem zs_max {x y : Int32} (hd : decode (zMC mm) pc = .ok (.invokestatic ix, 3)) (hw : zMath (zMY mm).cls ix Lib.Math.max.name Lib.Math.max.code 2) (hst : st.length ≤ 20) (hn : pc + 3 = n) (k : zX Z l d mm n L (.int (if x < y then y else x) :: st) M nc ns Q) : zX Z l d mm pc L (.int y :: .int x :: st) M nc ns Q := by
  subst hn
  intro p e R s m args below meth c H locs cells slots QF ls C hl hM hS hc hs hE
  have hW := C.2.2.2.2.2.2.2.2.2.1
  have hf := C.2.2.2.2.2.2.2.2.2.2.2.2.2.1
  have hlo := C.2.2.2.2.2.2.2.2.2.2.2.2.2.2
  have hcat := zcat st
  obtain ⟨w1, w2, w3, w4⟩ := hw
  exact va_mmax C.1 C.2.1 (C.2.2.1.trans hl.1.symm) C.2.2.2.1 (hW.use w1.1 w1.2) (hW.use w2.1 w2.2) (hW.use w3.1 w3.2) (hW.use w4.1 w4.2) (by omega) (by omega) (by omega) (by omega) hd (k p e R s m args below meth c H locs cells slots QF ls C hl hM hS hc hs hE)
theorem zs_min {x y : Int32} (hd : decode (zMC mm) pc = .ok (.invokestatic ix, 3)) (hw : zMath (zMY mm).cls ix Lib.Math.min.name Lib.Math.min.code 2) (hst : st.length ≤ 20) (hn : pc + 3 = n) (k : zX Z l d mm n L (.int (if y < x then y else x) :: st) M nc ns Q) : zX Z l d mm pc L (.int y :: .int x :: st) M nc ns Q := by
  subst hn
  intro p e R s m args below meth c H locs cells slots QF ls C hl hM hS hc hs hE
  have hW := C.2.2.2.2.2.2.2.2.2.1
  have hf := C.2.2.2.2.2.2.2.2.2.2.2.2.2.1
  have hlo := C.2.2.2.2.2.2.2.2.2.2.2.2.2.2
  have hcat := zcat st
  obtain ⟨w1, w2, w3, w4⟩ := hw
  exact va_mmin C.1 C.2.1 (C.2.2.1.trans hl.1.symm) C.2.2.2.1 (hW.use w1.1 w1.2) (hW.use w2.1 w2.2) (hW.use w3.1 w3.2) (hW.use w4.1 w4.2) (by omega) (by omega) (by omega) (by omega) hd (k p e R s m args below meth c H locs cells slots QF ls C hl hM hS hc hs hE)
theorem zs_abs {x : Int32} (hd : decode (zMC mm) pc = .ok (.invokestatic ix, 3)) (hw : zMath (zMY mm).cls ix Lib.Math.abs.name Lib.Math.abs.code 1) (hst : st.length ≤ 20) (hn : pc + 3 = n) (k : zX Z l d mm n L (.int (if 0 ≤ x then x else 0 - x) :: st) M nc ns Q) : zX Z l d mm pc L (.int x :: st) M nc ns Q := by
  subst hn
  intro p e R s m args below meth c H locs cells slots QF ls C hl hM hS hc hs hE
  have hW := C.2.2.2.2.2.2.2.2.2.1
  have hf := C.2.2.2.2.2.2.2.2.2.2.2.2.2.1
  have hlo := C.2.2.2.2.2.2.2.2.2.2.2.2.2.2
  have hcat := zcat st
  obtain ⟨w1, w2, w3, w4⟩ := hw
  exact va_mabs C.1 C.2.1 (C.2.2.1.trans hl.1.symm) C.2.2.2.1 (hW.use w1.1 w1.2) (hW.use w2.1 w2.2) (hW.use w3.1 w3.2) (hW.use w4.1 w4.2) (by omega) (by omega) (by omega) (by omega) hd (k p e R s m args below meth c H locs cells slots QF ls C hl hM hS hc hs hE)
/-- a whole int row written anew -/
abbrev sAIr (M : zMem) (a : Nat) (f : Nat → Int32) : zMem := (mK M, mN M, mG M, vI M, vR M, u1 (aI M) a f, aR M, aL M, aD M)
abbrev sARr (M : zMem) (a : Nat) (f : Nat → Option Nat) : zMem := (mK M, mN M, mG M, vI M, vR M, aI M, u1 (aR M) a f, aL M, aD M)
def zCpy (own : String) (ix : Nat) : Prop := zwd (.methodLink own ix arraycopyName) ∧ zwd (.native arraycopyName) ∧ zwd (.static arraycopyName) ∧ zwd (.initialized "java/lang/System")
theorem zs_copyI {a0 a : Nat} {sp dp k9 : Int32} (hd : decode (zMC mm) pc = .ok (.invokestatic ix, 3)) (hw : zCpy (zMY mm).cls ix) (hK0 : mK M a0 = 1) (hK : mK M a = 1) (h1 : ¬ sp < 0) (h2 : ¬ dp < 0) (h3 : ¬ k9 < 0) (h4 : sp.toNatClampNeg + k9.toNatClampNeg ≤ mN M a0) (h5 : dp.toNatClampNeg + k9.toNatClampNeg ≤ mN M a) (hst : st.length ≤ 20) (hn : pc + 3 = n)
    (k : zX Z l d mm n L st (sAIr M a (va_cpy (aI M a0) (aI M a) sp.toNatClampNeg dp.toNatClampNeg k9.toNatClampNeg)) nc ns Q) : zX Z l d mm pc L (.int k9 :: .int dp :: .ref a :: .int sp :: .ref a0 :: st) M nc ns Q := by
  subst hn
  intro p e R s m args below meth c H locs cells slots QF ls C hl hM hS hc hs hE
  obtain ⟨ws, hP, hD, hI, hC⟩ := hM
  obtain ⟨q0, hq0⟩ := hI a0 ⟨by omega, by omega, by omega⟩
  obtain ⟨q1, hq1⟩ := hI a ⟨by omega, by omega, by omega⟩
  rw [zE1 hK0] at hq0
  rw [zE1 hK] at hq1
  have hW := C.2.2.2.2.2.2.2.2.2.1
  have hf := C.2.2.2.2.2.2.2.2.2.2.2.2.2.1
  have hlo := C.2.2.2.2.2.2.2.2.2.2.2.2.2.2
  have hcat := zcat st
  obtain ⟨w1, w2, w3, w4⟩ := hw
  refine va_copyi C.1 C.2.1 (C.2.2.1.trans hl.1.symm) C.2.2.2.1 (hW.use w1.1 w1.2) (hW.use w2.1 w2.2) (hW.use w3.1 w3.2) (hW.use w4.1 w4.2) C.2.2.2.2.2.2.2.2.2.2.1 hP hD hS q0 q1 0 0 hq0 hq1 rfl rfl rfl h1 h2 h3 h4 h5 (fun _ _ => rfl) (by omega) ?_ hd (fun H1 locs1 hP1 hD1 hS1 => ?_)
  · have : nativeFrameWords "java/lang/System" "arraycopy" 5 = 7 := by decide +kernel
    omega
  · refine k p e R s m args below meth c H1 locs1 cells slots QF ls C hl ⟨_, hP1, hD1, zIn_set hq1 hI (fun b hb => hb) ?_ (fun b hb => zEnt_ne rfl rfl rfl rfl (u1_ne hb) rfl rfl rfl), zCo_row rfl rfl rfl hC⟩ hS1 hc hs hE
    rw [zE1 (show mK (sAIr M a _) a = 1 from hK), show aI (sAIr M a (va_cpy (aI M a0) (aI M a) sp.toNatClampNeg dp.toNatClampNeg k9.toNatClampNeg)) a = _ from u1_at]
/-- ArrayList.DEFAULTCAPACITY_EMPTY_ELEMENTDATA -/
theorem zs_getsE (hd : decode (zMC mm) pc = .ok (.getstatic ix, 3)) (hw : zwd (.fieldLink (zMY mm).cls ix "java/util/ArrayList" "DEFAULTCAPACITY_EMPTY_ELEMENTDATA" "[Ljava/lang/Object;")) (hn : pc + 3 = n) (k : zX Z l d mm n L (.ref (zPe Z) :: st) M nc ns Q) : zX Z l d mm pc L st M nc ns Q := by
  subst hn
  intro p e R s m args below meth c H locs cells slots QF ls C hl hM hS hc hs hE
  have hW := C.2.2.2.2.2.2.2.2.2.1
  exact va_gets C.1 C.2.1 C.2.2.2.2.2.2.2.2.2.2.2.1.1 hS C.2.2.2.1 (hW.use hw.1 hw.2) (fun _ h => h) hd (k p e R s m args below meth c H locs cells slots QF ls C hl hM hS hc hs hE)
end ZMORE
