/-! THE JDK's COPIES of rows and lists -/
section ZJDK2
variable {Z : zPar} {l : Launch} {d : Nat} {mm mm' : zMeth} {pc n nc ns ix nargs nc1 ns1 : Nat} {L : List (Nat × Value)} {st st0 As : List Value} {M : zMem} {Q : zO → zMem → Prop} {p e c q : Nat} {f : Nat → Nat}
def zCi (M : zMem) (ci y : Nat) : Prop := mK M y = 10 + ci ∨ (ci = 1 ∧ mK M y = 8)
theorem zRecvC {p : Program} {R : Room} {s : State} {m : MethodId} {meth : Method} {c : Code} {H : Heap} {locs : List Loc} {b ci : Nat} {r : vw_C} (C : zCtx Z l d mm p R s m meth c) (hM : zRep Z M H) (hS : va_S (zA Z) s.heap H locs) (hK : zCi M ci b) (hr : vwCl[ci]? = some r) : ∃ cell : Cell, H[b]? = some cell ∧ cell.vm.isStatics = false ∧ s.vm.findClass r.1 = some cell.cls := by
  rcases hK with hK | ⟨rfl, hK⟩
  · exact zRecv C hM hK hr
  · have e : r = (RJ6, TJ6, 1) := Option.some.inj (hr.symm.trans (rfl : vwCl[1]? = some (RJ6, TJ6, 1)))
    rw [e]
    exact zRecvJ C hM hS (Or.inr hK)
/-- System.arraycopy of references, all of one class -/
theorem zs_copyR {a0 a ci : Nat} {r : vw_C} {sp dp k9 : Int32} (hd : decode (zMC mm) pc = .ok (.invokestatic ix, 3)) (hw : zCpy (zMY mm).cls ix) (hr : vwCl[ci]? = some r) (hca : zwd (.castable r.1 "java/lang/Object")) (hK0 : mK M a0 = 3) (hK : mK M a = 3) (h1 : ¬ sp < 0) (h2 : ¬ dp < 0) (h3 : ¬ k9 < 0) (h4 : sp.toNatClampNeg + k9.toNatClampNeg ≤ mN M a0) (h5 : dp.toNatClampNeg + k9.toNatClampNeg ≤ mN M a) (hel : ∀ i : Nat, i < k9.toNatClampNeg → ∀ y : Nat, aR M a0 (sp.toNatClampNeg + i) = some y → zCi M ci y) (hst : st.length ≤ 20) (hn : pc + 3 = n)
    (k : zX Z l d mm n L st (sARr M a (va_cpy (aR M a0) (aR M a) sp.toNatClampNeg dp.toNatClampNeg k9.toNatClampNeg)) nc ns Q) : zX Z l d mm pc L (.int k9 :: .int dp :: .ref a :: .int sp :: .ref a0 :: st) M nc ns Q := by
  subst hn
  intro p e R s m args below meth c H locs cells slots QF ls C hl hM hS hc hs hE
  have hM0 := hM
  obtain ⟨ws, hP, hD, hI, hC⟩ := hM
  obtain ⟨q0, hq0⟩ := hI a0 ⟨by omega, by omega, by omega⟩
  obtain ⟨q1, hq1⟩ := hI a ⟨by omega, by omega, by omega⟩
  rw [zE3 hK0] at hq0
  rw [zE3 hK] at hq1
  have hW := C.2.2.2.2.2.2.2.2.2.1
  have hf := C.2.2.2.2.2.2.2.2.2.2.2.2.2.1
  have hlo := C.2.2.2.2.2.2.2.2.2.2.2.2.2.2
  have hcat := zcat st
  obtain ⟨w1, w2, w3, w4⟩ := hw
  refine va_copyq (C := r.1) C.1 C.2.1 (C.2.2.1.trans hl.1.symm) C.2.2.2.1 (hW.use w1.1 w1.2) (hW.use w2.1 w2.2) (hW.use w3.1 w3.2) (hW.use w4.1 w4.2) C.2.2.2.2.2.2.2.2.2.2.1 hP hD hS q0 q1 2 2 hq0 hq1 rfl rfl h1 h2 h3 h4 h5 (fun i hi y hy => zRecvC C hM0 hS (hel i hi y hy) hr) (vb_asgC (hW _ hca.1 hca.2)) (by omega) ?_ hd (fun H1 locs1 hP1 hD1 hS1 => ?_)
  · have : nativeFrameWords "java/lang/System" "arraycopy" 5 = 7 := by decide +kernel
    omega
  · refine k p e R s m args below meth c H1 locs1 cells slots QF ls C hl ⟨_, hP1, hD1, zIn_set hq1 hI (fun b hb => hb) ?_ (fun b hb => zEnt_ne rfl rfl rfl rfl rfl (u1_ne hb) rfl rfl), zCo_row rfl rfl rfl hC⟩ hS1 hc hs hE
    rw [zE3 (show mK (sARr M a _) a = 3 from hK), show aR (sARr M a (va_cpy (aR M a0) (aR M a) sp.toNatClampNeg dp.toNatClampNeg k9.toNatClampNeg)) a = _ from u1_at]
theorem w_gc1 : zwd (.methodLink RJ7 86 ⟨"java/lang/Object", "getClass", "()Ljava/lang/Class;"⟩) := ⟨tw_3 _ (List.mem_of_getElem? (i := 73) (by decide +kernel)), by decide +kernel⟩
theorem w_gc2 : zwd (.declares ⟨"java/lang/Object", "getClass", "()Ljava/lang/Class;"⟩) := ⟨tw_7 _ (List.mem_of_getElem? (i := 196) (by decide +kernel)), by decide +kernel⟩
theorem w_gc3 : zwd (.selects "[Ljava/lang/Object;" ⟨"java/lang/Object", "getClass", "()Ljava/lang/Class;"⟩ ⟨"java/lang/Object", "getClass", "()Ljava/lang/Class;"⟩) := ⟨tw_9 _ (List.mem_of_getElem? (i := 3) (by decide +kernel)), by decide +kernel⟩
theorem w_gc4 : zwd (.instanceMethod ⟨"java/lang/Object", "getClass", "()Ljava/lang/Class;"⟩) := ⟨tw_3 _ (List.mem_of_getElem? (i := 74) (by decide +kernel)), by decide +kernel⟩
theorem w_gc5 : zwd (.native ⟨"java/lang/Object", "getClass", "()Ljava/lang/Class;"⟩) := ⟨tw_3 _ (List.mem_of_getElem? (i := 103) (by decide +kernel)), by decide +kernel⟩
theorem w_gc6 : zwd (.methodLink RJx4a65c 52 ⟨"java/util/Collection", "getClass", "()Ljava/lang/Class;"⟩) := ⟨tw_7 _ (List.mem_of_getElem? (i := 194) (by decide +kernel)), by decide +kernel⟩
theorem w_gc7 : zwd (.interfaceMethod "java/util/Collection" "java/lang/Object" "getClass" "()Ljava/lang/Class;") := ⟨tw_7 _ (List.mem_of_getElem? (i := 195) (by decide +kernel)), by decide +kernel⟩
theorem w_gc8 : zwd (.selects RJx4a65c ⟨"java/lang/Object", "getClass", "()Ljava/lang/Class;"⟩ ⟨"java/lang/Object", "getClass", "()Ljava/lang/Class;"⟩) := ⟨tw_3 _ (List.mem_of_getElem? (i := 100) (by decide +kernel)), by decide +kernel⟩
theorem w_gc9 : zwd (.publicMethod ⟨"java/lang/Object", "getClass", "()Ljava/lang/Class;"⟩) := ⟨tw_7 _ (List.mem_of_getElem? (i := 198) (by decide +kernel)), by decide +kernel⟩
theorem w_gc10 : zwd (.unhidden RJx4a65c "getClass" "()Ljava/lang/Class;") := ⟨tw_7 _ (List.mem_of_getElem? (i := 197) (by decide +kernel)), by decide +kernel⟩
theorem w_gc11 : zwd (.castable RJx4a65c "java/util/Collection") := ⟨tw_7 _ (List.mem_of_getElem? (i := 187) (by decide +kernel)), by decide +kernel⟩
theorem w_gc12 : zwd (.sameMethod "java/lang/Object" "java/lang/Object" "getClass" "()Ljava/lang/Class;") := ⟨tw_3 _ (List.mem_of_getElem? (i := 75) (by decide +kernel)), by decide +kernel⟩
theorem w_gc13 : zwd (.classLink RJ7 110 "[Ljava/lang/Object;") := ⟨tw_3 _ (List.mem_of_getElem? (i := 107) (by decide +kernel)), by decide +kernel⟩
theorem w_gc14 : zwd (.classLink RJx4a65c 10 "java/util/ArrayList") := ⟨tw_7 _ (List.mem_of_getElem? (i := 199) (by decide +kernel)), by decide +kernel⟩
theorem w_cl7 : zwd (.classLink RJ7 2 "java/lang/Object") := ⟨tw_3 _ (List.mem_of_getElem? (i := 109) (by decide +kernel)), by decide +kernel⟩
theorem w_cp1 : zCpy RJ7 150 := ⟨⟨tw_3 _ (List.mem_of_getElem? (i := 113) (by decide +kernel)), by decide +kernel⟩, ⟨tw_2 _ (List.mem_of_getElem? (i := 47) (by decide +kernel)), by decide +kernel⟩, ⟨tw_2 _ (List.mem_of_getElem? (i := 46) (by decide +kernel)), by decide +kernel⟩, ⟨tw_1 _ (List.mem_of_getElem? (i := 25) (by decide +kernel)), by decide +kernel⟩⟩
theorem w_cp2 : zCpy RJx4a65c 112 := ⟨⟨tw_7 _ (List.mem_of_getElem? (i := 209) (by decide +kernel)), by decide +kernel⟩, ⟨tw_2 _ (List.mem_of_getElem? (i := 47) (by decide +kernel)), by decide +kernel⟩, ⟨tw_2 _ (List.mem_of_getElem? (i := 46) (by decide +kernel)), by decide +kernel⟩, ⟨tw_1 _ (List.mem_of_getElem? (i := 25) (by decide +kernel)), by decide +kernel⟩⟩
theorem w_min7 : zMath RJ7 304 Lib.Math.min.name Lib.Math.min.code 2 := ⟨ml_J7_304, ⟨tw_3 _ (List.mem_of_getElem? (i := 111) (by decide +kernel)), by decide +kernel⟩, w_max.2.2.1, ⟨tw_3 _ (List.mem_of_getElem? (i := 112) (by decide +kernel)), by decide +kernel⟩⟩
theorem w_max8 : zMath RJ8 194 Lib.Math.max.name Lib.Math.max.code 2 := ⟨ml_J8_194, w_max.2.1, w_max.2.2.1, w_max.2.2.2⟩
/-- the class object of a row -/
theorem zs_getCls {a : Nat} (hd : decode (zMC mm) pc = .ok (.invokevirtual ix, 3)) (hw : zwd (.methodLink (zMY mm).cls ix ⟨"java/lang/Object", "getClass", "()Ljava/lang/Class;"⟩)) (hK : mK M a = 3) (hst : st.length ≤ 20) (hn : pc + 3 = n) (k : zX Z l d mm n L (.ref (zPx Z 0) :: st) M nc ns Q) : zX Z l d mm pc L (.ref a :: st) M nc ns Q := by
  subst hn
  intro p e R s m args below meth c H locs cells slots QF ls C hl hM hS hc hs hE
  have hM0 := hM
  obtain ⟨ws, hP, hD, hI, hC⟩ := hM
  obtain ⟨q0, hq0⟩ := hI a ⟨by omega, by omega, by omega⟩
  rw [zE3 hK] at hq0
  have hW := C.2.2.2.2.2.2.2.2.2.1
  have hKs := C.2.2.2.2.2.2.2.2.2.2.1
  have hf := C.2.2.2.2.2.2.2.2.2.2.2.2.2.1
  have hlo := C.2.2.2.2.2.2.2.2.2.2.2.2.2.2
  have hcat := zcat st
  obtain ⟨-, -, -, -, -, -, h7, -⟩ := C.en2
  refine va_getC (C := "[Ljava/lang/Object;") C.1 C.2.1 (C.2.2.1.trans hl.1.symm) C.2.2.2.1 (hW.use hw.1 hw.2) (hW.use w_gc2.1 w_gc2.2) (hW.use w_gc3.1 w_gc3.2) (hW.use w_gc4.1 w_gc4.2) (hW.use w_gc5.1 w_gc5.2) h7 ⟨_, hP q0 _ hq0, rfl, va_nmO (hKs.2 2 _ rfl).2 rfl⟩ (by omega) (by omega) hd (k p e R s m args below meth c H locs cells slots QF ls C hl hM0 hS hc hs hE)
/-- a class object by name -/
theorem zs_ldcA (hd : decode (zMC mm) pc = .ok (.ldc ix, 2)) (hw : zwd (.classLink (zMY mm).cls ix "[Ljava/lang/Object;")) (hn : pc + 2 = n) (k : zX Z l d mm n L (.ref (zPx Z 0) :: st) M nc ns Q) : zX Z l d mm pc L st M nc ns Q := by
  subst hn
  intro p e R s m args below meth c H locs cells slots QF ls C hl hM hS hc hs hE
  have hW := C.2.2.2.2.2.2.2.2.2.1
  obtain ⟨-, -, -, -, -, -, h7, -⟩ := C.en2
  exact va_ldcM C.1 C.2.1 C.2.2.2.1 (hW.use hw.1 hw.2) h7 hd (k p e R s m args below meth c H locs cells slots QF ls C hl hM hS hc hs hE)
theorem zs_ldcAL (hd : decode (zMC mm) pc = .ok (.ldc ix, 2)) (hw : zwd (.classLink (zMY mm).cls ix "java/util/ArrayList")) (hn : pc + 2 = n) (k : zX Z l d mm n L (.ref (zPx Z 1) :: st) M nc ns Q) : zX Z l d mm pc L st M nc ns Q := by
  subst hn
  intro p e R s m args below meth c H locs cells slots QF ls C hl hM hS hc hs hE
  have hW := C.2.2.2.2.2.2.2.2.2.1
  obtain ⟨-, -, -, -, -, -, -, h8, -⟩ := C.en2
  exact va_ldcM C.1 C.2.1 C.2.2.2.1 (hW.use hw.1 hw.2) h8 hd (k p e R s m args below meth c H locs cells slots QF ls C hl hM hS hc hs hE)
theorem zselG {args : Array Value} {s : State} {Cn I : String} (h1 : (Cond.selects Cn ⟨"java/lang/Object", "getClass", "()Ljava/lang/Class;"⟩ ⟨"java/lang/Object", "getClass", "()Ljava/lang/Class;"⟩).before args s = true) (h2 : (Cond.interfaceMethod I "java/lang/Object" "getClass" "()Ljava/lang/Class;").before args s = true) (h3 : (Cond.sameMethod "java/lang/Object" "java/lang/Object" "getClass" "()Ljava/lang/Class;").before args s = true) : (Cond.selects Cn ⟨I, "getClass", "()Ljava/lang/Class;"⟩ ⟨"java/lang/Object", "getClass", "()Ljava/lang/Class;"⟩).before args s = true := by
  obtain ⟨c1, r1, m1, a1, a2, a3, a4, mk, a5, a6⟩ := Cond.selects_spec h1
  obtain ⟨c2, k2, m2, b1, b2, b3, b4, b5⟩ := Cond.interfaceMethod_spec h2
  obtain ⟨c3, k3, r3, d1, d2, d3, d4, d5⟩ := Cond.sameMethod_found h3
  cases a3.symm.trans b5
  cases a3.symm.trans d5
  cases a2.symm.trans d4
  show Cond.holds args s none s [] _ = true
  simp only [Cond.holds, Cond.value, a1, b4, a3, a4, a5]
  simp [a6]
/-- the class object of a list, by the name of an interface -/
theorem zs_getClsF {a cnt : Nat} (hd : decode (zMC mm) pc = .ok (.invokeinterface ix cnt, 5)) (hw : zwd (.methodLink (zMY mm).cls ix ⟨"java/util/Collection", "getClass", "()Ljava/lang/Class;"⟩)) (hK : mK M a = 14) (hst : st.length ≤ 20) (hn : pc + 5 = n) (k : zX Z l d mm n L (.ref (zPx Z 1) :: st) M nc ns Q) : zX Z l d mm pc L (.ref a :: st) M nc ns Q := by
  subst hn
  intro p e R s m args below meth c H locs cells slots QF ls C hl hM hS hc hs hE
  have hW := C.2.2.2.2.2.2.2.2.2.1
  have hf := C.2.2.2.2.2.2.2.2.2.2.2.2.2.1
  have hlo := C.2.2.2.2.2.2.2.2.2.2.2.2.2.2
  have hcat := zcat st
  obtain ⟨-, -, -, -, -, -, -, h8, -⟩ := C.en2
  obtain ⟨c0, k0, i1, i2, i3⟩ := h8
  obtain ⟨cell, g1, g2, g3⟩ := zRecv (ci := 4) (r := (RJx4a65c, TJx4a65c, 3)) C hM hK rfl
  have e0 : c0 = cell.cls := Option.some.inj (i1.symm.trans g3)
  intro T hT X
  obtain ⟨vm', X', stp⟩ := X.getClassOfI C.1 (C := RJx4a65c) (xi := ⟨"java/util/Collection", "getClass", "()Ljava/lang/Class;"⟩) C.2.2.2.1 (hW.use hw.1 hw.2) (hW.use w_gc2.1 w_gc2.2) (hW.use w_gc7.1 w_gc7.2) (zselG (hW.use w_gc8.1 w_gc8.2) (hW.use w_gc7.1 w_gc7.2) (hW.use w_gc12.1 w_gc12.2)) (hW.use w_gc4.1 w_gc4.2) (hW.use w_gc9.1 w_gc9.2) (hW.use w_gc10.1 w_gc10.2) (hW.use w_gc11.1 w_gc11.2) (hW.use w_gc5.1 w_gc5.2) ⟨by decide, by decide⟩ (by decide) rfl rfl i1 i2 ⟨cell, by rw [hT]; exact g1, e0.symm, g2⟩ i3 (g := F0 m pc ls (.ref a :: st)) rfl (by show ls.size = c.maxLocals; rw [C.2.2.1]; exact hl.1) rfl (by rw [show c.code = zMC mm from C.2.1]; exact hd) (by omega) (by show 2 * 0 + _ + _ ≤ _; have hw9 : nativeFrameWords "java/lang/Object" "getClass" 1 = 3 := (by decide); omega)
  obtain ⟨t, a1, b1⟩ := k p e R s m args below meth c H locs cells slots QF ls C hl hM hS hc hs hE (T.setVm vm') hT X'
  exact ⟨t, stp t a1, b1⟩
-- Arrays.copyOf of k places of the row e
abbrev zCop (M : zMem) (q e k g w : Nat) : zMem := sARr (zNew M q 3 k g) q (va_cpy (aR M e) (fun _ => none) 0 0 w)
theorem nI_min {a b : Nat} (ha : a < 2 ^ 30) (hb : b < 2 ^ 30) : (if nI b < nI a then nI b else nI a) = nI (min a b) := by
  by_cases h : b < a
  · rw [if_pos (nI_lt h (by omega)), Nat.min_eq_right (by omega)]
  · rw [if_neg (nI_nlt (by omega) (by omega)), Nat.min_eq_left (by omega)]
theorem m_copyOf3 {k ci : Nat} {r : vw_C} (g : Nat) (hK : mK M e = 3) (hN : mN M e < 1000) (hk : k < 1000) (hr : vwCl[ci]? = some r) (hca : zwd (.castable r.1 "java/lang/Object")) (hel : ∀ i, i < min (mN M e) k → ∀ y, aR M e i = some y → zCi M ci y) (hQ : ∀ q, mK M q = 0 → Q (.inl (some (.ref q))) (zCop M q e k g (min (mN M e) k))) : zX Z l 0 mth_J7_copyOf_6403c 0 (lv_args 0 [.ref e, .int (nI k), .ref (zPx Z 0)]) [] M 1 k Q := by
  show zX Z l 0 mth_J7_copyOf_6403c 0 [(0, .ref e), (1, .int (nI k)), (2, .ref (zPx Z 0))] [] M 1 k Q
  refine zs_aload_n (n := 1) dJ7_copyOf_6403c_0 rfl rfl ?_
  refine zs_ldcA (n := 3) dJ7_copyOf_6403c_1 w_gc13 rfl ?_
  refine zs_acmp_ne (tgt := 13) (n := 6) dJ7_copyOf_6403c_3 (by decide) rfl (fun h => absurd h (fun h => h rfl)) (fun _ => ?_)
  refine zs_iload_n (n := 7) dJ7_copyOf_6403c_6 rfl rfl ?_
  refine zs_newQ (N := k) g (nc1 := 0) (ns1 := 0) (n := 10) dJ7_copyOf_6403c_7 w_cl7 w_ao (nI_pos (by omega)) (nI_clamp (by omega)) (by omega) rfl (by omega) (by omega) (fun q hq => ?_)
  have he0 : mK M e ≠ 0 := by rw [hK]; decide
  have heq : e ≠ q := fun h => he0 (h ▸ hq)
  have hKe : mK (zNew M q 3 k g) e = 3 := (zNew_K hq he0).trans hK
  have hNe : mN (zNew M q 3 k g) e = mN M e := zNew_N hq he0
  have hRe : aR (zNew M q 3 k g) e = aR M e := zNew_AR hq he0
  refine zs_goto (tgt := 24) dJ7_copyOf_6403c_10 (by decide) ?_
  refine zs_astore_n (n := 25) dJ7_copyOf_6403c_24 (by decide) rfl ?_
  refine zs_aload_n (n := 26) dJ7_copyOf_6403c_25 rfl rfl ?_
  refine zs_iconst (v := 0) (n := 27) dJ7_copyOf_6403c_26 (by decide) rfl ?_
  refine zs_aload_n (n := 28) dJ7_copyOf_6403c_27 rfl rfl ?_
  refine zs_iconst (v := 0) (n := 29) dJ7_copyOf_6403c_28 (by decide) rfl ?_
  refine zs_aload_n (n := 30) dJ7_copyOf_6403c_29 rfl rfl ?_
  refine zs_alen (n := 31) dJ7_copyOf_6403c_30 (by omega) rfl ?_
  rw [hNe]
  refine zs_iload_n (n := 32) dJ7_copyOf_6403c_31 rfl rfl ?_
  refine zs_min (n := 35) dJ7_copyOf_6403c_32 w_min7 (by simp) rfl ?_
  rw [nI_min (by omega) (by omega)]
  refine zs_copyR (ci := ci) (n := 38) dJ7_copyOf_6403c_35 w_cp1 hr hca hKe zNew_Kq (by decide) (by decide) (nI_pos (by omega)) (by rw [nI_clamp (by omega), hNe]; show 0 + _ ≤ _; omega) (by rw [nI_clamp (by omega), zNew_Nq]; show 0 + _ ≤ _; omega) (fun i hi y hy => ?_) (by simp) rfl ?_
  · rw [nI_clamp (by omega)] at hi
    rw [hRe, show (0 : Int32).toNatClampNeg + i = i from by show 0 + i = i; omega] at hy
    have hy0 := hel i hi y hy
    have hyq : y ≠ q := fun h => by unfold zCi at hy0; rw [h, hq] at hy0; omega
    unfold zCi at hy0 ⊢
    rw [show mK (zNew M q 3 k g) y = mK M y from u1_ne hyq]
    exact hy0
  rw [nI_clamp (by omega), hRe, show aR (zNew M q 3 k g) q = (fun _ => none) from u1_at]
  refine zs_aload_n (n := 39) dJ7_copyOf_6403c_38 rfl rfl ?_
  refine zs_areturn dJ7_copyOf_6403c_39 ⟨_, rfl, Or.inr ⟨_, rfl⟩⟩ ?_
  exact hQ q hq
theorem m_copyOf2 {k ci : Nat} {r : vw_C} (g : Nat) (hK : mK M e = 3) (hN : mN M e < 1000) (hk : k < 1000) (hr : vwCl[ci]? = some r) (hca : zwd (.castable r.1 "java/lang/Object")) (hel : ∀ i, i < min (mN M e) k → ∀ y, aR M e i = some y → zCi M ci y) (hQ : ∀ q, mK M q = 0 → Q (.inl (some (.ref q))) (zCop M q e k g (min (mN M e) k))) : zX Z l 1 mth_J7_copyOf_1904c 0 (lv_args 0 [.ref e, .int (nI k)]) [] M 1 k Q := by
  show zX Z l 1 mth_J7_copyOf_1904c 0 [(0, .ref e), (1, .int (nI k))] [] M 1 k Q
  refine zs_aload_n (n := 1) dJ7_copyOf_1904c_0 rfl rfl ?_
  refine zs_iload_n (n := 2) dJ7_copyOf_1904c_1 rfl rfl ?_
  refine zs_aload_n (n := 3) dJ7_copyOf_1904c_2 rfl rfl ?_
  refine zs_getCls (n := 6) dJ7_copyOf_1904c_3 w_gc1 hK (by simp) rfl ?_
  refine zs_invS (d' := 0) (As := [.ref e, .int (nI k), .ref (zPx Z 0)]) (mc := 1) (ms := k) (nc1 := 0) (ns1 := 0) (Post := fun o M1 => ∃ q, mK M q = 0 ∧ o = .inl (some (.ref q)) ∧ M1 = zCop M q e k g (min (mN M e) k)) (n := 9) dJ7_copyOf_1904c_6 ok_J7_copyOf_6403c ⟨ml_J7_300, st_J7_copyOf_6403c⟩ rfl (Nat.le_of_ble_eq_true rfl) (by simp) rfl (by omega) (by omega) rfl rfl (m_copyOf3 g hK hN hk hr hca hel (fun q hq => ⟨q, hq, rfl, rfl⟩)) (fun k9 M1 h => by obtain ⟨q, _, h, _⟩ := h; cases h) (fun v M1 h => ?_)
  obtain ⟨q, hq, h, rfl⟩ := h
  cases h
  refine zs_areturn dJ7_copyOf_1904c_9 ⟨_, rfl, Or.inr ⟨_, rfl⟩⟩ ?_
  exact hQ q hq
/-- a list's things in a new row -/
theorem m_toArray {ci : Nat} {r : vw_C} (g : Nat) (hL : zL Z M p e c f) (h0 : 0 < c) (hr : vwCl[ci]? = some r) (hca : zwd (.castable r.1 "java/lang/Object")) (hel : ∀ i, i < c → zCi M ci (f i)) (hQ : ∀ q, mK M q = 0 → Q (.inl (some (.ref q))) (zCop M q e c g c)) : zX Z l 2 mth_Jx4a65c_toArray_d5877 0 (lv_args 0 [.ref p]) [] M 1 c Q := by
  show zX Z l 2 mth_Jx4a65c_toArray_d5877 0 [(0, .ref p)] [] M 1 c Q
  have hc := hL.lt
  have h3 : mK M e = 3 ∧ c ≤ mN M e ∧ mN M e < 1000 := by
    obtain ⟨-, -, -, h, -⟩ := hL
    rcases h with ⟨-, -, h, -⟩ | ⟨h0, h1, h2, -⟩
    · omega
    · exact ⟨h0, h1, h2⟩
  have hm : min (mN M e) c = c := Nat.min_eq_right h3.2.1
  refine zs_aload_n (n := 1) dJx4a65c_toArray_d5877_0 rfl rfl ?_
  refine zs_getr (n := 4) dJx4a65c_toArray_d5877_1 gf_Jx4a65c_9 hL.1 hL.2.2.1 rfl ?_
  refine zs_aload_n (n := 5) dJx4a65c_toArray_d5877_4 rfl rfl ?_
  refine zs_geti (n := 8) dJx4a65c_toArray_d5877_5 gf_Jx4a65c_48 hL.1 rfl ?_
  rw [hL.2.1]
  refine zs_invS (d' := 1) (As := [.ref e, .int (nI c)]) (mc := 1) (ms := c) (nc1 := 0) (ns1 := 0) (Post := fun o M1 => ∃ q, mK M q = 0 ∧ o = .inl (some (.ref q)) ∧ M1 = zCop M q e c g c) (n := 11) dJx4a65c_toArray_d5877_8 ok_J7_copyOf_1904c ⟨ml_Jx4a65c_66, st_J7_copyOf_1904c⟩ rfl (Nat.le_of_ble_eq_true rfl) (by simp) rfl (by omega) (by omega) rfl rfl (m_copyOf2 g h3.1 h3.2.2 hc hr hca (fun i hi y hy => ?_) (fun q hq => ⟨q, hq, rfl, by rw [hm]⟩)) (fun k9 M1 h => by obtain ⟨q, _, h, _⟩ := h; cases h) (fun v M1 h => ?_)
  · rw [hm] at hi
    rw [hL.2.2.2.2 i hi] at hy
    cases hy
    exact hel i hi
  obtain ⟨q, hq, h, rfl⟩ := h
  cases h
  refine zs_areturn dJx4a65c_toArray_d5877_11 ⟨_, rfl, Or.inr ⟨_, rfl⟩⟩ ?_
  exact hQ q hq
theorem w_toA : zwd (.methodLink RJx4a65c 42 ⟨"java/util/Collection", "toArray", "()[Ljava/lang/Object;"⟩) ∧ zwd (.declares ⟨"java/util/Collection", "toArray", "()[Ljava/lang/Object;"⟩) ∧ zwd (.interfaceMethod "java/util/Collection" "java/util/Collection" "toArray" "()[Ljava/lang/Object;") ∧ zwd (.selects RJx4a65c ⟨"java/util/Collection", "toArray", "()[Ljava/lang/Object;"⟩ yJx4a65c_toArray_d5877) ∧ zwd (.instanceMethod yJx4a65c_toArray_d5877) ∧ zwd (.publicMethod yJx4a65c_toArray_d5877) ∧ zwd (.unhidden RJx4a65c "toArray" "()[Ljava/lang/Object;") ∧ zwd (.castable RJx4a65c "java/util/Collection") := ⟨⟨tw_7 _ (List.mem_of_getElem? (i := 184) (by decide +kernel)), by decide +kernel⟩, ⟨tw_7 _ (List.mem_of_getElem? (i := 186) (by decide +kernel)), by decide +kernel⟩, ⟨tw_7 _ (List.mem_of_getElem? (i := 185) (by decide +kernel)), by decide +kernel⟩, ⟨tw_7 _ (List.mem_of_getElem? (i := 188) (by decide +kernel)), by decide +kernel⟩, ⟨tw_7 _ (List.mem_of_getElem? (i := 190) (by decide +kernel)), by decide +kernel⟩, ⟨tw_7 _ (List.mem_of_getElem? (i := 191) (by decide +kernel)), by decide +kernel⟩, ⟨tw_7 _ (List.mem_of_getElem? (i := 189) (by decide +kernel)), by decide +kernel⟩, ⟨tw_7 _ (List.mem_of_getElem? (i := 187) (by decide +kernel)), by decide +kernel⟩⟩
theorem zc_toArrayF {ci cnt : Nat} {r : vw_C} (g : Nat) (hd : decode (zMC mm) pc = .ok (.invokeinterface 42 cnt, 5)) (hcl : (zMY mm).cls = RJx4a65c) (hL : zL Z M p e c f) (h0 : 0 < c) (hr : vwCl[ci]? = some r) (hca : zwd (.castable r.1 "java/lang/Object")) (hel : ∀ i, i < c → zCi M ci (f i)) (hst : st.length ≤ 4) (hdd : 2 < d) (hc1 : nc1 + 1 ≤ nc) (hs1 : ns1 + c ≤ ns) (hn : pc + 5 = n)
    (kk : ∀ q, mK M q = 0 → zX Z l d mm n L (.ref q :: st) (zCop M q e c g c) nc1 ns1 Q) : zX Z l d mm pc L (.ref p :: st) M nc ns Q := by
  have hw := w_toA
  rw [← hcl] at hw
  refine zs_invF (d' := d - 1) (As := []) (ci := 4) (mc := 1) (ms := c) (r := (RJx4a65c, TJx4a65c, 3)) (x := ⟨"java/util/Collection", "toArray", "()[Ljava/lang/Object;"⟩) (Post := fun o M1 => ∃ q, mK M q = 0 ∧ o = .inl (some (.ref q)) ∧ M1 = zCop M q e c g c) hd ok_Jx4a65c_toArray_d5877 ⟨hw.1, hw.2.1, hw.2.2.1, ?_, hw.2.2.2.2.1, hw.2.2.2.2.2.1, ?_, ?_⟩ ⟨⟨by decide, by decide⟩, by decide +kernel⟩ rfl hL.1 rfl (Nat.le_of_ble_eq_true rfl) hst (by omega) hc1 hs1 rfl hn ((m_toArray g hL h0 hr hca hel (fun q hq => ⟨q, hq, rfl, rfl⟩)).deep (by omega)) (fun k9 M1 h => by obtain ⟨q, _, h, _⟩ := h; cases h) (fun v M1 h => ?_)
  · exact w_toA.2.2.2.1
  · exact w_toA.2.2.2.2.2.2.1
  · exact w_toA.2.2.2.2.2.2.2
  · obtain ⟨q, hq, h, rfl⟩ := h
    cases h
    exact kk q hq
end ZJDK2
