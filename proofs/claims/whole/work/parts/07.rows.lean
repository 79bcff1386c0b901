/-! RULES: rows (arrays), casts, Object's constructor -/
section ZROWS
variable {Z : zPar} {l : Launch} {d : Nat} {mm : zMeth} {pc n nc ns : Nat} {L : List (Nat × Value)} {st : List Value} {M : zMem} {Q : zO → zMem → Prop}
theorem zE1 {a : Nat} (h : mK M a = 1) : zEnt Z M a = .inl (zPt Z 0, mN M a, .inl (aI M a)) := by unfold zEnt; rw [if_pos h]
theorem zE2 {a : Nat} (h : mK M a = 2) : zEnt Z M a = .inl (zPt Z 1, mN M a, .inl (aI M a)) := by unfold zEnt; rw [if_neg (by omega), if_pos h]
theorem zE3 {a : Nat} (h : mK M a = 3) : zEnt Z M a = .inl (zPt Z 2, mN M a, .inr (.inr (.inr (.inr (aR M a))))) := by unfold zEnt; rw [if_neg (by omega), if_neg (by omega), if_pos h]
theorem zE4 {a : Nat} (h : mK M a = 4) : zEnt Z M a = .inl (zPt Z 3, mN M a, .inr (.inr (.inr (.inr (aR M a))))) := by unfold zEnt; rw [if_neg (by omega), if_neg (by omega), if_neg (by omega), if_pos h]
theorem zE5 {a : Nat} (h : mK M a = 5) : zEnt Z M a = .inl (zPt Z 4, mN M a, .inr (.inl (aL M a))) := by unfold zEnt; rw [if_neg (by omega), if_neg (by omega), if_neg (by omega), if_neg (by omega), if_pos h]
theorem zE6 {a : Nat} (h : mK M a = 6) : zEnt Z M a = .inl (zPt Z 5, mN M a, .inr (.inr (.inr (.inl (aD M a))))) := by unfold zEnt; rw [if_neg (by omega), if_neg (by omega), if_neg (by omega), if_neg (by omega), if_neg (by omega), if_pos h]
theorem zs_iald {a : Nat} {i : Int32} (hd : decode (zMC mm) pc = .ok (.iaload, 1)) (hK : mK M a = 1) (hi : vp_in i (mN M a)) (hn : pc + 1 = n) (k : zX Z l d mm n L (.int (aI M a i.toNatClampNeg) :: st) M nc ns Q) : zX Z l d mm pc L (.int i :: .ref a :: st) M nc ns Q := by
  subst hn
  intro p e R s m args below meth c H locs cells slots QF ls C hl hM hS hc hs hE
  have hM0 := hM
  obtain ⟨ws, hP, hD, hI, hC⟩ := hM
  obtain ⟨q0, hq0⟩ := hI a ⟨by omega, by omega, by omega⟩
  rw [zE1 hK] at hq0
  exact va_iald C.1 C.2.1 C.2.2.2.2.2.2.2.2.2.2.1 hP q0 0 hq0 rfl hi hd (k p e R s m args below meth c H locs cells slots QF ls C hl hM0 hS hc hs hE)
theorem zs_zald {a : Nat} {i : Int32} (hd : decode (zMC mm) pc = .ok (.baload, 1)) (hK : mK M a = 2) (hi : vp_in i (mN M a)) (hn : pc + 1 = n) (k : zX Z l d mm n L (.int (aI M a i.toNatClampNeg) :: st) M nc ns Q) : zX Z l d mm pc L (.int i :: .ref a :: st) M nc ns Q := by
  subst hn
  intro p e R s m args below meth c H locs cells slots QF ls C hl hM hS hc hs hE
  have hM0 := hM
  obtain ⟨ws, hP, hD, hI, hC⟩ := hM
  obtain ⟨q0, hq0⟩ := hI a ⟨by omega, by omega, by omega⟩
  rw [zE2 hK] at hq0
  exact va_zald C.1 C.2.1 C.2.2.2.2.2.2.2.2.2.2.1 hP q0 1 hq0 rfl hi hd (k p e R s m args below meth c H locs cells slots QF ls C hl hM0 hS hc hs hE)
theorem zs_lald {a : Nat} {i : Int32} (hd : decode (zMC mm) pc = .ok (.laload, 1)) (hK : mK M a = 5) (hi : vp_in i (mN M a)) (hn : pc + 1 = n) (k : zX Z l d mm n L (.long (aL M a i.toNatClampNeg) :: st) M nc ns Q) : zX Z l d mm pc L (.int i :: .ref a :: st) M nc ns Q := by
  subst hn
  intro p e R s m args below meth c H locs cells slots QF ls C hl hM hS hc hs hE
  have hM0 := hM
  obtain ⟨ws, hP, hD, hI, hC⟩ := hM
  obtain ⟨q0, hq0⟩ := hI a ⟨by omega, by omega, by omega⟩
  rw [zE5 hK] at hq0
  exact va_lald C.1 C.2.1 C.2.2.2.2.2.2.2.2.2.2.1 hP q0 4 hq0 rfl hi hd (k p e R s m args below meth c H locs cells slots QF ls C hl hM0 hS hc hs hE)
theorem zs_dald {a : Nat} {i : Int32} (hd : decode (zMC mm) pc = .ok (.daload, 1)) (hK : mK M a = 6) (hi : vp_in i (mN M a)) (hn : pc + 1 = n) (k : zX Z l d mm n L (.double (aD M a i.toNatClampNeg) :: st) M nc ns Q) : zX Z l d mm pc L (.int i :: .ref a :: st) M nc ns Q := by
  subst hn
  intro p e R s m args below meth c H locs cells slots QF ls C hl hM hS hc hs hE
  have hM0 := hM
  obtain ⟨ws, hP, hD, hI, hC⟩ := hM
  obtain ⟨q0, hq0⟩ := hI a ⟨by omega, by omega, by omega⟩
  rw [zE6 hK] at hq0
  exact va_dald C.1 C.2.1 C.2.2.2.2.2.2.2.2.2.2.1 hP q0 5 hq0 rfl hi hd (k p e R s m args below meth c H locs cells slots QF ls C hl hM0 hS hc hs hE)
theorem zs_aaldo {a : Nat} {i : Int32} (hd : decode (zMC mm) pc = .ok (.aaload, 1)) (hK : mK M a = 3 ∨ mK M a = 4) (hi : vp_in i (mN M a)) (hn : pc + 1 = n) (k : zX Z l d mm n L (va_rf (aR M a i.toNatClampNeg) :: st) M nc ns Q) : zX Z l d mm pc L (.int i :: .ref a :: st) M nc ns Q := by
  subst hn
  intro p e R s m args below meth c H locs cells slots QF ls C hl hM hS hc hs hE
  have hM0 := hM
  obtain ⟨ws, hP, hD, hI, hC⟩ := hM
  obtain ⟨q0, hq0⟩ := hI a ⟨by omega, by omega, by omega⟩
  have kk := k p e R s m args below meth c H locs cells slots QF ls C hl hM0 hS hc hs hE
  have hKs := C.2.2.2.2.2.2.2.2.2.2.1
  rcases hK with hK | hK
  · rw [zE3 hK] at hq0
    exact va_aldq C.1 C.2.1 hKs hP q0 2 hq0 rfl hi hd kk
  · rw [zE4 hK] at hq0
    have hlt : i.toNatClampNeg < mN M a := Nat.not_le.mp fun q => hi (Or.inr q)
    exact W.aald (v := va_rf (aR M a i.toNatClampNeg)) (ty := .array .boolean) C.1 C.2.1 (hP q0 _ hq0) ((hKs.2 3 _ rfl).1 (mN M a) (fun j => va_rf (aR M a j))) rfl (fun q => by cases q) (by show ¬ (i < 0 ∨ (arrV _ _ _).slots.size ≤ _); rw [arrV_size]; exact hi) (by show (arrV _ _ _).slots[_]? = _; rw [arrV_read _ _ hlt]) rfl rfl hd kk
theorem zs_aald {a b : Nat} {i : Int32} (hd : decode (zMC mm) pc = .ok (.aaload, 1)) (hK : mK M a = 3 ∨ mK M a = 4) (hi : vp_in i (mN M a)) (hv : aR M a i.toNatClampNeg = some b) (hn : pc + 1 = n) (k : zX Z l d mm n L (.ref b :: st) M nc ns Q) : zX Z l d mm pc L (.int i :: .ref a :: st) M nc ns Q := zs_aaldo hd hK hi hn (by rw [hv]; exact k)
theorem zCo_row {M' : zMem} (h1 : mK M' = mK M) (h2 : mN M' = mN M) (h3 : vI M' = vI M) (hC : zCo Z M) : zCo Z M' := by
  unfold zCo
  rw [h1, h2, h3]
  exact hC
theorem zs_iast {a : Nat} {i x : Int32} (hd : decode (zMC mm) pc = .ok (.iastore, 1)) (hK : mK M a = 1) (hi : vp_in i (mN M a)) (hn : pc + 1 = n) (k : zX Z l d mm n L st (sAI M a i.toNatClampNeg x) nc ns Q) : zX Z l d mm pc L (.int x :: .int i :: .ref a :: st) M nc ns Q := by
  subst hn
  intro p e R s m args below meth c H locs cells slots QF ls C hl hM hS hc hs hE
  obtain ⟨ws, hP, hD, hI, hC⟩ := hM
  obtain ⟨q0, hq0⟩ := hI a ⟨by omega, by omega, by omega⟩
  rw [zE1 hK] at hq0
  refine va_iast C.1 C.2.1 C.2.2.2.2.2.2.2.2.2.2.1 hP hD hS q0 0 hq0 rfl hi hd (fun H1 locs1 hP1 hD1 hS1 => ?_)
  refine k p e R s m args below meth c H1 locs1 cells slots QF ls C hl ⟨_, hP1, hD1, zIn_set hq0 hI (fun b hb => hb) ?_ (fun b hb => zEnt_ne rfl rfl rfl rfl (u2_ne hb) rfl rfl rfl), zCo_row rfl rfl rfl hC⟩ hS1 hc hs hE
  rw [zE1 (show mK (sAI M a i.toNatClampNeg x) a = 1 from hK), show aI (sAI M a i.toNatClampNeg x) a = upd (aI M a) i.toNatClampNeg x from u2_row]
theorem zs_zast {a : Nat} {i x : Int32} (hd : decode (zMC mm) pc = .ok (.bastore, 1)) (hK : mK M a = 2) (hi : vp_in i (mN M a)) (hx : vp_nar .boolean x = x) (hn : pc + 1 = n) (k : zX Z l d mm n L st (sAI M a i.toNatClampNeg x) nc ns Q) : zX Z l d mm pc L (.int x :: .int i :: .ref a :: st) M nc ns Q := by
  subst hn
  intro p e R s m args below meth c H locs cells slots QF ls C hl hM hS hc hs hE
  obtain ⟨ws, hP, hD, hI, hC⟩ := hM
  obtain ⟨q0, hq0⟩ := hI a ⟨by omega, by omega, by omega⟩
  rw [zE2 hK] at hq0
  refine va_zast C.1 C.2.1 C.2.2.2.2.2.2.2.2.2.2.1 hP hD hS q0 1 hq0 rfl hi hd (fun H1 locs1 hP1 hD1 hS1 => ?_)
  rw [hx] at hP1 hD1
  refine k p e R s m args below meth c H1 locs1 cells slots QF ls C hl ⟨_, hP1, hD1, zIn_set hq0 hI (fun b hb => hb) ?_ (fun b hb => zEnt_ne rfl rfl rfl rfl (u2_ne hb) rfl rfl rfl), zCo_row rfl rfl rfl hC⟩ hS1 hc hs hE
  rw [zE2 (show mK (sAI M a i.toNatClampNeg x) a = 2 from hK), show aI (sAI M a i.toNatClampNeg x) a = upd (aI M a) i.toNatClampNeg x from u2_row]
theorem zs_last {a : Nat} {i : Int32} {x : Int64} (hd : decode (zMC mm) pc = .ok (.lastore, 1)) (hK : mK M a = 5) (hi : vp_in i (mN M a)) (hn : pc + 1 = n) (k : zX Z l d mm n L st (sAL M a i.toNatClampNeg x) nc ns Q) : zX Z l d mm pc L (.long x :: .int i :: .ref a :: st) M nc ns Q := by
  subst hn
  intro p e R s m args below meth c H locs cells slots QF ls C hl hM hS hc hs hE
  obtain ⟨ws, hP, hD, hI, hC⟩ := hM
  obtain ⟨q0, hq0⟩ := hI a ⟨by omega, by omega, by omega⟩
  rw [zE5 hK] at hq0
  refine va_last C.1 C.2.1 C.2.2.2.2.2.2.2.2.2.2.1 hP hD hS q0 4 hq0 rfl hi hd (fun H1 locs1 hP1 hD1 hS1 => ?_)
  refine k p e R s m args below meth c H1 locs1 cells slots QF ls C hl ⟨_, hP1, hD1, zIn_set hq0 hI (fun b hb => hb) ?_ (fun b hb => zEnt_ne rfl rfl rfl rfl rfl rfl (u2_ne hb) rfl), zCo_row rfl rfl rfl hC⟩ hS1 hc hs hE
  rw [zE5 (show mK (sAL M a i.toNatClampNeg x) a = 5 from hK), show aL (sAL M a i.toNatClampNeg x) a = vp_updL (aL M a) i.toNatClampNeg x from u2_row]
theorem zs_dast {a : Nat} {i : Int32} {x : UInt64} (hd : decode (zMC mm) pc = .ok (.dastore, 1)) (hK : mK M a = 6) (hi : vp_in i (mN M a)) (hn : pc + 1 = n) (k : zX Z l d mm n L st (sAD M a i.toNatClampNeg x) nc ns Q) : zX Z l d mm pc L (.double x :: .int i :: .ref a :: st) M nc ns Q := by
  subst hn
  intro p e R s m args below meth c H locs cells slots QF ls C hl hM hS hc hs hE
  obtain ⟨ws, hP, hD, hI, hC⟩ := hM
  obtain ⟨q0, hq0⟩ := hI a ⟨by omega, by omega, by omega⟩
  rw [zE6 hK] at hq0
  refine va_dast C.1 C.2.1 C.2.2.2.2.2.2.2.2.2.2.1 hP hD hS q0 5 hq0 rfl hi hd (fun H1 locs1 hP1 hD1 hS1 => ?_)
  refine k p e R s m args below meth c H1 locs1 cells slots QF ls C hl ⟨_, hP1, hD1, zIn_set hq0 hI (fun b hb => hb) ?_ (fun b hb => zEnt_ne rfl rfl rfl rfl rfl rfl rfl (u2_ne hb)), zCo_row rfl rfl rfl hC⟩ hS1 hc hs hE
  rw [zE6 (show mK (sAD M a i.toNatClampNeg x) a = 6 from hK)]
  refine congrArg (fun z => Sum.inl (zPt Z 5, mN M a, Sum.inr (Sum.inr (Sum.inr (Sum.inl z))))) ?_
  exact u2_row
/-- storing an object of ours in an Object row -/
theorem zs_aast {a v ci : Nat} {r : vw_C} {i : Int32} (hd : decode (zMC mm) pc = .ok (.aastore, 1)) (hK : mK M a = 3) (hi : vp_in i (mN M a)) (hv : mK M v = 10 + ci) (hr : vwCl[ci]? = some r) (hw : zwd (.castable r.1 "java/lang/Object")) (hn : pc + 1 = n) (k : zX Z l d mm n L st (sAR M a i.toNatClampNeg (some v)) nc ns Q) : zX Z l d mm pc L (.ref v :: .int i :: .ref a :: st) M nc ns Q := by
  subst hn
  intro p e R s m args below meth c H locs cells slots QF ls C hl hM hS hc hs hE
  obtain ⟨ws, hP, hD, hI, hC⟩ := hM
  obtain ⟨q0, hq0⟩ := hI a ⟨by omega, by omega, by omega⟩
  obtain ⟨q1, hq1⟩ := hI v ⟨by omega, by omega, by omega⟩
  rw [zE3 hK] at hq0
  rw [zEnt_obj hv] at hq1
  have hW := C.2.2.2.2.2.2.2.2.2.1
  refine va_astqO C.1 C.2.1 C.2.2.2.2.2.2.2.2.2.2.1 hP hD hS q0 2 q1 ci hq0 rfl (hW _ hw.1 hw.2) hq1 hr hi hd (fun H1 locs1 hP1 hD1 hS1 => ?_)
  refine k p e R s m args below meth c H1 locs1 cells slots QF ls C hl ⟨_, hP1, hD1, zIn_set hq0 hI (fun b hb => hb) ?_ (fun b hb => zEnt_ne rfl rfl rfl rfl rfl (u2_ne hb) rfl rfl), zCo_row rfl rfl rfl hC⟩ hS1 hc hs hE
  rw [zE3 (show mK (sAR M a i.toNatClampNeg (some v)) a = 3 from hK), show aR (sAR M a i.toNatClampNeg (some v)) a = va_up (aR M a) i.toNatClampNeg (some v) from u2_row]
theorem zs_aastN {a : Nat} {i : Int32} (hd : decode (zMC mm) pc = .ok (.aastore, 1)) (hK : mK M a = 3) (hi : vp_in i (mN M a)) (hn : pc + 1 = n) (k : zX Z l d mm n L st (sAR M a i.toNatClampNeg none) nc ns Q) : zX Z l d mm pc L (.null :: .int i :: .ref a :: st) M nc ns Q := by
  subst hn
  intro p e R s m args below meth c H locs cells slots QF ls C hl hM hS hc hs hE
  obtain ⟨ws, hP, hD, hI, hC⟩ := hM
  obtain ⟨q0, hq0⟩ := hI a ⟨by omega, by omega, by omega⟩
  rw [zE3 hK] at hq0
  refine va_astqN C.1 C.2.1 C.2.2.2.2.2.2.2.2.2.2.1 hP hD hS q0 2 hq0 rfl hi hd (fun H1 locs1 hP1 hD1 hS1 => ?_)
  refine k p e R s m args below meth c H1 locs1 cells slots QF ls C hl ⟨_, hP1, hD1, zIn_set hq0 hI (fun b hb => hb) ?_ (fun b hb => zEnt_ne rfl rfl rfl rfl rfl (u2_ne hb) rfl rfl), zCo_row rfl rfl rfl hC⟩ hS1 hc hs hE
  rw [zE3 (show mK (sAR M a i.toNatClampNeg none) a = 3 from hK), show aR (sAR M a i.toNatClampNeg none) a = va_up (aR M a) i.toNatClampNeg none from u2_row]
theorem zs_alen {a : Nat} (hd : decode (zMC mm) pc = .ok (.arraylength, 1)) (hK : 1 ≤ mK M a ∧ mK M a ≤ 7) (hn : pc + 1 = n) (k : zX Z l d mm n L (.int (nI (mN M a)) :: st) M nc ns Q) : zX Z l d mm pc L (.ref a :: st) M nc ns Q := by
  subst hn
  intro p e R s m args below meth c H locs cells slots QF ls C hl hM hS hc hs hE
  have hM0 := hM
  obtain ⟨ws, hP, hD, hI, hC⟩ := hM
  have kk := k p e R s m args below meth c H locs cells slots QF ls C hl hM0 hS hc hs hE
  have hKs := C.2.2.2.2.2.2.2.2.2.2.1
  by_cases h7 : mK M a = 7
  · obtain ⟨h1, h2, h3⟩ := hC.1 a h7
    have hT := C.2.2.2.2.2.2.2.2.2.2.2.1.2.1
    rw [← h1] at hT
    exact va_tlen C.1 C.2.1 hT hS (by rw [h3]; rfl) hd kk
  · obtain ⟨q0, hq0⟩ := hI a ⟨by omega, h7, by omega⟩
    by_cases h1 : mK M a = 1
    · rw [zE1 h1] at hq0; exact va_alen C.1 C.2.1 hKs hP q0 0 hq0 rfl rfl hd kk
    by_cases h2 : mK M a = 2
    · rw [zE2 h2] at hq0; exact va_alen C.1 C.2.1 hKs hP q0 1 hq0 rfl rfl hd kk
    by_cases h3 : mK M a = 3
    · rw [zE3 h3] at hq0; exact va_alen C.1 C.2.1 hKs hP q0 2 hq0 rfl rfl hd kk
    by_cases h4 : mK M a = 4
    · rw [zE4 h4] at hq0; exact va_alen C.1 C.2.1 hKs hP q0 3 hq0 rfl rfl hd kk
    by_cases h5 : mK M a = 5
    · rw [zE5 h5] at hq0; exact va_alen C.1 C.2.1 hKs hP q0 4 hq0 rfl rfl hd kk
    · have h6 : mK M a = 6 := by omega
      rw [zE6 h6] at hq0; exact va_alen C.1 C.2.1 hKs hP q0 5 hq0 rfl rfl hd kk
/-- new rows of numbers: kind 1 int, 2 boolean, 5 long, 6 double -/
theorem znewa {at_ : ArrayType} {kind j N : Nat} {i : Int32} {v : Nat → (Nat → Int32) ⊕ (Nat → Int64) ⊕ (Nat → UInt32) ⊕ (Nat → UInt64) ⊕ (Nat → Option Nat)} (g : Nat) {nc1 ns1 : Nat} (hd : decode (zMC mm) pc = .ok (.newarray at_, 2)) (hw : zwd (.arrayClass (newarray.typeOf at_))) (hty : (zTy Z)[j]? = some (zPt Z j, newarray.typeOf at_)) (hra : ∀ (U : State) (c1 c2 : ClassId), va_RA U c1 (newarray.typeOf at_) → va_RA U c2 (newarray.typeOf at_) → c1 = c2)
    (hcell : ∀ cA : ClassId, vp_cell cA (N, v 0) = arrV cA N (fun _ => defaultValue (newarray.typeOf at_))) (hent : ∀ M' q, mK M' q = kind → mN M' q = N → aI M' q = (fun _ => 0) → aL M' q = (fun _ => 0) → aD M' q = (fun _ => 0) → zEnt Z M' q = .inl (zPt Z j, N, v 0)) (hk7 : kind ≠ 7) (hk8 : kind ≠ 8)
    (hi : ¬ i < 0) (hN : i.toNatClampNeg = N) (hb : N * componentBytes (newarray.typeOf at_) ≤ 536870912) (hn : pc + 2 = n) (hc1 : nc1 + 1 ≤ nc) (hs1 : ns1 + N ≤ ns) (k : ∀ q, mK M q = 0 → zX Z l d mm n L (.ref q :: st) (zNew M q kind N g) nc1 ns1 Q) : zX Z l d mm pc L (.int i :: st) M nc ns Q := by
  subst hn
  intro p e R s m args below meth c H locs cells slots QF ls C hl hM hS hc hs hE
  obtain ⟨ws, hP, hD, hI, hC⟩ := hM
  have hW := C.2.2.2.2.2.2.2.2.2.1
  have hKs := C.2.2.2.2.2.2.2.2.2.2.1
  refine va_newa (a0 := (N, v 0)) C.1 C.2.1 (hW.use hw.1 hw.2) rfl hKs hP hD hS (fun q hq => Nat.le_trans C.2.2.2.2.2.2.2.2.2.2.2.2.1 hq) hcell hi hN hb (by omega) (by omega) hd (fun q cA H1 hK1 hP1 hD1 hS1 => ?_)
  have h6 : (zTy Z ++ [(cA, newarray.typeOf at_)])[6]? = some (cA, newarray.typeOf at_) := rfl
  have hcA : cA = zPt Z j := hra s _ _ (hK1.2 6 _ h6).2 (hKs.2 j _ hty).2
  subst hcA
  have hq0 := zFresh hI hC hD1
  refine k q hq0 p e R s m args below meth c H1 locs (cells + 1) (slots + N) QF ls C hl ⟨_, hP1, hD1, zIn_new hI (fun b hb h => zNew_live hb h) ?_ (fun b hb => zNew_ne hb), zNew_co hk7 hk8 hC⟩ hS1 (by omega) (by omega) hE
  exact hent (zNew M q kind N g) q u1_at u1_at u1_at u1_at u1_at
theorem zra_str {ty : FieldType} (h : ∀ (U : State) (c : ClassId), va_RA U c ty = (U.vm.findClass ("[" ++ ty.toString) = some c)) (U : State) (c1 c2 : ClassId) (h1 : va_RA U c1 ty) (h2 : va_RA U c2 ty) : c1 = c2 := by
  rw [h] at h1 h2
  exact Option.some.inj (h1.symm.trans h2)
theorem zs_newI {N : Nat} {i : Int32} (g : Nat) {nc1 ns1 : Nat} (hd : decode (zMC mm) pc = .ok (.newarray .int, 2)) (hw : zwd (.arrayClass .int)) (hi : ¬ i < 0) (hN : i.toNatClampNeg = N) (hb : N ≤ 100000) (hn : pc + 2 = n) (hc1 : nc1 + 1 ≤ nc) (hs1 : ns1 + N ≤ ns) (k : ∀ q, mK M q = 0 → zX Z l d mm n L (.ref q :: st) (zNew M q 1 N g) nc1 ns1 Q) : zX Z l d mm pc L (.int i :: st) M nc ns Q :=
  znewa (j := 0) (v := fun _ => .inl (fun _ => 0)) g hd hw rfl (zra_str (fun _ _ => rfl)) (fun _ => rfl) (fun M' q h1 h2 h3 _ _ => by rw [zE1 h1, h2, h3]) (by decide) (by decide) hi hN (by show N * 4 ≤ _; omega) hn hc1 hs1 k
theorem zs_newZ {N : Nat} {i : Int32} (g : Nat) {nc1 ns1 : Nat} (hd : decode (zMC mm) pc = .ok (.newarray .boolean, 2)) (hw : zwd (.arrayClass .boolean)) (hi : ¬ i < 0) (hN : i.toNatClampNeg = N) (hb : N ≤ 100000) (hn : pc + 2 = n) (hc1 : nc1 + 1 ≤ nc) (hs1 : ns1 + N ≤ ns) (k : ∀ q, mK M q = 0 → zX Z l d mm n L (.ref q :: st) (zNew M q 2 N g) nc1 ns1 Q) : zX Z l d mm pc L (.int i :: st) M nc ns Q :=
  znewa (j := 1) (v := fun _ => .inl (fun _ => 0)) g hd hw rfl (zra_str (fun _ _ => rfl)) (fun _ => rfl) (fun M' q h1 h2 h3 _ _ => by rw [zE2 h1, h2, h3]) (by decide) (by decide) hi hN (by show N * 1 ≤ _; omega) hn hc1 hs1 k
theorem zs_newJ {N : Nat} {i : Int32} (g : Nat) {nc1 ns1 : Nat} (hd : decode (zMC mm) pc = .ok (.newarray .long, 2)) (hw : zwd (.arrayClass .long)) (hi : ¬ i < 0) (hN : i.toNatClampNeg = N) (hb : N ≤ 100000) (hn : pc + 2 = n) (hc1 : nc1 + 1 ≤ nc) (hs1 : ns1 + N ≤ ns) (k : ∀ q, mK M q = 0 → zX Z l d mm n L (.ref q :: st) (zNew M q 5 N g) nc1 ns1 Q) : zX Z l d mm pc L (.int i :: st) M nc ns Q :=
  znewa (j := 4) (v := fun _ => .inr (.inl (fun _ => 0))) g hd hw rfl (zra_str (fun _ _ => rfl)) (fun _ => rfl) (fun M' q h1 h2 _ h4 _ => by rw [zE5 h1, h2, h4]) (by decide) (by decide) hi hN (by show N * 8 ≤ _; omega) hn hc1 hs1 k
theorem zs_newD {N : Nat} {i : Int32} (g : Nat) {nc1 ns1 : Nat} (hd : decode (zMC mm) pc = .ok (.newarray .double, 2)) (hw : zwd (.arrayClass .double)) (hi : ¬ i < 0) (hN : i.toNatClampNeg = N) (hb : N ≤ 100000) (hn : pc + 2 = n) (hc1 : nc1 + 1 ≤ nc) (hs1 : ns1 + N ≤ ns) (k : ∀ q, mK M q = 0 → zX Z l d mm n L (.ref q :: st) (zNew M q 6 N g) nc1 ns1 Q) : zX Z l d mm pc L (.int i :: st) M nc ns Q :=
  znewa (j := 5) (v := fun _ => .inr (.inr (.inr (.inl (fun _ => 0))))) g hd hw rfl (zra_str (fun _ _ => rfl)) (fun _ => rfl) (fun M' q h1 h2 _ _ h5 => by rw [zE6 h1, h2, h5]) (by decide) (by decide) hi hN (by show N * 8 ≤ _; omega) hn hc1 hs1 k
/-- new Object[n] -/
theorem zs_newQ {ix N : Nat} {i : Int32} (g : Nat) {nc1 ns1 : Nat} (hd : decode (zMC mm) pc = .ok (.anewarray ix, 3)) (hw1 : zwd (.classLink (zMY mm).cls ix "java/lang/Object")) (hw2 : zwd (.arrayOver (.object "java/lang/Object"))) (hi : ¬ i < 0) (hN : i.toNatClampNeg = N) (hb : N ≤ 100000) (hn : pc + 3 = n) (hc1 : nc1 + 1 ≤ nc) (hs1 : ns1 + N ≤ ns) (k : ∀ q, mK M q = 0 → zX Z l d mm n L (.ref q :: st) (zNew M q 3 N g) nc1 ns1 Q) : zX Z l d mm pc L (.int i :: st) M nc ns Q := by
  subst hn
  intro p e R s m args below meth c H locs cells slots QF ls C hl hM hS hc hs hE
  obtain ⟨ws, hP, hD, hI, hC⟩ := hM
  have hW := C.2.2.2.2.2.2.2.2.2.1
  have hKs := C.2.2.2.2.2.2.2.2.2.2.1
  refine va_newq C.1 C.2.1 C.2.2.2.1 (hW.use hw1.1 hw1.2) (hW _ hw2.1 hw2.2) hKs hP hD hS (fun q hq => Nat.le_trans C.2.2.2.2.2.2.2.2.2.2.2.2.1 hq) hi hN (by omega) (by omega) (by omega) hd (fun q cA H1 hK1 hP1 hD1 hS1 => ?_)
  have h6 : (zTy Z ++ [(cA, FieldType.object "java/lang/Object")])[6]? = some (cA, .object "java/lang/Object") := rfl
  have hcA : cA = zPt Z 2 := by
    obtain ⟨_, _, -, -, -, h1⟩ := (hK1.2 6 _ h6).2
    obtain ⟨_, _, -, -, -, h2⟩ := (hKs.2 2 _ rfl).2
    exact Option.some.inj (h1.symm.trans h2)
  subst hcA
  have hq0 := zFresh hI hC hD1
  refine k q hq0 p e R s m args below meth c H1 locs (cells + 1) (slots + N) QF ls C hl ⟨_, hP1, hD1, zIn_new hI (fun b hb h => zNew_live hb h) ?_ (fun b hb => zNew_ne hb), zNew_co (by decide) (by decide) hC⟩ hS1 (by omega) (by omega) hE
  rw [zE3 (u1_at : mK (zNew M q 3 N g) q = 3), show mN (zNew M q 3 N g) q = N from u1_at, show aR (zNew M q 3 N g) q = fun _ => none from u1_at]
/-- a cast of one of our objects to its own class -/
theorem zs_castS {ix a ci : Nat} {r : vw_C} (hd : decode (zMC mm) pc = .ok (.checkcast ix, 3)) (hr : vwCl[ci]? = some r) (hw : zwd (.classLink (zMY mm).cls ix r.1)) (hK : mK M a = 10 + ci) (hn : pc + 3 = n) (k : zX Z l d mm n L (.ref a :: st) M nc ns Q) : zX Z l d mm pc L (.ref a :: st) M nc ns Q := by
  subst hn
  intro p e R s m args below meth c H locs cells slots QF ls C hl hM hS hc hs hE
  have hM0 := hM
  obtain ⟨ws, hP, hD, hI, hC⟩ := hM
  obtain ⟨q0, hq0⟩ := hI a ⟨by omega, by omega, by omega⟩
  rw [zEnt_obj hK] at hq0
  have hW := C.2.2.2.2.2.2.2.2.2.1
  have hKs := C.2.2.2.2.2.2.2.2.2.2.1
  obtain ⟨r', hr', cell, g1, g2, g3, -⟩ := hP q0 _ hq0
  cases Option.some.inj (hr'.symm.trans hr)
  have hcls := (hKs.1 ci r hr).2
  exact va_castS C.1 C.2.1 C.2.2.2.1 (hW.use hw.1 hw.2) hcls ⟨cell, g1, by rw [g3]; rfl, by rw [g2]; exact hcls.1⟩ hd (k p e R s m args below meth c H locs cells slots QF ls C hl hM0 hS hc hs hE)
theorem zs_castN {ix : Nat} (hd : decode (zMC mm) pc = .ok (.checkcast ix, 3)) (hn : pc + 3 = n) (k : zX Z l d mm n L (.null :: st) M nc ns Q) : zX Z l d mm pc L (.null :: st) M nc ns Q := by
  subst hn
  intro p e R s m args below meth c H locs cells slots QF ls C hl hM hS hc hs hE
  exact lv_castN C.1 C.2.1 hd (k p e R s m args below meth c H locs cells slots QF ls C hl hM hS hc hs hE)
/-- Object's constructor -/
theorem zs_objInit {ix a : Nat} (hd : decode (zMC mm) pc = .ok (.invokespecial ix, 3)) (hw1 : zwd (.methodLink (zMY mm).cls ix objectInit)) (hw2 : zwd (.instanceMethod objectInit)) (hw3 : zwd (.code objectInit ⟨#[0xb1]⟩ 1 none)) (hst : (st.map fun v => v.category).sum ≤ 64) (hn : pc + 3 = n) (k : zX Z l d mm n L st M nc ns Q) : zX Z l d mm pc L (.ref a :: st) M nc ns Q := by
  subst hn
  intro p e R s m args below meth c H locs cells slots QF ls C hl hM hS hc hs hE
  have hW := C.2.2.2.2.2.2.2.2.2.1
  refine W.objInit C.1 C.2.1 C.2.2.2.1 (hW.use hw1.1 hw1.2) (hW.use hw2.1 hw2.2) (hW.use hw3.1 hw3.2) rfl (hl.1.trans C.2.2.1.symm) rfl hd ?_ ?_ (k p e R s m args below meth c H locs cells slots QF ls C hl hM hS hc hs hE)
  · have := C.2.2.2.2.2.2.2.2.2.2.2.2.2.1
    omega
  · have := C.2.2.2.2.2.2.2.2.2.2.2.2.2.2
    show 0 + _ + 12 ≤ _
    omega
end ZROWS
