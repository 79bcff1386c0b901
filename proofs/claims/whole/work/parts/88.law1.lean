/-! THE LAW: its script; methods that catch what their callee throws; the law's wrappers -/
/-- a contract of a method with handlers that lets nothing out -/
abbrev zWsH (mm : zMeth) : List Cond := [Cond.codeWith (zMY mm) (zMC mm) (zML mm) (zMR mm) (zMH mm)]
def zMokH (mm' : zMeth) (nargs : Nat) : Prop := plainName (zMY mm').cls = true ∧ ((zMY mm').cls ≠ "java/lang/invoke/MethodHandle" ∧ (zMY mm').cls ≠ "java/lang/invoke/VarHandle") ∧ (parseMethodDescriptor (zMY mm').desc).map (fun d => d.parameters.length) = some nargs ∧ zML mm' ≤ 40 ∧ zwd (.codeWith (zMY mm') (zMC mm') (zML mm') (zMR mm') (zMH mm')) ∧ zwd (.initialized (zMY mm').cls)
set_option maxHeartbeats 1000000 in
theorem zmetH {Z : zPar} {l : Launch} {d : Nat} {mm : zMeth} {As : List Value} {M : zMem} {mc ms : Nat} {Q : zO → zMem → Prop} (hl : l.stackTraces = false) (hno : ∀ k M', Q (.inr k) M' → False) (hp : plainName (zMY mm).cls = true) (hA : (lg_sl As).length ≤ zML mm)
    (h : zX Z l d mm 0 (lv_args 0 As) [] M mc ms Q) : vx_Met l (zMY mm) (zWsH mm) (zRm d mc ms) (va_Pc As (zPre Z M)) (zQc Z Q) (zXC Z Q) mc ms (zA Z) := by
  refine vx_ofWH (cc := zMC mm) (maxL := zML mm) (ret := zMR mm) (hh := zMH mm) hp rfl ?_
  intro p e s m args below meth c s₁ B hml hv
  have htab : c.exceptionTable.toList = tableOf (zMH mm) := vx_table (x := zMY mm) B (atoms_spec (ws := zWsH mm) B.pre _ List.mem_cons_self)
  obtain ⟨rfl, hb, hW, hK, hE, hM⟩ := hv
  have hrc : (headSpec (zWsH mm) (zRm d mc ms)).room = zRm d mc ms := rfl
  rw [lg_entry_eq]
  have hlv := lv_entry As (n := zML mm) hA
  generalize (lg_sl As ++ List.replicate (zML mm - (lg_sl As).length) Slot.unset).toArray = ls at hlv ⊢
  have hx := B.exec
  have hcb := B.bytes
  have hr := B.returns
  have hlocks := B.notSynchronized
  have C : zCtx Z l d mm p (zRm d mc ms) s m meth c := ⟨hx, hcb, hml, findClass_of_methodNamed B.named, hr, hlocks, (name_of_methodNamed B.named B.method).1, htab, hl, hW, hK, hE, hb, Nat.le_refl _, Nat.le_refl _⟩
  refine h p e (zRm d mc ms) s m As.toArray below meth c s.heap [] 0 0 _ ls C hlv hM va_S.rf (by simp) (by simp) ⟨?_, ?_, ?_⟩
  · intro v M' H locs cells slots pc ls' hQ hM' hS hc hs hret
    refine W.widen (k := mc) (n := ms) hc hs (vx_ret ?_)
    have hq : ∀ t : State, t.heap = H → s.WarmedH t.vm → zQc Z Q As.toArray s (.returned v) t := fun t ht _ => ⟨⟨v, M', rfl, hQ, by rw [ht]; exact hM'⟩, hS.F ht⟩
    match v, hret, hq with
    | none, hret, hq => exact W.vret hx hcb (hr.trans hret.2) hq hS.2.2 hret.1 hlocks
    | some (.int x), hret, hq =>
      obtain ⟨h1, ty, h2, h3⟩ := hret
      exact W.zret hx hcb (hr.trans h2) h3 hq hS.2.2 h1 hlocks
    | some (.long x), hret, hq => exact W.lret hx hcb (hr.trans hret.2) hq hS.2.2 hret.1 hlocks
    | some (.float x), hret, hq => exact W.fret hx hcb (hr.trans hret.2) hq hS.2.2 hret.1 hlocks
    | some (.double x), hret, hq => exact W.dret hx hcb (hr.trans hret.2) hq hS.2.2 hret.1 hlocks
    | some .null, hret, hq =>
      obtain ⟨h1, ty, h2, h3⟩ := hret
      exact W.aret hx hcb (hr.trans h2) h3 (Or.inl rfl) hq hS.2.2 h1 hlocks
    | some (.ref a), hret, hq =>
      obtain ⟨h1, ty, h2, h3⟩ := hret
      exact W.aret hx hcb (hr.trans h2) h3 (Or.inr ⟨a, rfl⟩) hq hS.2.2 h1 hlocks
    | some (.retAddr a), hret, hq => exact hret.elim
  · intro k M' H locs cells slots pc ls' rest q ce hQ
    exact (hno k M' hQ).elim
  · intro k M' H locs cells slots pc ik is ic text ls' rest hQ
    exact (hno k M' hQ).elim
section ZLAW1
variable {Z : zPar} {l : Launch} {d d' : Nat} {mm mm' : zMeth} {pc n nc ns ix nargs mc ms nc1 ns1 : Nat} {L : List (Nat × Value)} {st st0 As : List Value} {M : zMem} {Q Post : zO → zMem → Prop} {v : Option Value}
/-- an int of the script -/
theorem zs_sld {j : Nat} (hd : decode (zMC mm) pc = .ok (.iaload, 1)) (hj : j < (zPs Z).2.1) (hj2 : j < 2 ^ 31) (hn : pc + 1 = n) (k : zX Z l d mm n L (.int ((zPs Z).2.2 j) :: st) M nc ns Q) : zX Z l d mm pc L (.int (nI j) :: .ref (zPs Z).1 :: st) M nc ns Q := by
  subst hn
  intro p e R s m args below meth c H locs cells slots QF ls C hl hM hS hc hs hE
  obtain ⟨h1, h2, -⟩ := C.en2
  have hbl : (zPs Z).1 < s.heap.size := by
    obtain ⟨scr, hs9, -⟩ := h1
    exact (Array.getElem?_eq_some_iff.mp hs9).1
  refine va_sld C.1 C.2.1 h1 hbl (Nat.not_le.mpr h2) hS (fun h => ?_) hd ?_
  · rcases h with h | h
    · exact nI_pos hj2 h
    · rw [nI_clamp hj2] at h
      omega
  · rw [nI_clamp hj2]
    exact k p e R s m args below meth c H locs cells slots QF ls C hl hM hS hc hs hE
theorem zs_slen (hd : decode (zMC mm) pc = .ok (.arraylength, 1)) (hn : pc + 1 = n) (k : zX Z l d mm n L (.int (nI (zPs Z).2.1) :: st) M nc ns Q) : zX Z l d mm pc L (.ref (zPs Z).1 :: st) M nc ns Q := by
  subst hn
  intro p e R s m args below meth c H locs cells slots QF ls C hl hM hS hc hs hE
  obtain ⟨h1, h2, -⟩ := C.en2
  have hbl : (zPs Z).1 < s.heap.size := by
    obtain ⟨scr, hs9, -⟩ := h1
    exact (Array.getElem?_eq_some_iff.mp hs9).1
  exact va_slen C.1 C.2.1 h1 hbl (Nat.not_le.mpr h2) hS hd (k p e R s m args below meth c H locs cells slots QF ls C hl hM hS hc hs hE)
/-- a static method that catches all -/
theorem zs_invSX (hd : decode (zMC mm) pc = .ok (.invokestatic ix, 3)) (hm : zMokH mm' nargs) (hw : zwd (.methodLink (zMY mm).cls ix (zMY mm')) ∧ zwd (.static (zMY mm'))) (hAs : As.length = nargs) (hfit : (lg_sl As).length ≤ zML mm') (hst : st.length ≤ 4) (hdd : d = d' + 1) (hc1 : nc1 + mc ≤ nc) (hs1 : ns1 + ms ≤ ns) (hstk : st0 = As.reverse ++ st) (hn : pc + 3 = n)
    (hno : ∀ k M', Post (.inr k) M' → False) (h : zX Z l d' mm' 0 (lv_args 0 As) [] M mc ms Post) (kk : ∀ v M', Post (.inl v) M' → zX Z l d mm n L (v.toList ++ st) M' nc1 ns1 Q) : zX Z l d mm pc L st0 M nc ns Q := by
  subst hn
  intro p e R s m args below meth c H locs cells slots QF ls C hl hM hS hc hs hE
  have hW := C.2.2.2.2.2.2.2.2.2.1
  have hcat := zcat st
  obtain ⟨h2, h3, h4, h5, h6, h7⟩ := hm
  have hf := C.2.2.2.2.2.2.2.2.2.2.2.2.2.1
  have hlo := C.2.2.2.2.2.2.2.2.2.2.2.2.2.2
  have cw : vx_CSW R s args (zMY mm).cls ix (zMY mm') (zMC mm') (zML mm') (zMR mm') (zMH mm') (zWsH mm') (zRm d' mc ms) mc ms nargs := by
    refine ⟨⟨rfl, rfl, ?_, ?_, fun w hw' a' U hWm => ?_, List.mem_cons_self⟩, hW.use h6.1 h6.2, hW.use h7.1 h7.2, h3, fun sig h => ?_, hW.use hw.1.1 hw.1.2, hW.use hw.2.1 hw.2.2⟩
    · show 8 * d' + 8 + 1 ≤ _
      omega
    · exact zarith _ _ _ _ h5 hdd hlo
    · rw [List.mem_singleton] at hw'
      subst hw'
      exact (hW.warm hWm).use h6.1 h6.2
    · rw [h] at h4
      exact (Option.some.inj h4).symm
  refine zrun (vx_runSX (As := As) (rest := st) (Ts := []) (g := F0 m pc ls st0) ⟨C.1, C.2.1, C.2.2.1, C.2.2.2.1, fun w h => nomatch h⟩ (zmetH C.2.2.2.2.2.2.2.2.1 hno h2 hfit h) cw ⟨zPre.blind, fun U hU hWm => ⟨rfl, C.pre hM hS U hU hWm⟩⟩ rfl hAs hl.1 hstk (by show 2 * 0 + _ ≤ 8; omega) hd ⟨by omega, by omega⟩) hS ?_ ?_
  · intro k M' ce q H1 locs1 hp hM1 hS1 hce hcv hcl
    exact (hno k M' hp).elim
  · intro v M' H1 locs1 hp hM1 hS1
    exact kk v M' hp p e R s m args below meth c H1 locs1 (cells + mc) (slots + ms) QF ls C hl hM1 hS1 (by omega) (by omega) hE
end ZLAW1

theorem cst_0 : zwd (.castable (zXN 0) (zXN 0)) := ⟨tw_2 _ (List.mem_of_getElem? (i := 137) (by decide +kernel)), by decide +kernel⟩
theorem cst_1 : zwd (.castable (zXN 1) (zXN 1)) := ⟨tw_2 _ (List.mem_of_getElem? (i := 229) (by decide +kernel)), by decide +kernel⟩
theorem cst_2 : zwd (.castable (zXN 2) (zXN 2)) := ⟨tw_3 _ (List.mem_of_getElem? (i := 154) (by decide +kernel)), by decide +kernel⟩
theorem cst_3 : zwd (.castable (zXN 3) (zXN 3)) := ⟨tw_6 _ (List.mem_of_getElem? (i := 23) (by decide +kernel)), by decide +kernel⟩
theorem cst_4 : zwd (.castable (zXN 4) (zXN 4)) := ⟨tw_2 _ (List.mem_of_getElem? (i := 213) (by decide +kernel)), by decide +kernel⟩
theorem cst_5 : zwd (.castable (zXN 5) (zXN 5)) := ⟨tw_4 _ (List.mem_of_getElem? (i := 57) (by decide +kernel)), by decide +kernel⟩
theorem clx_13 : zwd (.classLink RL 13 (zXN 0)) := ⟨tw_2 _ (List.mem_of_getElem? (i := 125) (by decide +kernel)), by decide +kernel⟩
theorem clx_15 : zwd (.classLink RL 15 (zXN 4)) := ⟨tw_2 _ (List.mem_of_getElem? (i := 126) (by decide +kernel)), by decide +kernel⟩
theorem clx_17 : zwd (.classLink RL 17 (zXN 1)) := ⟨tw_2 _ (List.mem_of_getElem? (i := 127) (by decide +kernel)), by decide +kernel⟩
theorem clx_23 : zwd (.classLink RL 23 (zXN 2)) := ⟨tw_3 _ (List.mem_of_getElem? (i := 119) (by decide +kernel)), by decide +kernel⟩
theorem clx_50 : zwd (.classLink RL 50 (zXN 5)) := ⟨tw_4 _ (List.mem_of_getElem? (i := 50) (by decide +kernel)), by decide +kernel⟩
theorem clx_118 : zwd (.classLink RL 118 (zXN 3)) := ⟨tw_6 _ (List.mem_of_getElem? (i := 11) (by decide +kernel)), by decide +kernel⟩
theorem ok_L_addPitch : zMokH mth_L_addPitch 5 := ⟨by decide +kernel, ⟨by decide +kernel, by decide +kernel⟩, by decide +kernel, by decide, ⟨tw_2 _ (List.mem_of_getElem? (i := 124) (by decide +kernel)), by decide +kernel⟩, ⟨tw_1 _ (List.mem_of_getElem? (i := 0) (by decide +kernel)), by decide +kernel⟩⟩
theorem han_L_addPitch_0 : zHan mth_L_addPitch 7 0 15 := ⟨by decide, [], ⟨0, 12, 15, 13⟩, [⟨0, 12, 19, 15⟩, ⟨0, 12, 23, 17⟩], rfl, fun z hz => absurd hz (List.not_mem_nil), rfl, by decide, clx_13, cst_0, rfl⟩
theorem han_L_addPitch_4 : zHan mth_L_addPitch 7 4 19 := ⟨by decide, [⟨0, 12, 15, 13⟩], ⟨0, 12, 19, 15⟩, [⟨0, 12, 23, 17⟩], rfl, (fun z hz => by
    rcases List.mem_cons.mp hz with rfl | hz
    · exact Or.inr ⟨by decide, 0, by decide, by decide, clx_13⟩
    exact absurd hz List.not_mem_nil), rfl, by decide, clx_15, cst_4, rfl⟩
theorem han_L_addPitch_1 : zHan mth_L_addPitch 7 1 23 := ⟨by decide, [⟨0, 12, 15, 13⟩, ⟨0, 12, 19, 15⟩], ⟨0, 12, 23, 17⟩, [], rfl, (fun z hz => by
    rcases List.mem_cons.mp hz with rfl | hz
    · exact Or.inr ⟨by decide, 0, by decide, by decide, clx_13⟩
    rcases List.mem_cons.mp hz with rfl | hz
    · exact Or.inr ⟨by decide, 4, by decide, by decide, clx_15⟩
    exact absurd hz List.not_mem_nil), rfl, by decide, clx_17, cst_1, rfl⟩
theorem ok_L_setPassers : zMokH mth_L_setPassers 5 := ⟨by decide +kernel, ⟨by decide +kernel, by decide +kernel⟩, by decide +kernel, by decide, ⟨tw_3 _ (List.mem_of_getElem? (i := 118) (by decide +kernel)), by decide +kernel⟩, ⟨tw_1 _ (List.mem_of_getElem? (i := 0) (by decide +kernel)), by decide +kernel⟩⟩
theorem han_L_setPassers_2 : zHan mth_L_setPassers 7 2 15 := ⟨by decide, [], ⟨0, 12, 15, 23⟩, [⟨0, 12, 19, 13⟩], rfl, fun z hz => absurd hz (List.not_mem_nil), rfl, by decide, clx_23, cst_2, rfl⟩
theorem han_L_setPassers_0 : zHan mth_L_setPassers 7 0 19 := ⟨by decide, [⟨0, 12, 15, 23⟩], ⟨0, 12, 19, 13⟩, [], rfl, (fun z hz => by
    rcases List.mem_cons.mp hz with rfl | hz
    · exact Or.inr ⟨by decide, 2, by decide, by decide, clx_23⟩
    exact absurd hz List.not_mem_nil), rfl, by decide, clx_13, cst_0, rfl⟩
theorem ok_L_passersAt : zMokH mth_L_passersAt 4 := ⟨by decide +kernel, ⟨by decide +kernel, by decide +kernel⟩, by decide +kernel, by decide, ⟨tw_3 _ (List.mem_of_getElem? (i := 167) (by decide +kernel)), by decide +kernel⟩, ⟨tw_1 _ (List.mem_of_getElem? (i := 0) (by decide +kernel)), by decide +kernel⟩⟩
theorem han_L_passersAt_2 : zHan mth_L_passersAt 5 2 13 := ⟨by decide, [], ⟨0, 10, 13, 23⟩, [⟨0, 10, 17, 13⟩], rfl, fun z hz => absurd hz (List.not_mem_nil), rfl, by decide, clx_23, cst_2, rfl⟩
theorem han_L_passersAt_0 : zHan mth_L_passersAt 5 0 17 := ⟨by decide, [⟨0, 10, 13, 23⟩], ⟨0, 10, 17, 13⟩, [], rfl, (fun z hz => by
    rcases List.mem_cons.mp hz with rfl | hz
    · exact Or.inr ⟨by decide, 2, by decide, by decide, clx_23⟩
    exact absurd hz List.not_mem_nil), rfl, by decide, clx_13, cst_0, rfl⟩
theorem ok_L_addAct : zMokH mth_L_addAct 7 := ⟨by decide +kernel, ⟨by decide +kernel, by decide +kernel⟩, by decide +kernel, by decide, ⟨tw_3 _ (List.mem_of_getElem? (i := 179) (by decide +kernel)), by decide +kernel⟩, ⟨tw_1 _ (List.mem_of_getElem? (i := 0) (by decide +kernel)), by decide +kernel⟩⟩
theorem han_L_addAct_0 : zHan mth_L_addAct 11 0 19 := ⟨by decide, [], ⟨0, 16, 19, 13⟩, [⟨0, 16, 23, 17⟩], rfl, fun z hz => absurd hz (List.not_mem_nil), rfl, by decide, clx_13, cst_0, rfl⟩
theorem han_L_addAct_1 : zHan mth_L_addAct 11 1 23 := ⟨by decide, [⟨0, 16, 19, 13⟩], ⟨0, 16, 23, 17⟩, [], rfl, (fun z hz => by
    rcases List.mem_cons.mp hz with rfl | hz
    · exact Or.inr ⟨by decide, 0, by decide, by decide, clx_13⟩
    exact absurd hz List.not_mem_nil), rfl, by decide, clx_17, cst_1, rfl⟩
theorem ok_L_setLine : zMokH mth_L_setLine 4 := ⟨by decide +kernel, ⟨by decide +kernel, by decide +kernel⟩, by decide +kernel, by decide, ⟨tw_3 _ (List.mem_of_getElem? (i := 234) (by decide +kernel)), by decide +kernel⟩, ⟨tw_1 _ (List.mem_of_getElem? (i := 0) (by decide +kernel)), by decide +kernel⟩⟩
theorem han_L_setLine_2 : zHan mth_L_setLine 5 2 13 := ⟨by decide, [], ⟨0, 10, 13, 23⟩, [⟨0, 10, 17, 13⟩], rfl, fun z hz => absurd hz (List.not_mem_nil), rfl, by decide, clx_23, cst_2, rfl⟩
theorem han_L_setLine_0 : zHan mth_L_setLine 5 0 17 := ⟨by decide, [⟨0, 10, 13, 23⟩], ⟨0, 10, 17, 13⟩, [], rfl, (fun z hz => by
    rcases List.mem_cons.mp hz with rfl | hz
    · exact Or.inr ⟨by decide, 2, by decide, by decide, clx_23⟩
    exact absurd hz List.not_mem_nil), rfl, by decide, clx_13, cst_0, rfl⟩
theorem ok_L_setPermit : zMokH mth_L_setPermit 4 := ⟨by decide +kernel, ⟨by decide +kernel, by decide +kernel⟩, by decide +kernel, by decide, ⟨tw_4 _ (List.mem_of_getElem? (i := 6) (by decide +kernel)), by decide +kernel⟩, ⟨tw_1 _ (List.mem_of_getElem? (i := 0) (by decide +kernel)), by decide +kernel⟩⟩
theorem han_L_setPermit_2 : zHan mth_L_setPermit 5 2 20 := ⟨by decide, [], ⟨0, 17, 20, 23⟩, [], rfl, fun z hz => absurd hz (List.not_mem_nil), rfl, by decide, clx_23, cst_2, rfl⟩
theorem ok_L_addCustom : zMokH mth_L_addCustom 4 := ⟨by decide +kernel, ⟨by decide +kernel, by decide +kernel⟩, by decide +kernel, by decide, ⟨tw_4 _ (List.mem_of_getElem? (i := 13) (by decide +kernel)), by decide +kernel⟩, ⟨tw_1 _ (List.mem_of_getElem? (i := 0) (by decide +kernel)), by decide +kernel⟩⟩
theorem han_L_addCustom_2 : zHan mth_L_addCustom 5 2 20 := ⟨by decide, [], ⟨0, 17, 20, 23⟩, [⟨0, 17, 24, 13⟩, ⟨0, 17, 28, 15⟩], rfl, fun z hz => absurd hz (List.not_mem_nil), rfl, by decide, clx_23, cst_2, rfl⟩
theorem han_L_addCustom_0 : zHan mth_L_addCustom 5 0 24 := ⟨by decide, [⟨0, 17, 20, 23⟩], ⟨0, 17, 24, 13⟩, [⟨0, 17, 28, 15⟩], rfl, (fun z hz => by
    rcases List.mem_cons.mp hz with rfl | hz
    · exact Or.inr ⟨by decide, 2, by decide, by decide, clx_23⟩
    exact absurd hz List.not_mem_nil), rfl, by decide, clx_13, cst_0, rfl⟩
theorem han_L_addCustom_4 : zHan mth_L_addCustom 5 4 28 := ⟨by decide, [⟨0, 17, 20, 23⟩, ⟨0, 17, 24, 13⟩], ⟨0, 17, 28, 15⟩, [], rfl, (fun z hz => by
    rcases List.mem_cons.mp hz with rfl | hz
    · exact Or.inr ⟨by decide, 2, by decide, by decide, clx_23⟩
    rcases List.mem_cons.mp hz with rfl | hz
    · exact Or.inr ⟨by decide, 0, by decide, by decide, clx_13⟩
    exact absurd hz List.not_mem_nil), rfl, by decide, clx_15, cst_4, rfl⟩
theorem ok_L_endCustom : zMokH mth_L_endCustom 4 := ⟨by decide +kernel, ⟨by decide +kernel, by decide +kernel⟩, by decide +kernel, by decide, ⟨tw_4 _ (List.mem_of_getElem? (i := 38) (by decide +kernel)), by decide +kernel⟩, ⟨tw_1 _ (List.mem_of_getElem? (i := 0) (by decide +kernel)), by decide +kernel⟩⟩
theorem han_L_endCustom_2 : zHan mth_L_endCustom 5 2 20 := ⟨by decide, [], ⟨0, 17, 20, 23⟩, [], rfl, fun z hz => absurd hz (List.not_mem_nil), rfl, by decide, clx_23, cst_2, rfl⟩
theorem ok_L_orderAt : zMokH mth_L_orderAt 4 := ⟨by decide +kernel, ⟨by decide +kernel, by decide +kernel⟩, by decide +kernel, by decide, ⟨tw_4 _ (List.mem_of_getElem? (i := 49) (by decide +kernel)), by decide +kernel⟩, ⟨tw_1 _ (List.mem_of_getElem? (i := 0) (by decide +kernel)), by decide +kernel⟩⟩
theorem han_L_orderAt_5 : zHan mth_L_orderAt 5 5 13 := ⟨by decide, [], ⟨0, 10, 13, 50⟩, [], rfl, fun z hz => absurd hz (List.not_mem_nil), rfl, by decide, clx_50, cst_5, rfl⟩
theorem ok_L_lotAt : zMokH mth_L_lotAt 3 := ⟨by decide +kernel, ⟨by decide +kernel, by decide +kernel⟩, by decide +kernel, by decide, ⟨tw_4 _ (List.mem_of_getElem? (i := 78) (by decide +kernel)), by decide +kernel⟩, ⟨tw_1 _ (List.mem_of_getElem? (i := 0) (by decide +kernel)), by decide +kernel⟩⟩
theorem han_L_lotAt_5 : zHan mth_L_lotAt 4 5 12 := ⟨by decide, [], ⟨0, 9, 12, 50⟩, [], rfl, fun z hz => absurd hz (List.not_mem_nil), rfl, by decide, clx_50, cst_5, rfl⟩
theorem ok_L_seed : zMokH mth_L_seed 3 := ⟨by decide +kernel, ⟨by decide +kernel, by decide +kernel⟩, by decide +kernel, by decide, ⟨tw_4 _ (List.mem_of_getElem? (i := 86) (by decide +kernel)), by decide +kernel⟩, ⟨tw_1 _ (List.mem_of_getElem? (i := 0) (by decide +kernel)), by decide +kernel⟩⟩
theorem han_L_seed_0 : zHan mth_L_seed 4 0 12 := ⟨by decide, [], ⟨0, 9, 12, 13⟩, [], rfl, fun z hz => absurd hz (List.not_mem_nil), rfl, by decide, clx_13, cst_0, rfl⟩
theorem ok_L_addTurn : zMokH mth_L_addTurn 4 := ⟨by decide +kernel, ⟨by decide +kernel, by decide +kernel⟩, by decide +kernel, by decide, ⟨tw_4 _ (List.mem_of_getElem? (i := 94) (by decide +kernel)), by decide +kernel⟩, ⟨tw_1 _ (List.mem_of_getElem? (i := 0) (by decide +kernel)), by decide +kernel⟩⟩
theorem han_L_addTurn_2 : zHan mth_L_addTurn 5 2 13 := ⟨by decide, [], ⟨0, 10, 13, 23⟩, [⟨0, 10, 17, 17⟩, ⟨0, 10, 21, 15⟩], rfl, fun z hz => absurd hz (List.not_mem_nil), rfl, by decide, clx_23, cst_2, rfl⟩
theorem han_L_addTurn_1 : zHan mth_L_addTurn 5 1 17 := ⟨by decide, [⟨0, 10, 13, 23⟩], ⟨0, 10, 17, 17⟩, [⟨0, 10, 21, 15⟩], rfl, (fun z hz => by
    rcases List.mem_cons.mp hz with rfl | hz
    · exact Or.inr ⟨by decide, 2, by decide, by decide, clx_23⟩
    exact absurd hz List.not_mem_nil), rfl, by decide, clx_17, cst_1, rfl⟩
theorem han_L_addTurn_4 : zHan mth_L_addTurn 5 4 21 := ⟨by decide, [⟨0, 10, 13, 23⟩, ⟨0, 10, 17, 17⟩], ⟨0, 10, 21, 15⟩, [], rfl, (fun z hz => by
    rcases List.mem_cons.mp hz with rfl | hz
    · exact Or.inr ⟨by decide, 2, by decide, by decide, clx_23⟩
    rcases List.mem_cons.mp hz with rfl | hz
    · exact Or.inr ⟨by decide, 1, by decide, by decide, clx_17⟩
    exact absurd hz List.not_mem_nil), rfl, by decide, clx_15, cst_4, rfl⟩
theorem ok_L_turnsByLots : zMokH mth_L_turnsByLots 2 := ⟨by decide +kernel, ⟨by decide +kernel, by decide +kernel⟩, by decide +kernel, by decide, ⟨tw_4 _ (List.mem_of_getElem? (i := 158) (by decide +kernel)), by decide +kernel⟩, ⟨tw_1 _ (List.mem_of_getElem? (i := 0) (by decide +kernel)), by decide +kernel⟩⟩
theorem han_L_turnsByLots_1 : zHan mth_L_turnsByLots 3 1 11 := ⟨by decide, [], ⟨0, 8, 11, 17⟩, [⟨0, 8, 14, 15⟩], rfl, fun z hz => absurd hz (List.not_mem_nil), rfl, by decide, clx_17, cst_1, rfl⟩
theorem han_L_turnsByLots_4 : zHan mth_L_turnsByLots 3 4 14 := ⟨by decide, [⟨0, 8, 11, 17⟩], ⟨0, 8, 14, 15⟩, [], rfl, (fun z hz => by
    rcases List.mem_cons.mp hz with rfl | hz
    · exact Or.inr ⟨by decide, 1, by decide, by decide, clx_17⟩
    exact absurd hz List.not_mem_nil), rfl, by decide, clx_15, cst_4, rfl⟩
theorem ok_L_exchange : zMokH mth_L_exchange 5 := ⟨by decide +kernel, ⟨by decide +kernel, by decide +kernel⟩, by decide +kernel, by decide, ⟨tw_4 _ (List.mem_of_getElem? (i := 174) (by decide +kernel)), by decide +kernel⟩, ⟨tw_1 _ (List.mem_of_getElem? (i := 0) (by decide +kernel)), by decide +kernel⟩⟩
theorem han_L_exchange_2 : zHan mth_L_exchange 7 2 22 := ⟨by decide, [], ⟨0, 19, 22, 23⟩, [⟨0, 19, 26, 17⟩, ⟨0, 19, 30, 15⟩], rfl, fun z hz => absurd hz (List.not_mem_nil), rfl, by decide, clx_23, cst_2, rfl⟩
theorem han_L_exchange_1 : zHan mth_L_exchange 7 1 26 := ⟨by decide, [⟨0, 19, 22, 23⟩], ⟨0, 19, 26, 17⟩, [⟨0, 19, 30, 15⟩], rfl, (fun z hz => by
    rcases List.mem_cons.mp hz with rfl | hz
    · exact Or.inr ⟨by decide, 2, by decide, by decide, clx_23⟩
    exact absurd hz List.not_mem_nil), rfl, by decide, clx_17, cst_1, rfl⟩
theorem han_L_exchange_4 : zHan mth_L_exchange 7 4 30 := ⟨by decide, [⟨0, 19, 22, 23⟩, ⟨0, 19, 26, 17⟩], ⟨0, 19, 30, 15⟩, [], rfl, (fun z hz => by
    rcases List.mem_cons.mp hz with rfl | hz
    · exact Or.inr ⟨by decide, 2, by decide, by decide, clx_23⟩
    rcases List.mem_cons.mp hz with rfl | hz
    · exact Or.inr ⟨by decide, 1, by decide, by decide, clx_17⟩
    exact absurd hz List.not_mem_nil), rfl, by decide, clx_15, cst_4, rfl⟩
theorem ok_L_turnAt : zMokH mth_L_turnAt 4 := ⟨by decide +kernel, ⟨by decide +kernel, by decide +kernel⟩, by decide +kernel, by decide, ⟨tw_4 _ (List.mem_of_getElem? (i := 194) (by decide +kernel)), by decide +kernel⟩, ⟨tw_1 _ (List.mem_of_getElem? (i := 0) (by decide +kernel)), by decide +kernel⟩⟩
theorem han_L_turnAt_2 : zHan mth_L_turnAt 5 2 13 := ⟨by decide, [], ⟨0, 10, 13, 23⟩, [⟨0, 10, 17, 50⟩], rfl, fun z hz => absurd hz (List.not_mem_nil), rfl, by decide, clx_23, cst_2, rfl⟩
theorem han_L_turnAt_5 : zHan mth_L_turnAt 5 5 17 := ⟨by decide, [⟨0, 10, 13, 23⟩], ⟨0, 10, 17, 50⟩, [], rfl, (fun z hz => by
    rcases List.mem_cons.mp hz with rfl | hz
    · exact Or.inr ⟨by decide, 2, by decide, by decide, clx_23⟩
    exact absurd hz List.not_mem_nil), rfl, by decide, clx_50, cst_5, rfl⟩
theorem ok_L_setRain : zMokH mth_L_setRain 4 := ⟨by decide +kernel, ⟨by decide +kernel, by decide +kernel⟩, by decide +kernel, by decide, ⟨tw_4 _ (List.mem_of_getElem? (i := 201) (by decide +kernel)), by decide +kernel⟩, ⟨tw_1 _ (List.mem_of_getElem? (i := 0) (by decide +kernel)), by decide +kernel⟩⟩
theorem han_L_setRain_0 : zHan mth_L_setRain 5 0 13 := ⟨by decide, [], ⟨0, 10, 13, 13⟩, [], rfl, fun z hz => absurd hz (List.not_mem_nil), rfl, by decide, clx_13, cst_0, rfl⟩
theorem ok_L_setCold : zMokH mth_L_setCold 3 := ⟨by decide +kernel, ⟨by decide +kernel, by decide +kernel⟩, by decide +kernel, by decide, ⟨tw_4 _ (List.mem_of_getElem? (i := 212) (by decide +kernel)), by decide +kernel⟩, ⟨tw_1 _ (List.mem_of_getElem? (i := 0) (by decide +kernel)), by decide +kernel⟩⟩
theorem han_L_setCold_0 : zHan mth_L_setCold 4 0 12 := ⟨by decide, [], ⟨0, 9, 12, 13⟩, [], rfl, fun z hz => absurd hz (List.not_mem_nil), rfl, by decide, clx_13, cst_0, rfl⟩
theorem ok_L_setLaw : zMokH mth_L_setLaw 4 := ⟨by decide +kernel, ⟨by decide +kernel, by decide +kernel⟩, by decide +kernel, by decide, ⟨tw_4 _ (List.mem_of_getElem? (i := 219) (by decide +kernel)), by decide +kernel⟩, ⟨tw_1 _ (List.mem_of_getElem? (i := 0) (by decide +kernel)), by decide +kernel⟩⟩
theorem han_L_setLaw_0 : zHan mth_L_setLaw 5 0 13 := ⟨by decide, [], ⟨0, 10, 13, 13⟩, [], rfl, fun z hz => absurd hz (List.not_mem_nil), rfl, by decide, clx_13, cst_0, rfl⟩
theorem ok_L_addVisit : zMokH mth_L_addVisit 4 := ⟨by decide +kernel, ⟨by decide +kernel, by decide +kernel⟩, by decide +kernel, by decide, ⟨tw_4 _ (List.mem_of_getElem? (i := 226) (by decide +kernel)), by decide +kernel⟩, ⟨tw_1 _ (List.mem_of_getElem? (i := 0) (by decide +kernel)), by decide +kernel⟩⟩
theorem han_L_addVisit_2 : zHan mth_L_addVisit 5 2 13 := ⟨by decide, [], ⟨0, 10, 13, 23⟩, [⟨0, 10, 17, 13⟩, ⟨0, 10, 21, 17⟩], rfl, fun z hz => absurd hz (List.not_mem_nil), rfl, by decide, clx_23, cst_2, rfl⟩
theorem han_L_addVisit_0 : zHan mth_L_addVisit 5 0 17 := ⟨by decide, [⟨0, 10, 13, 23⟩], ⟨0, 10, 17, 13⟩, [⟨0, 10, 21, 17⟩], rfl, (fun z hz => by
    rcases List.mem_cons.mp hz with rfl | hz
    · exact Or.inr ⟨by decide, 2, by decide, by decide, clx_23⟩
    exact absurd hz List.not_mem_nil), rfl, by decide, clx_13, cst_0, rfl⟩
theorem han_L_addVisit_1 : zHan mth_L_addVisit 5 1 21 := ⟨by decide, [⟨0, 10, 13, 23⟩, ⟨0, 10, 17, 13⟩], ⟨0, 10, 21, 17⟩, [], rfl, (fun z hz => by
    rcases List.mem_cons.mp hz with rfl | hz
    · exact Or.inr ⟨by decide, 2, by decide, by decide, clx_23⟩
    rcases List.mem_cons.mp hz with rfl | hz
    · exact Or.inr ⟨by decide, 0, by decide, by decide, clx_13⟩
    exact absurd hz List.not_mem_nil), rfl, by decide, clx_17, cst_1, rfl⟩
theorem ok_L_join : zMokH mth_L_join 4 := ⟨by decide +kernel, ⟨by decide +kernel, by decide +kernel⟩, by decide +kernel, by decide, ⟨tw_5 _ (List.mem_of_getElem? (i := 18) (by decide +kernel)), by decide +kernel⟩, ⟨tw_1 _ (List.mem_of_getElem? (i := 0) (by decide +kernel)), by decide +kernel⟩⟩
theorem han_L_join_2 : zHan mth_L_join 5 2 13 := ⟨by decide, [], ⟨0, 10, 13, 23⟩, [⟨0, 10, 17, 13⟩], rfl, fun z hz => absurd hz (List.not_mem_nil), rfl, by decide, clx_23, cst_2, rfl⟩
theorem han_L_join_0 : zHan mth_L_join 5 0 17 := ⟨by decide, [⟨0, 10, 13, 23⟩], ⟨0, 10, 17, 13⟩, [], rfl, (fun z hz => by
    rcases List.mem_cons.mp hz with rfl | hz
    · exact Or.inr ⟨by decide, 2, by decide, by decide, clx_23⟩
    exact absurd hz List.not_mem_nil), rfl, by decide, clx_13, cst_0, rfl⟩
theorem ok_L_play : zMokH mth_L_play 2 := ⟨by decide +kernel, ⟨by decide +kernel, by decide +kernel⟩, by decide +kernel, by decide, ⟨tw_5 _ (List.mem_of_getElem? (i := 35) (by decide +kernel)), by decide +kernel⟩, ⟨tw_1 _ (List.mem_of_getElem? (i := 0) (by decide +kernel)), by decide +kernel⟩⟩
theorem han_L_play_1 : zHan mth_L_play 3 1 11 := ⟨by decide, [], ⟨0, 8, 11, 17⟩, [], rfl, fun z hz => absurd hz (List.not_mem_nil), rfl, by decide, clx_17, cst_1, rfl⟩
theorem ok_L_of : zMokH mth_L_of 5 := ⟨by decide +kernel, ⟨by decide +kernel, by decide +kernel⟩, by decide +kernel, by decide, ⟨tw_5 _ (List.mem_of_getElem? (i := 162) (by decide +kernel)), by decide +kernel⟩, ⟨tw_1 _ (List.mem_of_getElem? (i := 0) (by decide +kernel)), by decide +kernel⟩⟩
theorem han_L_of_2 : zHan mth_L_of 7 2 15 := ⟨by decide, [], ⟨0, 12, 15, 23⟩, [⟨0, 12, 19, 13⟩, ⟨0, 12, 23, 17⟩, ⟨0, 12, 27, 50⟩], rfl, fun z hz => absurd hz (List.not_mem_nil), rfl, by decide, clx_23, cst_2, rfl⟩
theorem han_L_of_0 : zHan mth_L_of 7 0 19 := ⟨by decide, [⟨0, 12, 15, 23⟩], ⟨0, 12, 19, 13⟩, [⟨0, 12, 23, 17⟩, ⟨0, 12, 27, 50⟩], rfl, (fun z hz => by
    rcases List.mem_cons.mp hz with rfl | hz
    · exact Or.inr ⟨by decide, 2, by decide, by decide, clx_23⟩
    exact absurd hz List.not_mem_nil), rfl, by decide, clx_13, cst_0, rfl⟩
theorem han_L_of_1 : zHan mth_L_of 7 1 23 := ⟨by decide, [⟨0, 12, 15, 23⟩, ⟨0, 12, 19, 13⟩], ⟨0, 12, 23, 17⟩, [⟨0, 12, 27, 50⟩], rfl, (fun z hz => by
    rcases List.mem_cons.mp hz with rfl | hz
    · exact Or.inr ⟨by decide, 2, by decide, by decide, clx_23⟩
    rcases List.mem_cons.mp hz with rfl | hz
    · exact Or.inr ⟨by decide, 0, by decide, by decide, clx_13⟩
    exact absurd hz List.not_mem_nil), rfl, by decide, clx_17, cst_1, rfl⟩
theorem han_L_of_5 : zHan mth_L_of 7 5 27 := ⟨by decide, [⟨0, 12, 15, 23⟩, ⟨0, 12, 19, 13⟩, ⟨0, 12, 23, 17⟩], ⟨0, 12, 27, 50⟩, [], rfl, (fun z hz => by
    rcases List.mem_cons.mp hz with rfl | hz
    · exact Or.inr ⟨by decide, 2, by decide, by decide, clx_23⟩
    rcases List.mem_cons.mp hz with rfl | hz
    · exact Or.inr ⟨by decide, 0, by decide, by decide, clx_13⟩
    rcases List.mem_cons.mp hz with rfl | hz
    · exact Or.inr ⟨by decide, 1, by decide, by decide, clx_17⟩
    exact absurd hz List.not_mem_nil), rfl, by decide, clx_50, cst_5, rfl⟩
theorem ok_L_isBroken : zMokH mth_L_isBroken 4 := ⟨by decide +kernel, ⟨by decide +kernel, by decide +kernel⟩, by decide +kernel, by decide, ⟨tw_5 _ (List.mem_of_getElem? (i := 187) (by decide +kernel)), by decide +kernel⟩, ⟨tw_1 _ (List.mem_of_getElem? (i := 0) (by decide +kernel)), by decide +kernel⟩⟩
theorem han_L_isBroken_2 : zHan mth_L_isBroken 5 2 20 := ⟨by decide, [], ⟨0, 17, 20, 23⟩, [⟨0, 17, 24, 17⟩, ⟨0, 17, 28, 50⟩], rfl, fun z hz => absurd hz (List.not_mem_nil), rfl, by decide, clx_23, cst_2, rfl⟩
theorem han_L_isBroken_1 : zHan mth_L_isBroken 5 1 24 := ⟨by decide, [⟨0, 17, 20, 23⟩], ⟨0, 17, 24, 17⟩, [⟨0, 17, 28, 50⟩], rfl, (fun z hz => by
    rcases List.mem_cons.mp hz with rfl | hz
    · exact Or.inr ⟨by decide, 2, by decide, by decide, clx_23⟩
    exact absurd hz List.not_mem_nil), rfl, by decide, clx_17, cst_1, rfl⟩
theorem han_L_isBroken_5 : zHan mth_L_isBroken 5 5 28 := ⟨by decide, [⟨0, 17, 20, 23⟩, ⟨0, 17, 24, 17⟩], ⟨0, 17, 28, 50⟩, [], rfl, (fun z hz => by
    rcases List.mem_cons.mp hz with rfl | hz
    · exact Or.inr ⟨by decide, 2, by decide, by decide, clx_23⟩
    rcases List.mem_cons.mp hz with rfl | hz
    · exact Or.inr ⟨by decide, 1, by decide, by decide, clx_17⟩
    exact absurd hz List.not_mem_nil), rfl, by decide, clx_50, cst_5, rfl⟩
theorem ok_L_fineAt : zMokH mth_L_fineAt 3 := ⟨by decide +kernel, ⟨by decide +kernel, by decide +kernel⟩, by decide +kernel, by decide, ⟨tw_5 _ (List.mem_of_getElem? (i := 194) (by decide +kernel)), by decide +kernel⟩, ⟨tw_1 _ (List.mem_of_getElem? (i := 0) (by decide +kernel)), by decide +kernel⟩⟩
theorem han_L_fineAt_1 : zHan mth_L_fineAt 4 1 12 := ⟨by decide, [], ⟨0, 9, 12, 17⟩, [⟨0, 9, 15, 50⟩], rfl, fun z hz => absurd hz (List.not_mem_nil), rfl, by decide, clx_17, cst_1, rfl⟩
theorem han_L_fineAt_5 : zHan mth_L_fineAt 4 5 15 := ⟨by decide, [⟨0, 9, 12, 17⟩], ⟨0, 9, 15, 50⟩, [], rfl, (fun z hz => by
    rcases List.mem_cons.mp hz with rfl | hz
    · exact Or.inr ⟨by decide, 1, by decide, by decide, clx_17⟩
    exact absurd hz List.not_mem_nil), rfl, by decide, clx_50, cst_5, rfl⟩
theorem ok_L_sumAt : zMokH mth_L_sumAt 3 := ⟨by decide +kernel, ⟨by decide +kernel, by decide +kernel⟩, by decide +kernel, by decide, ⟨tw_5 _ (List.mem_of_getElem? (i := 206) (by decide +kernel)), by decide +kernel⟩, ⟨tw_1 _ (List.mem_of_getElem? (i := 0) (by decide +kernel)), by decide +kernel⟩⟩
theorem han_L_sumAt_1 : zHan mth_L_sumAt 4 1 12 := ⟨by decide, [], ⟨0, 9, 12, 17⟩, [⟨0, 9, 15, 50⟩], rfl, fun z hz => absurd hz (List.not_mem_nil), rfl, by decide, clx_17, cst_1, rfl⟩
theorem han_L_sumAt_5 : zHan mth_L_sumAt 4 5 15 := ⟨by decide, [⟨0, 9, 12, 17⟩], ⟨0, 9, 15, 50⟩, [], rfl, (fun z hz => by
    rcases List.mem_cons.mp hz with rfl | hz
    · exact Or.inr ⟨by decide, 1, by decide, by decide, clx_17⟩
    exact absurd hz List.not_mem_nil), rfl, by decide, clx_50, cst_5, rfl⟩
theorem ok_L_money : zMokH mth_L_money 3 := ⟨by decide +kernel, ⟨by decide +kernel, by decide +kernel⟩, by decide +kernel, by decide, ⟨tw_5 _ (List.mem_of_getElem? (i := 213) (by decide +kernel)), by decide +kernel⟩, ⟨tw_1 _ (List.mem_of_getElem? (i := 0) (by decide +kernel)), by decide +kernel⟩⟩
theorem han_L_money_2 : zHan mth_L_money 4 2 12 := ⟨by decide, [], ⟨0, 9, 12, 23⟩, [], rfl, fun z hz => absurd hz (List.not_mem_nil), rfl, by decide, clx_23, cst_2, rfl⟩
theorem ok_L_nextDay : zMokH mth_L_nextDay 2 := ⟨by decide +kernel, ⟨by decide +kernel, by decide +kernel⟩, by decide +kernel, by decide, ⟨tw_5 _ (List.mem_of_getElem? (i := 220) (by decide +kernel)), by decide +kernel⟩, ⟨tw_1 _ (List.mem_of_getElem? (i := 0) (by decide +kernel)), by decide +kernel⟩⟩
theorem han_L_nextDay_1 : zHan mth_L_nextDay 3 1 11 := ⟨by decide, [], ⟨0, 8, 11, 17⟩, [], rfl, fun z hz => absurd hz (List.not_mem_nil), rfl, by decide, clx_17, cst_1, rfl⟩
theorem ok_L_diary : zMokH mth_L_diary 3 := ⟨by decide +kernel, ⟨by decide +kernel, by decide +kernel⟩, by decide +kernel, by decide, ⟨tw_6 _ (List.mem_of_getElem? (i := 2) (by decide +kernel)), by decide +kernel⟩, ⟨tw_1 _ (List.mem_of_getElem? (i := 0) (by decide +kernel)), by decide +kernel⟩⟩
theorem han_L_diary_5 : zHan mth_L_diary 4 5 12 := ⟨by decide, [], ⟨0, 9, 12, 50⟩, [], rfl, fun z hz => absurd hz (List.not_mem_nil), rfl, by decide, clx_50, cst_5, rfl⟩
theorem ok_L_goodShare : zMokH mth_L_goodShare 2 := ⟨by decide +kernel, ⟨by decide +kernel, by decide +kernel⟩, by decide +kernel, by decide, ⟨tw_6 _ (List.mem_of_getElem? (i := 10) (by decide +kernel)), by decide +kernel⟩, ⟨tw_1 _ (List.mem_of_getElem? (i := 0) (by decide +kernel)), by decide +kernel⟩⟩
theorem han_L_goodShare_1 : zHan mth_L_goodShare 3 1 11 := ⟨by decide, [], ⟨0, 8, 11, 17⟩, [⟨0, 8, 14, 118⟩], rfl, fun z hz => absurd hz (List.not_mem_nil), rfl, by decide, clx_17, cst_1, rfl⟩
theorem han_L_goodShare_3 : zHan mth_L_goodShare 3 3 14 := ⟨by decide, [⟨0, 8, 11, 17⟩], ⟨0, 8, 14, 118⟩, [], rfl, (fun z hz => by
    rcases List.mem_cons.mp hz with rfl | hz
    · exact Or.inr ⟨by decide, 1, by decide, by decide, clx_17⟩
    exact absurd hz List.not_mem_nil), rfl, by decide, clx_118, cst_3, rfl⟩
theorem ok_L_meanMoney : zMokH mth_L_meanMoney 2 := ⟨by decide +kernel, ⟨by decide +kernel, by decide +kernel⟩, by decide +kernel, by decide, ⟨tw_6 _ (List.mem_of_getElem? (i := 47) (by decide +kernel)), by decide +kernel⟩, ⟨tw_1 _ (List.mem_of_getElem? (i := 0) (by decide +kernel)), by decide +kernel⟩⟩
theorem han_L_meanMoney_3 : zHan mth_L_meanMoney 3 3 10 := ⟨by decide, [], ⟨0, 7, 10, 118⟩, [], rfl, fun z hz => absurd hz (List.not_mem_nil), rfl, by decide, clx_118, cst_3, rfl⟩
section ZLAW2
variable {Z : zPar} {l : Launch} {d : Nat} {x o mc ms : Nat} {M : zMem} {Q Post : zO → zMem → Prop}
theorem w_L_addPitch {p q r : Int32} (hx : mK M x = 26) (h : zX Z l d mth_X11_addPitch 0 (lv_args 0 [.ref x, .int p, .int q, .int r]) [] M mc ms Post)
    (k0 : ∀ v M', Post (.inl v) M' → ∃ z, v = some (.int z) ∧ mK M' o = 5 ∧ mN M' o = 1 ∧ Q (.inl (some (.int 0))) (sAL M' o 0 z.toInt64)) (kx : ∀ k M', Post (.inr k) M' → (k = 0 ∧ Q (.inl (some (.int 1))) M') ∨ (k = 4 ∧ Q (.inl (some (.int 2))) M') ∨ (k = 1 ∧ Q (.inl (some (.int 3))) M')) : zX Z l (d + 1) mth_L_addPitch 0 (lv_args 0 [.ref x, .int p, .int q, .int r, .ref o]) [] M mc ms Q := by
  show zX Z l (d + 1) mth_L_addPitch 0 [(0, .ref x), (1, .int p), (2, .int q), (3, .int r), (4, .ref o)] [] M mc ms Q
  refine zs_aload (n := 2) dL_addPitch_0 rfl rfl ?_
  refine zs_iconst (v := 0) (n := 3) dL_addPitch_2 (by decide) rfl ?_
  refine zs_aload_n (n := 4) dL_addPitch_3 rfl rfl ?_
  refine zs_iload_n (n := 5) dL_addPitch_4 rfl rfl ?_
  refine zs_iload_n (n := 6) dL_addPitch_5 rfl rfl ?_
  refine zs_iload_n (n := 7) dL_addPitch_6 rfl rfl ?_
  refine zs_invV (As := [.int p, .int q, .int r]) (ci := 16) (mc := mc) (ms := ms) (nc1 := 0) (ns1 := 0) (n := 10) dL_addPitch_7 ok_X11_addPitch ⟨ml_L_7, im_X11_addPitch, sl_X11_addPitch⟩ rfl hx rfl (Nat.le_of_ble_eq_true rfl) (by simp) rfl (by omega) (by omega) rfl rfl h ?_ ?_
  · intro k M' hk
    rcases kx k M' hk with ⟨rfl, hq⟩ | ⟨rfl, hq⟩ | ⟨rfl, hq⟩
    · refine Or.inr ⟨15, han_L_addPitch_0, fun q => ?_⟩
      refine zs_astore (n := 17) dL_addPitch_15 (by decide) rfl ?_
      refine zs_iconst (v := 1) (n := 18) dL_addPitch_17 (by decide) rfl ?_
      refine zs_ireturn dL_addPitch_18 ⟨_, rfl, rfl⟩ ?_
      exact hq
    · refine Or.inr ⟨19, han_L_addPitch_4, fun q => ?_⟩
      refine zs_astore (n := 21) dL_addPitch_19 (by decide) rfl ?_
      refine zs_iconst (v := 2) (n := 22) dL_addPitch_21 (by decide) rfl ?_
      refine zs_ireturn dL_addPitch_22 ⟨_, rfl, rfl⟩ ?_
      exact hq
    · refine Or.inr ⟨23, han_L_addPitch_1, fun q => ?_⟩
      refine zs_astore (n := 25) dL_addPitch_23 (by decide) rfl ?_
      refine zs_iconst (v := 3) (n := 26) dL_addPitch_25 (by decide) rfl ?_
      refine zs_ireturn dL_addPitch_26 ⟨_, rfl, rfl⟩ ?_
      exact hq
  · intro v M' hv
    obtain ⟨z, rfl, h5, h6, hq⟩ := k0 v M' hv
    refine zs_i2l (n := 11) dL_addPitch_10 rfl ?_
    refine zs_last (n := 12) dL_addPitch_11 h5 (by rw [h6]; exact vp_in_nI (by decide) (by decide)) rfl ?_
    refine zs_goto (tgt := 27) dL_addPitch_12 (by decide) ?_
    refine zs_iconst (v := 0) (n := 28) dL_addPitch_27 (by decide) rfl ?_
    refine zs_ireturn dL_addPitch_28 ⟨_, rfl, rfl⟩ ?_
    exact hq
theorem w_L_setPassers {p q r : Int32} (hx : mK M x = 26) (h : zX Z l d mth_X11_setPassers 0 (lv_args 0 [.ref x, .int p, .int q, .int r]) [] M mc ms Post)
    (k0 : ∀ v M', Post (.inl v) M' → ∃ z, v = some (.int z) ∧ mK M' o = 5 ∧ mN M' o = 1 ∧ Q (.inl (some (.int 0))) (sAL M' o 0 z.toInt64)) (kx : ∀ k M', Post (.inr k) M' → (k = 2 ∧ Q (.inl (some (.int 1))) M') ∨ (k = 0 ∧ Q (.inl (some (.int 2))) M')) : zX Z l (d + 1) mth_L_setPassers 0 (lv_args 0 [.ref x, .int p, .int q, .int r, .ref o]) [] M mc ms Q := by
  show zX Z l (d + 1) mth_L_setPassers 0 [(0, .ref x), (1, .int p), (2, .int q), (3, .int r), (4, .ref o)] [] M mc ms Q
  refine zs_aload (n := 2) dL_setPassers_0 rfl rfl ?_
  refine zs_iconst (v := 0) (n := 3) dL_setPassers_2 (by decide) rfl ?_
  refine zs_aload_n (n := 4) dL_setPassers_3 rfl rfl ?_
  refine zs_iload_n (n := 5) dL_setPassers_4 rfl rfl ?_
  refine zs_iload_n (n := 6) dL_setPassers_5 rfl rfl ?_
  refine zs_iload_n (n := 7) dL_setPassers_6 rfl rfl ?_
  refine zs_invV (As := [.int p, .int q, .int r]) (ci := 16) (mc := mc) (ms := ms) (nc1 := 0) (ns1 := 0) (n := 10) dL_setPassers_7 ok_X11_setPassers ⟨ml_L_19, im_X11_setPassers, sl_X11_setPassers⟩ rfl hx rfl (Nat.le_of_ble_eq_true rfl) (by simp) rfl (by omega) (by omega) rfl rfl h ?_ ?_
  · intro k M' hk
    rcases kx k M' hk with ⟨rfl, hq⟩ | ⟨rfl, hq⟩
    · refine Or.inr ⟨15, han_L_setPassers_2, fun q => ?_⟩
      refine zs_astore (n := 17) dL_setPassers_15 (by decide) rfl ?_
      refine zs_iconst (v := 1) (n := 18) dL_setPassers_17 (by decide) rfl ?_
      refine zs_ireturn dL_setPassers_18 ⟨_, rfl, rfl⟩ ?_
      exact hq
    · refine Or.inr ⟨19, han_L_setPassers_0, fun q => ?_⟩
      refine zs_astore (n := 21) dL_setPassers_19 (by decide) rfl ?_
      refine zs_iconst (v := 2) (n := 22) dL_setPassers_21 (by decide) rfl ?_
      refine zs_ireturn dL_setPassers_22 ⟨_, rfl, rfl⟩ ?_
      exact hq
  · intro v M' hv
    obtain ⟨z, rfl, h5, h6, hq⟩ := k0 v M' hv
    refine zs_i2l (n := 11) dL_setPassers_10 rfl ?_
    refine zs_last (n := 12) dL_setPassers_11 h5 (by rw [h6]; exact vp_in_nI (by decide) (by decide)) rfl ?_
    refine zs_goto (tgt := 23) dL_setPassers_12 (by decide) ?_
    refine zs_iconst (v := 0) (n := 24) dL_setPassers_23 (by decide) rfl ?_
    refine zs_ireturn dL_setPassers_24 ⟨_, rfl, rfl⟩ ?_
    exact hq
theorem w_L_passersAt {p q : Int32} (hx : mK M x = 26) (h : zX Z l d mth_X11_passersAt 0 (lv_args 0 [.ref x, .int p, .int q]) [] M mc ms Post)
    (k0 : ∀ v M', Post (.inl v) M' → ∃ z, v = some (.int z) ∧ mK M' o = 5 ∧ mN M' o = 1 ∧ Q (.inl (some (.int 0))) (sAL M' o 0 z.toInt64)) (kx : ∀ k M', Post (.inr k) M' → (k = 2 ∧ Q (.inl (some (.int 1))) M') ∨ (k = 0 ∧ Q (.inl (some (.int 2))) M')) : zX Z l (d + 1) mth_L_passersAt 0 (lv_args 0 [.ref x, .int p, .int q, .ref o]) [] M mc ms Q := by
  show zX Z l (d + 1) mth_L_passersAt 0 [(0, .ref x), (1, .int p), (2, .int q), (3, .ref o)] [] M mc ms Q
  refine zs_aload_n (n := 1) dL_passersAt_0 rfl rfl ?_
  refine zs_iconst (v := 0) (n := 2) dL_passersAt_1 (by decide) rfl ?_
  refine zs_aload_n (n := 3) dL_passersAt_2 rfl rfl ?_
  refine zs_iload_n (n := 4) dL_passersAt_3 rfl rfl ?_
  refine zs_iload_n (n := 5) dL_passersAt_4 rfl rfl ?_
  refine zs_invV (As := [.int p, .int q]) (ci := 16) (mc := mc) (ms := ms) (nc1 := 0) (ns1 := 0) (n := 8) dL_passersAt_5 ok_X11_passersAt ⟨ml_L_25, im_X11_passersAt, sl_X11_passersAt⟩ rfl hx rfl (Nat.le_of_ble_eq_true rfl) (by simp) rfl (by omega) (by omega) rfl rfl h ?_ ?_
  · intro k M' hk
    rcases kx k M' hk with ⟨rfl, hq⟩ | ⟨rfl, hq⟩
    · refine Or.inr ⟨13, han_L_passersAt_2, fun q => ?_⟩
      refine zs_astore (n := 15) dL_passersAt_13 (by decide) rfl ?_
      refine zs_iconst (v := 1) (n := 16) dL_passersAt_15 (by decide) rfl ?_
      refine zs_ireturn dL_passersAt_16 ⟨_, rfl, rfl⟩ ?_
      exact hq
    · refine Or.inr ⟨17, han_L_passersAt_0, fun q => ?_⟩
      refine zs_astore (n := 19) dL_passersAt_17 (by decide) rfl ?_
      refine zs_iconst (v := 2) (n := 20) dL_passersAt_19 (by decide) rfl ?_
      refine zs_ireturn dL_passersAt_20 ⟨_, rfl, rfl⟩ ?_
      exact hq
  · intro v M' hv
    obtain ⟨z, rfl, h5, h6, hq⟩ := k0 v M' hv
    refine zs_i2l (n := 9) dL_passersAt_8 rfl ?_
    refine zs_last (n := 10) dL_passersAt_9 h5 (by rw [h6]; exact vp_in_nI (by decide) (by decide)) rfl ?_
    refine zs_goto (tgt := 21) dL_passersAt_10 (by decide) ?_
    refine zs_iconst (v := 0) (n := 22) dL_passersAt_21 (by decide) rfl ?_
    refine zs_ireturn dL_passersAt_22 ⟨_, rfl, rfl⟩ ?_
    exact hq
theorem w_L_addAct {p q r s5 s6 : Int32} (hx : mK M x = 26) (h : zX Z l d mth_X11_addAct 0 (lv_args 0 [.ref x, .int p, .int q, .int r, .int s5, .int s6]) [] M mc ms Post)
    (k0 : ∀ v M', Post (.inl v) M' → ∃ z, v = some (.int z) ∧ mK M' o = 5 ∧ mN M' o = 1 ∧ Q (.inl (some (.int 0))) (sAL M' o 0 z.toInt64)) (kx : ∀ k M', Post (.inr k) M' → (k = 0 ∧ Q (.inl (some (.int 1))) M') ∨ (k = 1 ∧ Q (.inl (some (.int 2))) M')) : zX Z l (d + 1) mth_L_addAct 0 (lv_args 0 [.ref x, .int p, .int q, .int r, .int s5, .int s6, .ref o]) [] M mc ms Q := by
  show zX Z l (d + 1) mth_L_addAct 0 [(0, .ref x), (1, .int p), (2, .int q), (3, .int r), (4, .int s5), (5, .int s6), (6, .ref o)] [] M mc ms Q
  refine zs_aload (n := 2) dL_addAct_0 rfl rfl ?_
  refine zs_iconst (v := 0) (n := 3) dL_addAct_2 (by decide) rfl ?_
  refine zs_aload_n (n := 4) dL_addAct_3 rfl rfl ?_
  refine zs_iload_n (n := 5) dL_addAct_4 rfl rfl ?_
  refine zs_iload_n (n := 6) dL_addAct_5 rfl rfl ?_
  refine zs_iload_n (n := 7) dL_addAct_6 rfl rfl ?_
  refine zs_iload (n := 9) dL_addAct_7 rfl rfl ?_
  refine zs_iload (n := 11) dL_addAct_9 rfl rfl ?_
  refine zs_invV (As := [.int p, .int q, .int r, .int s5, .int s6]) (ci := 16) (mc := mc) (ms := ms) (nc1 := 0) (ns1 := 0) (n := 14) dL_addAct_11 ok_X11_addAct ⟨ml_L_29, im_X11_addAct, sl_X11_addAct⟩ rfl hx rfl (Nat.le_of_ble_eq_true rfl) (by simp) rfl (by omega) (by omega) rfl rfl h ?_ ?_
  · intro k M' hk
    rcases kx k M' hk with ⟨rfl, hq⟩ | ⟨rfl, hq⟩
    · refine Or.inr ⟨19, han_L_addAct_0, fun q => ?_⟩
      refine zs_astore (n := 21) dL_addAct_19 (by decide) rfl ?_
      refine zs_iconst (v := 1) (n := 22) dL_addAct_21 (by decide) rfl ?_
      refine zs_ireturn dL_addAct_22 ⟨_, rfl, rfl⟩ ?_
      exact hq
    · refine Or.inr ⟨23, han_L_addAct_1, fun q => ?_⟩
      refine zs_astore (n := 25) dL_addAct_23 (by decide) rfl ?_
      refine zs_iconst (v := 2) (n := 26) dL_addAct_25 (by decide) rfl ?_
      refine zs_ireturn dL_addAct_26 ⟨_, rfl, rfl⟩ ?_
      exact hq
  · intro v M' hv
    obtain ⟨z, rfl, h5, h6, hq⟩ := k0 v M' hv
    refine zs_i2l (n := 15) dL_addAct_14 rfl ?_
    refine zs_last (n := 16) dL_addAct_15 h5 (by rw [h6]; exact vp_in_nI (by decide) (by decide)) rfl ?_
    refine zs_goto (tgt := 27) dL_addAct_16 (by decide) ?_
    refine zs_iconst (v := 0) (n := 28) dL_addAct_27 (by decide) rfl ?_
    refine zs_ireturn dL_addAct_28 ⟨_, rfl, rfl⟩ ?_
    exact hq
theorem w_L_setLine {p q : Int32} (hx : mK M x = 26) (h : zX Z l d mth_X11_setLine 0 (lv_args 0 [.ref x, .int p, .int q]) [] M mc ms Post)
    (k0 : ∀ v M', Post (.inl v) M' → ∃ z, v = some (.int z) ∧ mK M' o = 5 ∧ mN M' o = 1 ∧ Q (.inl (some (.int 0))) (sAL M' o 0 z.toInt64)) (kx : ∀ k M', Post (.inr k) M' → (k = 2 ∧ Q (.inl (some (.int 1))) M') ∨ (k = 0 ∧ Q (.inl (some (.int 2))) M')) : zX Z l (d + 1) mth_L_setLine 0 (lv_args 0 [.ref x, .int p, .int q, .ref o]) [] M mc ms Q := by
  show zX Z l (d + 1) mth_L_setLine 0 [(0, .ref x), (1, .int p), (2, .int q), (3, .ref o)] [] M mc ms Q
  refine zs_aload_n (n := 1) dL_setLine_0 rfl rfl ?_
  refine zs_iconst (v := 0) (n := 2) dL_setLine_1 (by decide) rfl ?_
  refine zs_aload_n (n := 3) dL_setLine_2 rfl rfl ?_
  refine zs_iload_n (n := 4) dL_setLine_3 rfl rfl ?_
  refine zs_iload_n (n := 5) dL_setLine_4 rfl rfl ?_
  refine zs_invV (As := [.int p, .int q]) (ci := 16) (mc := mc) (ms := ms) (nc1 := 0) (ns1 := 0) (n := 8) dL_setLine_5 ok_X11_setLine ⟨ml_L_33, im_X11_setLine, sl_X11_setLine⟩ rfl hx rfl (Nat.le_of_ble_eq_true rfl) (by simp) rfl (by omega) (by omega) rfl rfl h ?_ ?_
  · intro k M' hk
    rcases kx k M' hk with ⟨rfl, hq⟩ | ⟨rfl, hq⟩
    · refine Or.inr ⟨13, han_L_setLine_2, fun q => ?_⟩
      refine zs_astore (n := 15) dL_setLine_13 (by decide) rfl ?_
      refine zs_iconst (v := 1) (n := 16) dL_setLine_15 (by decide) rfl ?_
      refine zs_ireturn dL_setLine_16 ⟨_, rfl, rfl⟩ ?_
      exact hq
    · refine Or.inr ⟨17, han_L_setLine_0, fun q => ?_⟩
      refine zs_astore (n := 19) dL_setLine_17 (by decide) rfl ?_
      refine zs_iconst (v := 2) (n := 20) dL_setLine_19 (by decide) rfl ?_
      refine zs_ireturn dL_setLine_20 ⟨_, rfl, rfl⟩ ?_
      exact hq
  · intro v M' hv
    obtain ⟨z, rfl, h5, h6, hq⟩ := k0 v M' hv
    refine zs_i2l (n := 9) dL_setLine_8 rfl ?_
    refine zs_last (n := 10) dL_setLine_9 h5 (by rw [h6]; exact vp_in_nI (by decide) (by decide)) rfl ?_
    refine zs_goto (tgt := 21) dL_setLine_10 (by decide) ?_
    refine zs_iconst (v := 0) (n := 22) dL_setLine_21 (by decide) rfl ?_
    refine zs_ireturn dL_setLine_22 ⟨_, rfl, rfl⟩ ?_
    exact hq
theorem w_L_setPermit {p q : Int32} (hx : mK M x = 26) (h : zX Z l d mth_X11_setPermit 0 (lv_args 0 [.ref x, .int p, .int q]) [] M mc ms Post)
    (k0 : ∀ v M', Post (.inl v) M' → ∃ z, v = some (.int z) ∧ mK M' o = 5 ∧ mN M' o = 1 ∧ Q (.inl (some (.int 0))) (sAL M' o 0 (if z = 0 then 0 else 1))) (kx : ∀ k M', Post (.inr k) M' → (k = 2 ∧ Q (.inl (some (.int 1))) M')) : zX Z l (d + 1) mth_L_setPermit 0 (lv_args 0 [.ref x, .int p, .int q, .ref o]) [] M mc ms Q := by
  show zX Z l (d + 1) mth_L_setPermit 0 [(0, .ref x), (1, .int p), (2, .int q), (3, .ref o)] [] M mc ms Q
  refine zs_aload_n (n := 1) dL_setPermit_0 rfl rfl ?_
  refine zs_iconst (v := 0) (n := 2) dL_setPermit_1 (by decide) rfl ?_
  refine zs_aload_n (n := 3) dL_setPermit_2 rfl rfl ?_
  refine zs_iload_n (n := 4) dL_setPermit_3 rfl rfl ?_
  refine zs_iload_n (n := 5) dL_setPermit_4 rfl rfl ?_
  refine zs_invV (As := [.int p, .int q]) (ci := 16) (mc := mc) (ms := ms) (nc1 := 0) (ns1 := 0) (n := 8) dL_setPermit_5 ok_X11_setPermit ⟨ml_L_36, im_X11_setPermit, sl_X11_setPermit⟩ rfl hx rfl (Nat.le_of_ble_eq_true rfl) (by simp) rfl (by omega) (by omega) rfl rfl h ?_ ?_
  · intro k M' hk
    obtain ⟨rfl, hq⟩ := kx k M' hk
    refine Or.inr ⟨20, han_L_setPermit_2, fun q => ?_⟩
    refine zs_astore (n := 22) dL_setPermit_20 (by decide) rfl ?_
    refine zs_iconst (v := 1) (n := 23) dL_setPermit_22 (by decide) rfl ?_
    refine zs_ireturn dL_setPermit_23 ⟨_, rfl, rfl⟩ ?_
    exact hq
  · intro v M' hv
    obtain ⟨z, rfl, h5, h6, hq⟩ := k0 v M' hv
    refine zs_if_eq (tgt := 15) (n := 11) dL_setPermit_8 (by decide) rfl (fun hz => ?_) (fun hz => ?_)
    · refine zs_lconst (v := 0) (n := 16) dL_setPermit_15 (by decide) rfl ?_
      refine zs_last (n := 17) dL_setPermit_16 h5 (by rw [h6]; exact vp_in_nI (by decide) (by decide)) rfl ?_
      refine zs_goto (tgt := 24) dL_setPermit_17 (by decide) ?_
      refine zs_iconst (v := 0) (n := 25) dL_setPermit_24 (by decide) rfl ?_
      refine zs_ireturn dL_setPermit_25 ⟨_, rfl, rfl⟩ ?_
      rw [if_pos hz] at hq
      exact hq
    · refine zs_lconst (v := 1) (n := 12) dL_setPermit_11 (by decide) rfl ?_
      refine zs_goto (tgt := 16) dL_setPermit_12 (by decide) ?_
      refine zs_last (n := 17) dL_setPermit_16 h5 (by rw [h6]; exact vp_in_nI (by decide) (by decide)) rfl ?_
      refine zs_goto (tgt := 24) dL_setPermit_17 (by decide) ?_
      refine zs_iconst (v := 0) (n := 25) dL_setPermit_24 (by decide) rfl ?_
      refine zs_ireturn dL_setPermit_25 ⟨_, rfl, rfl⟩ ?_
      rw [if_neg hz] at hq
      exact hq
theorem w_L_addCustom {p q : Int32} (hx : mK M x = 26) (h : zX Z l d mth_X11_addCustom 0 (lv_args 0 [.ref x, .int p, .int q]) [] M mc ms Post)
    (k0 : ∀ v M', Post (.inl v) M' → ∃ z, v = some (.int z) ∧ mK M' o = 5 ∧ mN M' o = 1 ∧ Q (.inl (some (.int 0))) (sAL M' o 0 (if z = 0 then 0 else 1))) (kx : ∀ k M', Post (.inr k) M' → (k = 2 ∧ Q (.inl (some (.int 1))) M') ∨ (k = 0 ∧ Q (.inl (some (.int 2))) M') ∨ (k = 4 ∧ Q (.inl (some (.int 3))) M')) : zX Z l (d + 1) mth_L_addCustom 0 (lv_args 0 [.ref x, .int p, .int q, .ref o]) [] M mc ms Q := by
  show zX Z l (d + 1) mth_L_addCustom 0 [(0, .ref x), (1, .int p), (2, .int q), (3, .ref o)] [] M mc ms Q
  refine zs_aload_n (n := 1) dL_addCustom_0 rfl rfl ?_
  refine zs_iconst (v := 0) (n := 2) dL_addCustom_1 (by decide) rfl ?_
  refine zs_aload_n (n := 3) dL_addCustom_2 rfl rfl ?_
  refine zs_iload_n (n := 4) dL_addCustom_3 rfl rfl ?_
  refine zs_iload_n (n := 5) dL_addCustom_4 rfl rfl ?_
  refine zs_invV (As := [.int p, .int q]) (ci := 16) (mc := mc) (ms := ms) (nc1 := 0) (ns1 := 0) (n := 8) dL_addCustom_5 ok_X11_addCustom ⟨ml_L_40, im_X11_addCustom, sl_X11_addCustom⟩ rfl hx rfl (Nat.le_of_ble_eq_true rfl) (by simp) rfl (by omega) (by omega) rfl rfl h ?_ ?_
  · intro k M' hk
    rcases kx k M' hk with ⟨rfl, hq⟩ | ⟨rfl, hq⟩ | ⟨rfl, hq⟩
    · refine Or.inr ⟨20, han_L_addCustom_2, fun q => ?_⟩
      refine zs_astore (n := 22) dL_addCustom_20 (by decide) rfl ?_
      refine zs_iconst (v := 1) (n := 23) dL_addCustom_22 (by decide) rfl ?_
      refine zs_ireturn dL_addCustom_23 ⟨_, rfl, rfl⟩ ?_
      exact hq
    · refine Or.inr ⟨24, han_L_addCustom_0, fun q => ?_⟩
      refine zs_astore (n := 26) dL_addCustom_24 (by decide) rfl ?_
      refine zs_iconst (v := 2) (n := 27) dL_addCustom_26 (by decide) rfl ?_
      refine zs_ireturn dL_addCustom_27 ⟨_, rfl, rfl⟩ ?_
      exact hq
    · refine Or.inr ⟨28, han_L_addCustom_4, fun q => ?_⟩
      refine zs_astore (n := 30) dL_addCustom_28 (by decide) rfl ?_
      refine zs_iconst (v := 3) (n := 31) dL_addCustom_30 (by decide) rfl ?_
      refine zs_ireturn dL_addCustom_31 ⟨_, rfl, rfl⟩ ?_
      exact hq
  · intro v M' hv
    obtain ⟨z, rfl, h5, h6, hq⟩ := k0 v M' hv
    refine zs_if_eq (tgt := 15) (n := 11) dL_addCustom_8 (by decide) rfl (fun hz => ?_) (fun hz => ?_)
    · refine zs_lconst (v := 0) (n := 16) dL_addCustom_15 (by decide) rfl ?_
      refine zs_last (n := 17) dL_addCustom_16 h5 (by rw [h6]; exact vp_in_nI (by decide) (by decide)) rfl ?_
      refine zs_goto (tgt := 32) dL_addCustom_17 (by decide) ?_
      refine zs_iconst (v := 0) (n := 33) dL_addCustom_32 (by decide) rfl ?_
      refine zs_ireturn dL_addCustom_33 ⟨_, rfl, rfl⟩ ?_
      rw [if_pos hz] at hq
      exact hq
    · refine zs_lconst (v := 1) (n := 12) dL_addCustom_11 (by decide) rfl ?_
      refine zs_goto (tgt := 16) dL_addCustom_12 (by decide) ?_
      refine zs_last (n := 17) dL_addCustom_16 h5 (by rw [h6]; exact vp_in_nI (by decide) (by decide)) rfl ?_
      refine zs_goto (tgt := 32) dL_addCustom_17 (by decide) ?_
      refine zs_iconst (v := 0) (n := 33) dL_addCustom_32 (by decide) rfl ?_
      refine zs_ireturn dL_addCustom_33 ⟨_, rfl, rfl⟩ ?_
      rw [if_neg hz] at hq
      exact hq
theorem w_L_endCustom {p q : Int32} (hx : mK M x = 26) (h : zX Z l d mth_X11_endCustom 0 (lv_args 0 [.ref x, .int p, .int q]) [] M mc ms Post)
    (k0 : ∀ v M', Post (.inl v) M' → ∃ z, v = some (.int z) ∧ mK M' o = 5 ∧ mN M' o = 1 ∧ Q (.inl (some (.int 0))) (sAL M' o 0 (if z = 0 then 0 else 1))) (kx : ∀ k M', Post (.inr k) M' → (k = 2 ∧ Q (.inl (some (.int 1))) M')) : zX Z l (d + 1) mth_L_endCustom 0 (lv_args 0 [.ref x, .int p, .int q, .ref o]) [] M mc ms Q := by
  show zX Z l (d + 1) mth_L_endCustom 0 [(0, .ref x), (1, .int p), (2, .int q), (3, .ref o)] [] M mc ms Q
  refine zs_aload_n (n := 1) dL_endCustom_0 rfl rfl ?_
  refine zs_iconst (v := 0) (n := 2) dL_endCustom_1 (by decide) rfl ?_
  refine zs_aload_n (n := 3) dL_endCustom_2 rfl rfl ?_
  refine zs_iload_n (n := 4) dL_endCustom_3 rfl rfl ?_
  refine zs_iload_n (n := 5) dL_endCustom_4 rfl rfl ?_
  refine zs_invV (As := [.int p, .int q]) (ci := 16) (mc := mc) (ms := ms) (nc1 := 0) (ns1 := 0) (n := 8) dL_endCustom_5 ok_X11_endCustom ⟨ml_L_44, im_X11_endCustom, sl_X11_endCustom⟩ rfl hx rfl (Nat.le_of_ble_eq_true rfl) (by simp) rfl (by omega) (by omega) rfl rfl h ?_ ?_
  · intro k M' hk
    obtain ⟨rfl, hq⟩ := kx k M' hk
    refine Or.inr ⟨20, han_L_endCustom_2, fun q => ?_⟩
    refine zs_astore (n := 22) dL_endCustom_20 (by decide) rfl ?_
    refine zs_iconst (v := 1) (n := 23) dL_endCustom_22 (by decide) rfl ?_
    refine zs_ireturn dL_endCustom_23 ⟨_, rfl, rfl⟩ ?_
    exact hq
  · intro v M' hv
    obtain ⟨z, rfl, h5, h6, hq⟩ := k0 v M' hv
    refine zs_if_eq (tgt := 15) (n := 11) dL_endCustom_8 (by decide) rfl (fun hz => ?_) (fun hz => ?_)
    · refine zs_lconst (v := 0) (n := 16) dL_endCustom_15 (by decide) rfl ?_
      refine zs_last (n := 17) dL_endCustom_16 h5 (by rw [h6]; exact vp_in_nI (by decide) (by decide)) rfl ?_
      refine zs_goto (tgt := 24) dL_endCustom_17 (by decide) ?_
      refine zs_iconst (v := 0) (n := 25) dL_endCustom_24 (by decide) rfl ?_
      refine zs_ireturn dL_endCustom_25 ⟨_, rfl, rfl⟩ ?_
      rw [if_pos hz] at hq
      exact hq
    · refine zs_lconst (v := 1) (n := 12) dL_endCustom_11 (by decide) rfl ?_
      refine zs_goto (tgt := 16) dL_endCustom_12 (by decide) ?_
      refine zs_last (n := 17) dL_endCustom_16 h5 (by rw [h6]; exact vp_in_nI (by decide) (by decide)) rfl ?_
      refine zs_goto (tgt := 24) dL_endCustom_17 (by decide) ?_
      refine zs_iconst (v := 0) (n := 25) dL_endCustom_24 (by decide) rfl ?_
      refine zs_ireturn dL_endCustom_25 ⟨_, rfl, rfl⟩ ?_
      rw [if_neg hz] at hq
      exact hq
theorem w_L_orderAt {p q : Int32} (hx : mK M x = 26) (h : zX Z l d mth_X11_orderAt 0 (lv_args 0 [.ref x, .int p, .int q]) [] M mc ms Post)
    (k0 : ∀ v M', Post (.inl v) M' → ∃ z, v = some (.int z) ∧ mK M' o = 5 ∧ mN M' o = 1 ∧ Q (.inl (some (.int 0))) (sAL M' o 0 z.toInt64)) (kx : ∀ k M', Post (.inr k) M' → (k = 5 ∧ Q (.inl (some (.int 1))) M')) : zX Z l (d + 1) mth_L_orderAt 0 (lv_args 0 [.ref x, .int p, .int q, .ref o]) [] M mc ms Q := by
  show zX Z l (d + 1) mth_L_orderAt 0 [(0, .ref x), (1, .int p), (2, .int q), (3, .ref o)] [] M mc ms Q
  refine zs_aload_n (n := 1) dL_orderAt_0 rfl rfl ?_
  refine zs_iconst (v := 0) (n := 2) dL_orderAt_1 (by decide) rfl ?_
  refine zs_aload_n (n := 3) dL_orderAt_2 rfl rfl ?_
  refine zs_iload_n (n := 4) dL_orderAt_3 rfl rfl ?_
  refine zs_iload_n (n := 5) dL_orderAt_4 rfl rfl ?_
  refine zs_invV (As := [.int p, .int q]) (ci := 16) (mc := mc) (ms := ms) (nc1 := 0) (ns1 := 0) (n := 8) dL_orderAt_5 ok_X11_orderAt ⟨ml_L_47, im_X11_orderAt, sl_X11_orderAt⟩ rfl hx rfl (Nat.le_of_ble_eq_true rfl) (by simp) rfl (by omega) (by omega) rfl rfl h ?_ ?_
  · intro k M' hk
    obtain ⟨rfl, hq⟩ := kx k M' hk
    refine Or.inr ⟨13, han_L_orderAt_5, fun q => ?_⟩
    refine zs_astore (n := 15) dL_orderAt_13 (by decide) rfl ?_
    refine zs_iconst (v := 1) (n := 16) dL_orderAt_15 (by decide) rfl ?_
    refine zs_ireturn dL_orderAt_16 ⟨_, rfl, rfl⟩ ?_
    exact hq
  · intro v M' hv
    obtain ⟨z, rfl, h5, h6, hq⟩ := k0 v M' hv
    refine zs_i2l (n := 9) dL_orderAt_8 rfl ?_
    refine zs_last (n := 10) dL_orderAt_9 h5 (by rw [h6]; exact vp_in_nI (by decide) (by decide)) rfl ?_
    refine zs_goto (tgt := 17) dL_orderAt_10 (by decide) ?_
    refine zs_iconst (v := 0) (n := 18) dL_orderAt_17 (by decide) rfl ?_
    refine zs_ireturn dL_orderAt_18 ⟨_, rfl, rfl⟩ ?_
    exact hq
theorem w_L_lotAt {p : Int32} (hx : mK M x = 26) (h : zX Z l d mth_X11_lotAt 0 (lv_args 0 [.ref x, .int p]) [] M mc ms Post)
    (k0 : ∀ v M', Post (.inl v) M' → ∃ z, v = some (.int z) ∧ mK M' o = 5 ∧ mN M' o = 1 ∧ Q (.inl (some (.int 0))) (sAL M' o 0 z.toInt64)) (kx : ∀ k M', Post (.inr k) M' → (k = 5 ∧ Q (.inl (some (.int 1))) M')) : zX Z l (d + 1) mth_L_lotAt 0 (lv_args 0 [.ref x, .int p, .ref o]) [] M mc ms Q := by
  show zX Z l (d + 1) mth_L_lotAt 0 [(0, .ref x), (1, .int p), (2, .ref o)] [] M mc ms Q
  refine zs_aload_n (n := 1) dL_lotAt_0 rfl rfl ?_
  refine zs_iconst (v := 0) (n := 2) dL_lotAt_1 (by decide) rfl ?_
  refine zs_aload_n (n := 3) dL_lotAt_2 rfl rfl ?_
  refine zs_iload_n (n := 4) dL_lotAt_3 rfl rfl ?_
  refine zs_invV (As := [.int p]) (ci := 16) (mc := mc) (ms := ms) (nc1 := 0) (ns1 := 0) (n := 7) dL_lotAt_4 ok_X11_lotAt ⟨ml_L_52, im_X11_lotAt, sl_X11_lotAt⟩ rfl hx rfl (Nat.le_of_ble_eq_true rfl) (by simp) rfl (by omega) (by omega) rfl rfl h ?_ ?_
  · intro k M' hk
    obtain ⟨rfl, hq⟩ := kx k M' hk
    refine Or.inr ⟨12, han_L_lotAt_5, fun q => ?_⟩
    refine zs_astore_n (n := 13) dL_lotAt_12 (by decide) rfl ?_
    refine zs_iconst (v := 1) (n := 14) dL_lotAt_13 (by decide) rfl ?_
    refine zs_ireturn dL_lotAt_14 ⟨_, rfl, rfl⟩ ?_
    exact hq
  · intro v M' hv
    obtain ⟨z, rfl, h5, h6, hq⟩ := k0 v M' hv
    refine zs_i2l (n := 8) dL_lotAt_7 rfl ?_
    refine zs_last (n := 9) dL_lotAt_8 h5 (by rw [h6]; exact vp_in_nI (by decide) (by decide)) rfl ?_
    refine zs_goto (tgt := 15) dL_lotAt_9 (by decide) ?_
    refine zs_iconst (v := 0) (n := 16) dL_lotAt_15 (by decide) rfl ?_
    refine zs_ireturn dL_lotAt_16 ⟨_, rfl, rfl⟩ ?_
    exact hq
theorem w_L_seed {p : Int32} (hx : mK M x = 26) (h : zX Z l d mth_X11_seed 0 (lv_args 0 [.ref x, .int p]) [] M mc ms Post)
    (k0 : ∀ v M', Post (.inl v) M' → ∃ z, v = some (.int z) ∧ mK M' o = 5 ∧ mN M' o = 1 ∧ Q (.inl (some (.int 0))) (sAL M' o 0 z.toInt64)) (kx : ∀ k M', Post (.inr k) M' → (k = 0 ∧ Q (.inl (some (.int 1))) M')) : zX Z l (d + 1) mth_L_seed 0 (lv_args 0 [.ref x, .int p, .ref o]) [] M mc ms Q := by
  show zX Z l (d + 1) mth_L_seed 0 [(0, .ref x), (1, .int p), (2, .ref o)] [] M mc ms Q
  refine zs_aload_n (n := 1) dL_seed_0 rfl rfl ?_
  refine zs_iconst (v := 0) (n := 2) dL_seed_1 (by decide) rfl ?_
  refine zs_aload_n (n := 3) dL_seed_2 rfl rfl ?_
  refine zs_iload_n (n := 4) dL_seed_3 rfl rfl ?_
  refine zs_invV (As := [.int p]) (ci := 16) (mc := mc) (ms := ms) (nc1 := 0) (ns1 := 0) (n := 7) dL_seed_4 ok_X11_seed ⟨ml_L_56, im_X11_seed, sl_X11_seed⟩ rfl hx rfl (Nat.le_of_ble_eq_true rfl) (by simp) rfl (by omega) (by omega) rfl rfl h ?_ ?_
  · intro k M' hk
    obtain ⟨rfl, hq⟩ := kx k M' hk
    refine Or.inr ⟨12, han_L_seed_0, fun q => ?_⟩
    refine zs_astore_n (n := 13) dL_seed_12 (by decide) rfl ?_
    refine zs_iconst (v := 1) (n := 14) dL_seed_13 (by decide) rfl ?_
    refine zs_ireturn dL_seed_14 ⟨_, rfl, rfl⟩ ?_
    exact hq
  · intro v M' hv
    obtain ⟨z, rfl, h5, h6, hq⟩ := k0 v M' hv
    refine zs_i2l (n := 8) dL_seed_7 rfl ?_
    refine zs_last (n := 9) dL_seed_8 h5 (by rw [h6]; exact vp_in_nI (by decide) (by decide)) rfl ?_
    refine zs_goto (tgt := 15) dL_seed_9 (by decide) ?_
    refine zs_iconst (v := 0) (n := 16) dL_seed_15 (by decide) rfl ?_
    refine zs_ireturn dL_seed_16 ⟨_, rfl, rfl⟩ ?_
    exact hq
theorem w_L_addTurn {p q : Int32} (hx : mK M x = 26) (h : zX Z l d mth_X11_addTurn 0 (lv_args 0 [.ref x, .int p, .int q]) [] M mc ms Post)
    (k0 : ∀ v M', Post (.inl v) M' → ∃ z, v = some (.int z) ∧ mK M' o = 5 ∧ mN M' o = 1 ∧ Q (.inl (some (.int 0))) (sAL M' o 0 z.toInt64)) (kx : ∀ k M', Post (.inr k) M' → (k = 2 ∧ Q (.inl (some (.int 1))) M') ∨ (k = 1 ∧ Q (.inl (some (.int 2))) M') ∨ (k = 4 ∧ Q (.inl (some (.int 3))) M')) : zX Z l (d + 1) mth_L_addTurn 0 (lv_args 0 [.ref x, .int p, .int q, .ref o]) [] M mc ms Q := by
  show zX Z l (d + 1) mth_L_addTurn 0 [(0, .ref x), (1, .int p), (2, .int q), (3, .ref o)] [] M mc ms Q
  refine zs_aload_n (n := 1) dL_addTurn_0 rfl rfl ?_
  refine zs_iconst (v := 0) (n := 2) dL_addTurn_1 (by decide) rfl ?_
  refine zs_aload_n (n := 3) dL_addTurn_2 rfl rfl ?_
  refine zs_iload_n (n := 4) dL_addTurn_3 rfl rfl ?_
  refine zs_iload_n (n := 5) dL_addTurn_4 rfl rfl ?_
  refine zs_invV (As := [.int p, .int q]) (ci := 16) (mc := mc) (ms := ms) (nc1 := 0) (ns1 := 0) (n := 8) dL_addTurn_5 ok_X11_addTurn ⟨ml_L_59, im_X11_addTurn, sl_X11_addTurn⟩ rfl hx rfl (Nat.le_of_ble_eq_true rfl) (by simp) rfl (by omega) (by omega) rfl rfl h ?_ ?_
  · intro k M' hk
    rcases kx k M' hk with ⟨rfl, hq⟩ | ⟨rfl, hq⟩ | ⟨rfl, hq⟩
    · refine Or.inr ⟨13, han_L_addTurn_2, fun q => ?_⟩
      refine zs_astore (n := 15) dL_addTurn_13 (by decide) rfl ?_
      refine zs_iconst (v := 1) (n := 16) dL_addTurn_15 (by decide) rfl ?_
      refine zs_ireturn dL_addTurn_16 ⟨_, rfl, rfl⟩ ?_
      exact hq
    · refine Or.inr ⟨17, han_L_addTurn_1, fun q => ?_⟩
      refine zs_astore (n := 19) dL_addTurn_17 (by decide) rfl ?_
      refine zs_iconst (v := 2) (n := 20) dL_addTurn_19 (by decide) rfl ?_
      refine zs_ireturn dL_addTurn_20 ⟨_, rfl, rfl⟩ ?_
      exact hq
    · refine Or.inr ⟨21, han_L_addTurn_4, fun q => ?_⟩
      refine zs_astore (n := 23) dL_addTurn_21 (by decide) rfl ?_
      refine zs_iconst (v := 3) (n := 24) dL_addTurn_23 (by decide) rfl ?_
      refine zs_ireturn dL_addTurn_24 ⟨_, rfl, rfl⟩ ?_
      exact hq
  · intro v M' hv
    obtain ⟨z, rfl, h5, h6, hq⟩ := k0 v M' hv
    refine zs_i2l (n := 9) dL_addTurn_8 rfl ?_
    refine zs_last (n := 10) dL_addTurn_9 h5 (by rw [h6]; exact vp_in_nI (by decide) (by decide)) rfl ?_
    refine zs_goto (tgt := 25) dL_addTurn_10 (by decide) ?_
    refine zs_iconst (v := 0) (n := 26) dL_addTurn_25 (by decide) rfl ?_
    refine zs_ireturn dL_addTurn_26 ⟨_, rfl, rfl⟩ ?_
    exact hq
theorem w_L_turnsByLots (hx : mK M x = 26) (h : zX Z l d mth_X11_turnsByLots 0 (lv_args 0 [.ref x]) [] M mc ms Post)
    (k0 : ∀ v M', Post (.inl v) M' → ∃ z, v = some (.int z) ∧ mK M' o = 5 ∧ mN M' o = 1 ∧ Q (.inl (some (.int 0))) (sAL M' o 0 z.toInt64)) (kx : ∀ k M', Post (.inr k) M' → (k = 1 ∧ Q (.inl (some (.int 1))) M') ∨ (k = 4 ∧ Q (.inl (some (.int 2))) M')) : zX Z l (d + 1) mth_L_turnsByLots 0 (lv_args 0 [.ref x, .ref o]) [] M mc ms Q := by
  show zX Z l (d + 1) mth_L_turnsByLots 0 [(0, .ref x), (1, .ref o)] [] M mc ms Q
  refine zs_aload_n (n := 1) dL_turnsByLots_0 rfl rfl ?_
  refine zs_iconst (v := 0) (n := 2) dL_turnsByLots_1 (by decide) rfl ?_
  refine zs_aload_n (n := 3) dL_turnsByLots_2 rfl rfl ?_
  refine zs_invV (As := []) (ci := 16) (mc := mc) (ms := ms) (nc1 := 0) (ns1 := 0) (n := 6) dL_turnsByLots_3 ok_X11_turnsByLots ⟨ml_L_62, im_X11_turnsByLots, sl_X11_turnsByLots⟩ rfl hx rfl (Nat.le_of_ble_eq_true rfl) (by simp) rfl (by omega) (by omega) rfl rfl h ?_ ?_
  · intro k M' hk
    rcases kx k M' hk with ⟨rfl, hq⟩ | ⟨rfl, hq⟩
    · refine Or.inr ⟨11, han_L_turnsByLots_1, fun q => ?_⟩
      refine zs_astore_n (n := 12) dL_turnsByLots_11 (by decide) rfl ?_
      refine zs_iconst (v := 1) (n := 13) dL_turnsByLots_12 (by decide) rfl ?_
      refine zs_ireturn dL_turnsByLots_13 ⟨_, rfl, rfl⟩ ?_
      exact hq
    · refine Or.inr ⟨14, han_L_turnsByLots_4, fun q => ?_⟩
      refine zs_astore_n (n := 15) dL_turnsByLots_14 (by decide) rfl ?_
      refine zs_iconst (v := 2) (n := 16) dL_turnsByLots_15 (by decide) rfl ?_
      refine zs_ireturn dL_turnsByLots_16 ⟨_, rfl, rfl⟩ ?_
      exact hq
  · intro v M' hv
    obtain ⟨z, rfl, h5, h6, hq⟩ := k0 v M' hv
    refine zs_i2l (n := 7) dL_turnsByLots_6 rfl ?_
    refine zs_last (n := 8) dL_turnsByLots_7 h5 (by rw [h6]; exact vp_in_nI (by decide) (by decide)) rfl ?_
    refine zs_goto (tgt := 17) dL_turnsByLots_8 (by decide) ?_
    refine zs_iconst (v := 0) (n := 18) dL_turnsByLots_17 (by decide) rfl ?_
    refine zs_ireturn dL_turnsByLots_18 ⟨_, rfl, rfl⟩ ?_
    exact hq
theorem w_L_exchange {p q r : Int32} (hx : mK M x = 26) (h : zX Z l d mth_X11_exchange 0 (lv_args 0 [.ref x, .int p, .int q, .int r]) [] M mc ms Post)
    (k0 : ∀ v M', Post (.inl v) M' → ∃ z, v = some (.int z) ∧ mK M' o = 5 ∧ mN M' o = 1 ∧ Q (.inl (some (.int 0))) (sAL M' o 0 (if z = 0 then 0 else 1))) (kx : ∀ k M', Post (.inr k) M' → (k = 2 ∧ Q (.inl (some (.int 1))) M') ∨ (k = 1 ∧ Q (.inl (some (.int 2))) M') ∨ (k = 4 ∧ Q (.inl (some (.int 3))) M')) : zX Z l (d + 1) mth_L_exchange 0 (lv_args 0 [.ref x, .int p, .int q, .int r, .ref o]) [] M mc ms Q := by
  show zX Z l (d + 1) mth_L_exchange 0 [(0, .ref x), (1, .int p), (2, .int q), (3, .int r), (4, .ref o)] [] M mc ms Q
  refine zs_aload (n := 2) dL_exchange_0 rfl rfl ?_
  refine zs_iconst (v := 0) (n := 3) dL_exchange_2 (by decide) rfl ?_
  refine zs_aload_n (n := 4) dL_exchange_3 rfl rfl ?_
  refine zs_iload_n (n := 5) dL_exchange_4 rfl rfl ?_
  refine zs_iload_n (n := 6) dL_exchange_5 rfl rfl ?_
  refine zs_iload_n (n := 7) dL_exchange_6 rfl rfl ?_
  refine zs_invV (As := [.int p, .int q, .int r]) (ci := 16) (mc := mc) (ms := ms) (nc1 := 0) (ns1 := 0) (n := 10) dL_exchange_7 ok_X11_exchange ⟨ml_L_66, im_X11_exchange, sl_X11_exchange⟩ rfl hx rfl (Nat.le_of_ble_eq_true rfl) (by simp) rfl (by omega) (by omega) rfl rfl h ?_ ?_
  · intro k M' hk
    rcases kx k M' hk with ⟨rfl, hq⟩ | ⟨rfl, hq⟩ | ⟨rfl, hq⟩
    · refine Or.inr ⟨22, han_L_exchange_2, fun q => ?_⟩
      refine zs_astore (n := 24) dL_exchange_22 (by decide) rfl ?_
      refine zs_iconst (v := 1) (n := 25) dL_exchange_24 (by decide) rfl ?_
      refine zs_ireturn dL_exchange_25 ⟨_, rfl, rfl⟩ ?_
      exact hq
    · refine Or.inr ⟨26, han_L_exchange_1, fun q => ?_⟩
      refine zs_astore (n := 28) dL_exchange_26 (by decide) rfl ?_
      refine zs_iconst (v := 2) (n := 29) dL_exchange_28 (by decide) rfl ?_
      refine zs_ireturn dL_exchange_29 ⟨_, rfl, rfl⟩ ?_
      exact hq
    · refine Or.inr ⟨30, han_L_exchange_4, fun q => ?_⟩
      refine zs_astore (n := 32) dL_exchange_30 (by decide) rfl ?_
      refine zs_iconst (v := 3) (n := 33) dL_exchange_32 (by decide) rfl ?_
      refine zs_ireturn dL_exchange_33 ⟨_, rfl, rfl⟩ ?_
      exact hq
  · intro v M' hv
    obtain ⟨z, rfl, h5, h6, hq⟩ := k0 v M' hv
    refine zs_if_eq (tgt := 17) (n := 13) dL_exchange_10 (by decide) rfl (fun hz => ?_) (fun hz => ?_)
    · refine zs_lconst (v := 0) (n := 18) dL_exchange_17 (by decide) rfl ?_
      refine zs_last (n := 19) dL_exchange_18 h5 (by rw [h6]; exact vp_in_nI (by decide) (by decide)) rfl ?_
      refine zs_goto (tgt := 34) dL_exchange_19 (by decide) ?_
      refine zs_iconst (v := 0) (n := 35) dL_exchange_34 (by decide) rfl ?_
      refine zs_ireturn dL_exchange_35 ⟨_, rfl, rfl⟩ ?_
      rw [if_pos hz] at hq
      exact hq
    · refine zs_lconst (v := 1) (n := 14) dL_exchange_13 (by decide) rfl ?_
      refine zs_goto (tgt := 18) dL_exchange_14 (by decide) ?_
      refine zs_last (n := 19) dL_exchange_18 h5 (by rw [h6]; exact vp_in_nI (by decide) (by decide)) rfl ?_
      refine zs_goto (tgt := 34) dL_exchange_19 (by decide) ?_
      refine zs_iconst (v := 0) (n := 35) dL_exchange_34 (by decide) rfl ?_
      refine zs_ireturn dL_exchange_35 ⟨_, rfl, rfl⟩ ?_
      rw [if_neg hz] at hq
      exact hq
theorem w_L_turnAt {p q : Int32} (hx : mK M x = 26) (h : zX Z l d mth_X11_turnAt 0 (lv_args 0 [.ref x, .int p, .int q]) [] M mc ms Post)
    (k0 : ∀ v M', Post (.inl v) M' → ∃ z, v = some (.int z) ∧ mK M' o = 5 ∧ mN M' o = 1 ∧ Q (.inl (some (.int 0))) (sAL M' o 0 z.toInt64)) (kx : ∀ k M', Post (.inr k) M' → (k = 2 ∧ Q (.inl (some (.int 1))) M') ∨ (k = 5 ∧ Q (.inl (some (.int 2))) M')) : zX Z l (d + 1) mth_L_turnAt 0 (lv_args 0 [.ref x, .int p, .int q, .ref o]) [] M mc ms Q := by
  show zX Z l (d + 1) mth_L_turnAt 0 [(0, .ref x), (1, .int p), (2, .int q), (3, .ref o)] [] M mc ms Q
  refine zs_aload_n (n := 1) dL_turnAt_0 rfl rfl ?_
  refine zs_iconst (v := 0) (n := 2) dL_turnAt_1 (by decide) rfl ?_
  refine zs_aload_n (n := 3) dL_turnAt_2 rfl rfl ?_
  refine zs_iload_n (n := 4) dL_turnAt_3 rfl rfl ?_
  refine zs_iload_n (n := 5) dL_turnAt_4 rfl rfl ?_
  refine zs_invV (As := [.int p, .int q]) (ci := 16) (mc := mc) (ms := ms) (nc1 := 0) (ns1 := 0) (n := 8) dL_turnAt_5 ok_X11_turnAt ⟨ml_L_70, im_X11_turnAt, sl_X11_turnAt⟩ rfl hx rfl (Nat.le_of_ble_eq_true rfl) (by simp) rfl (by omega) (by omega) rfl rfl h ?_ ?_
  · intro k M' hk
    rcases kx k M' hk with ⟨rfl, hq⟩ | ⟨rfl, hq⟩
    · refine Or.inr ⟨13, han_L_turnAt_2, fun q => ?_⟩
      refine zs_astore (n := 15) dL_turnAt_13 (by decide) rfl ?_
      refine zs_iconst (v := 1) (n := 16) dL_turnAt_15 (by decide) rfl ?_
      refine zs_ireturn dL_turnAt_16 ⟨_, rfl, rfl⟩ ?_
      exact hq
    · refine Or.inr ⟨17, han_L_turnAt_5, fun q => ?_⟩
      refine zs_astore (n := 19) dL_turnAt_17 (by decide) rfl ?_
      refine zs_iconst (v := 2) (n := 20) dL_turnAt_19 (by decide) rfl ?_
      refine zs_ireturn dL_turnAt_20 ⟨_, rfl, rfl⟩ ?_
      exact hq
  · intro v M' hv
    obtain ⟨z, rfl, h5, h6, hq⟩ := k0 v M' hv
    refine zs_i2l (n := 9) dL_turnAt_8 rfl ?_
    refine zs_last (n := 10) dL_turnAt_9 h5 (by rw [h6]; exact vp_in_nI (by decide) (by decide)) rfl ?_
    refine zs_goto (tgt := 21) dL_turnAt_10 (by decide) ?_
    refine zs_iconst (v := 0) (n := 22) dL_turnAt_21 (by decide) rfl ?_
    refine zs_ireturn dL_turnAt_22 ⟨_, rfl, rfl⟩ ?_
    exact hq
theorem w_L_setRain {p q : Int32} (hx : mK M x = 26) (h : zX Z l d mth_X11_setRain 0 (lv_args 0 [.ref x, .int p, .int q]) [] M mc ms Post)
    (k0 : ∀ v M', Post (.inl v) M' → ∃ z, v = some (.int z) ∧ mK M' o = 5 ∧ mN M' o = 1 ∧ Q (.inl (some (.int 0))) (sAL M' o 0 z.toInt64)) (kx : ∀ k M', Post (.inr k) M' → (k = 0 ∧ Q (.inl (some (.int 1))) M')) : zX Z l (d + 1) mth_L_setRain 0 (lv_args 0 [.ref x, .int p, .int q, .ref o]) [] M mc ms Q := by
  show zX Z l (d + 1) mth_L_setRain 0 [(0, .ref x), (1, .int p), (2, .int q), (3, .ref o)] [] M mc ms Q
  refine zs_aload_n (n := 1) dL_setRain_0 rfl rfl ?_
  refine zs_iconst (v := 0) (n := 2) dL_setRain_1 (by decide) rfl ?_
  refine zs_aload_n (n := 3) dL_setRain_2 rfl rfl ?_
  refine zs_iload_n (n := 4) dL_setRain_3 rfl rfl ?_
  refine zs_iload_n (n := 5) dL_setRain_4 rfl rfl ?_
  refine zs_invV (As := [.int p, .int q]) (ci := 16) (mc := mc) (ms := ms) (nc1 := 0) (ns1 := 0) (n := 8) dL_setRain_5 ok_X11_setRain ⟨ml_L_73, im_X11_setRain, sl_X11_setRain⟩ rfl hx rfl (Nat.le_of_ble_eq_true rfl) (by simp) rfl (by omega) (by omega) rfl rfl h ?_ ?_
  · intro k M' hk
    obtain ⟨rfl, hq⟩ := kx k M' hk
    refine Or.inr ⟨13, han_L_setRain_0, fun q => ?_⟩
    refine zs_astore (n := 15) dL_setRain_13 (by decide) rfl ?_
    refine zs_iconst (v := 1) (n := 16) dL_setRain_15 (by decide) rfl ?_
    refine zs_ireturn dL_setRain_16 ⟨_, rfl, rfl⟩ ?_
    exact hq
  · intro v M' hv
    obtain ⟨z, rfl, h5, h6, hq⟩ := k0 v M' hv
    refine zs_i2l (n := 9) dL_setRain_8 rfl ?_
    refine zs_last (n := 10) dL_setRain_9 h5 (by rw [h6]; exact vp_in_nI (by decide) (by decide)) rfl ?_
    refine zs_goto (tgt := 17) dL_setRain_10 (by decide) ?_
    refine zs_iconst (v := 0) (n := 18) dL_setRain_17 (by decide) rfl ?_
    refine zs_ireturn dL_setRain_18 ⟨_, rfl, rfl⟩ ?_
    exact hq
theorem w_L_setCold {p : Int32} (hx : mK M x = 26) (h : zX Z l d mth_X11_setCold 0 (lv_args 0 [.ref x, .int p]) [] M mc ms Post)
    (k0 : ∀ v M', Post (.inl v) M' → ∃ z, v = some (.int z) ∧ mK M' o = 5 ∧ mN M' o = 1 ∧ Q (.inl (some (.int 0))) (sAL M' o 0 z.toInt64)) (kx : ∀ k M', Post (.inr k) M' → (k = 0 ∧ Q (.inl (some (.int 1))) M')) : zX Z l (d + 1) mth_L_setCold 0 (lv_args 0 [.ref x, .int p, .ref o]) [] M mc ms Q := by
  show zX Z l (d + 1) mth_L_setCold 0 [(0, .ref x), (1, .int p), (2, .ref o)] [] M mc ms Q
  refine zs_aload_n (n := 1) dL_setCold_0 rfl rfl ?_
  refine zs_iconst (v := 0) (n := 2) dL_setCold_1 (by decide) rfl ?_
  refine zs_aload_n (n := 3) dL_setCold_2 rfl rfl ?_
  refine zs_iload_n (n := 4) dL_setCold_3 rfl rfl ?_
  refine zs_invV (As := [.int p]) (ci := 16) (mc := mc) (ms := ms) (nc1 := 0) (ns1 := 0) (n := 7) dL_setCold_4 ok_X11_setCold ⟨ml_L_76, im_X11_setCold, sl_X11_setCold⟩ rfl hx rfl (Nat.le_of_ble_eq_true rfl) (by simp) rfl (by omega) (by omega) rfl rfl h ?_ ?_
  · intro k M' hk
    obtain ⟨rfl, hq⟩ := kx k M' hk
    refine Or.inr ⟨12, han_L_setCold_0, fun q => ?_⟩
    refine zs_astore_n (n := 13) dL_setCold_12 (by decide) rfl ?_
    refine zs_iconst (v := 1) (n := 14) dL_setCold_13 (by decide) rfl ?_
    refine zs_ireturn dL_setCold_14 ⟨_, rfl, rfl⟩ ?_
    exact hq
  · intro v M' hv
    obtain ⟨z, rfl, h5, h6, hq⟩ := k0 v M' hv
    refine zs_i2l (n := 8) dL_setCold_7 rfl ?_
    refine zs_last (n := 9) dL_setCold_8 h5 (by rw [h6]; exact vp_in_nI (by decide) (by decide)) rfl ?_
    refine zs_goto (tgt := 15) dL_setCold_9 (by decide) ?_
    refine zs_iconst (v := 0) (n := 16) dL_setCold_15 (by decide) rfl ?_
    refine zs_ireturn dL_setCold_16 ⟨_, rfl, rfl⟩ ?_
    exact hq
theorem w_L_setLaw {p q : Int32} (hx : mK M x = 26) (h : zX Z l d mth_X11_setLaw 0 (lv_args 0 [.ref x, .int p, .int q]) [] M mc ms Post)
    (k0 : ∀ v M', Post (.inl v) M' → ∃ z, v = some (.int z) ∧ mK M' o = 5 ∧ mN M' o = 1 ∧ Q (.inl (some (.int 0))) (sAL M' o 0 z.toInt64)) (kx : ∀ k M', Post (.inr k) M' → (k = 0 ∧ Q (.inl (some (.int 1))) M')) : zX Z l (d + 1) mth_L_setLaw 0 (lv_args 0 [.ref x, .int p, .int q, .ref o]) [] M mc ms Q := by
  show zX Z l (d + 1) mth_L_setLaw 0 [(0, .ref x), (1, .int p), (2, .int q), (3, .ref o)] [] M mc ms Q
  refine zs_aload_n (n := 1) dL_setLaw_0 rfl rfl ?_
  refine zs_iconst (v := 0) (n := 2) dL_setLaw_1 (by decide) rfl ?_
  refine zs_aload_n (n := 3) dL_setLaw_2 rfl rfl ?_
  refine zs_iload_n (n := 4) dL_setLaw_3 rfl rfl ?_
  refine zs_iload_n (n := 5) dL_setLaw_4 rfl rfl ?_
  refine zs_invV (As := [.int p, .int q]) (ci := 16) (mc := mc) (ms := ms) (nc1 := 0) (ns1 := 0) (n := 8) dL_setLaw_5 ok_X11_setLaw ⟨ml_L_79, im_X11_setLaw, sl_X11_setLaw⟩ rfl hx rfl (Nat.le_of_ble_eq_true rfl) (by simp) rfl (by omega) (by omega) rfl rfl h ?_ ?_
  · intro k M' hk
    obtain ⟨rfl, hq⟩ := kx k M' hk
    refine Or.inr ⟨13, han_L_setLaw_0, fun q => ?_⟩
    refine zs_astore (n := 15) dL_setLaw_13 (by decide) rfl ?_
    refine zs_iconst (v := 1) (n := 16) dL_setLaw_15 (by decide) rfl ?_
    refine zs_ireturn dL_setLaw_16 ⟨_, rfl, rfl⟩ ?_
    exact hq
  · intro v M' hv
    obtain ⟨z, rfl, h5, h6, hq⟩ := k0 v M' hv
    refine zs_i2l (n := 9) dL_setLaw_8 rfl ?_
    refine zs_last (n := 10) dL_setLaw_9 h5 (by rw [h6]; exact vp_in_nI (by decide) (by decide)) rfl ?_
    refine zs_goto (tgt := 17) dL_setLaw_10 (by decide) ?_
    refine zs_iconst (v := 0) (n := 18) dL_setLaw_17 (by decide) rfl ?_
    refine zs_ireturn dL_setLaw_18 ⟨_, rfl, rfl⟩ ?_
    exact hq
theorem w_L_addVisit {p q : Int32} (hx : mK M x = 26) (h : zX Z l d mth_X11_addVisit 0 (lv_args 0 [.ref x, .int p, .int q]) [] M mc ms Post)
    (k0 : ∀ v M', Post (.inl v) M' → ∃ z, v = some (.int z) ∧ mK M' o = 5 ∧ mN M' o = 1 ∧ Q (.inl (some (.int 0))) (sAL M' o 0 z.toInt64)) (kx : ∀ k M', Post (.inr k) M' → (k = 2 ∧ Q (.inl (some (.int 1))) M') ∨ (k = 0 ∧ Q (.inl (some (.int 2))) M') ∨ (k = 1 ∧ Q (.inl (some (.int 3))) M')) : zX Z l (d + 1) mth_L_addVisit 0 (lv_args 0 [.ref x, .int p, .int q, .ref o]) [] M mc ms Q := by
  show zX Z l (d + 1) mth_L_addVisit 0 [(0, .ref x), (1, .int p), (2, .int q), (3, .ref o)] [] M mc ms Q
  refine zs_aload_n (n := 1) dL_addVisit_0 rfl rfl ?_
  refine zs_iconst (v := 0) (n := 2) dL_addVisit_1 (by decide) rfl ?_
  refine zs_aload_n (n := 3) dL_addVisit_2 rfl rfl ?_
  refine zs_iload_n (n := 4) dL_addVisit_3 rfl rfl ?_
  refine zs_iload_n (n := 5) dL_addVisit_4 rfl rfl ?_
  refine zs_invV (As := [.int p, .int q]) (ci := 16) (mc := mc) (ms := ms) (nc1 := 0) (ns1 := 0) (n := 8) dL_addVisit_5 ok_X11_addVisit ⟨ml_L_82, im_X11_addVisit, sl_X11_addVisit⟩ rfl hx rfl (Nat.le_of_ble_eq_true rfl) (by simp) rfl (by omega) (by omega) rfl rfl h ?_ ?_
  · intro k M' hk
    rcases kx k M' hk with ⟨rfl, hq⟩ | ⟨rfl, hq⟩ | ⟨rfl, hq⟩
    · refine Or.inr ⟨13, han_L_addVisit_2, fun q => ?_⟩
      refine zs_astore (n := 15) dL_addVisit_13 (by decide) rfl ?_
      refine zs_iconst (v := 1) (n := 16) dL_addVisit_15 (by decide) rfl ?_
      refine zs_ireturn dL_addVisit_16 ⟨_, rfl, rfl⟩ ?_
      exact hq
    · refine Or.inr ⟨17, han_L_addVisit_0, fun q => ?_⟩
      refine zs_astore (n := 19) dL_addVisit_17 (by decide) rfl ?_
      refine zs_iconst (v := 2) (n := 20) dL_addVisit_19 (by decide) rfl ?_
      refine zs_ireturn dL_addVisit_20 ⟨_, rfl, rfl⟩ ?_
      exact hq
    · refine Or.inr ⟨21, han_L_addVisit_1, fun q => ?_⟩
      refine zs_astore (n := 23) dL_addVisit_21 (by decide) rfl ?_
      refine zs_iconst (v := 3) (n := 24) dL_addVisit_23 (by decide) rfl ?_
      refine zs_ireturn dL_addVisit_24 ⟨_, rfl, rfl⟩ ?_
      exact hq
  · intro v M' hv
    obtain ⟨z, rfl, h5, h6, hq⟩ := k0 v M' hv
    refine zs_i2l (n := 9) dL_addVisit_8 rfl ?_
    refine zs_last (n := 10) dL_addVisit_9 h5 (by rw [h6]; exact vp_in_nI (by decide) (by decide)) rfl ?_
    refine zs_goto (tgt := 25) dL_addVisit_10 (by decide) ?_
    refine zs_iconst (v := 0) (n := 26) dL_addVisit_25 (by decide) rfl ?_
    refine zs_ireturn dL_addVisit_26 ⟨_, rfl, rfl⟩ ?_
    exact hq
theorem w_L_join {p q : Int32} (hx : mK M x = 26) (h : zX Z l d mth_X11_join 0 (lv_args 0 [.ref x, .int p, .int q]) [] M mc ms Post)
    (k0 : ∀ v M', Post (.inl v) M' → ∃ z, v = some (.int z) ∧ mK M' o = 5 ∧ mN M' o = 1 ∧ Q (.inl (some (.int 0))) (sAL M' o 0 z.toInt64)) (kx : ∀ k M', Post (.inr k) M' → (k = 2 ∧ Q (.inl (some (.int 1))) M') ∨ (k = 0 ∧ Q (.inl (some (.int 2))) M')) : zX Z l (d + 1) mth_L_join 0 (lv_args 0 [.ref x, .int p, .int q, .ref o]) [] M mc ms Q := by
  show zX Z l (d + 1) mth_L_join 0 [(0, .ref x), (1, .int p), (2, .int q), (3, .ref o)] [] M mc ms Q
  refine zs_aload_n (n := 1) dL_join_0 rfl rfl ?_
  refine zs_iconst (v := 0) (n := 2) dL_join_1 (by decide) rfl ?_
  refine zs_aload_n (n := 3) dL_join_2 rfl rfl ?_
  refine zs_iload_n (n := 4) dL_join_3 rfl rfl ?_
  refine zs_iload_n (n := 5) dL_join_4 rfl rfl ?_
  refine zs_invV (As := [.int p, .int q]) (ci := 16) (mc := mc) (ms := ms) (nc1 := 0) (ns1 := 0) (n := 8) dL_join_5 ok_X11_join ⟨ml_L_85, im_X11_join, sl_X11_join⟩ rfl hx rfl (Nat.le_of_ble_eq_true rfl) (by simp) rfl (by omega) (by omega) rfl rfl h ?_ ?_
  · intro k M' hk
    rcases kx k M' hk with ⟨rfl, hq⟩ | ⟨rfl, hq⟩
    · refine Or.inr ⟨13, han_L_join_2, fun q => ?_⟩
      refine zs_astore (n := 15) dL_join_13 (by decide) rfl ?_
      refine zs_iconst (v := 1) (n := 16) dL_join_15 (by decide) rfl ?_
      refine zs_ireturn dL_join_16 ⟨_, rfl, rfl⟩ ?_
      exact hq
    · refine Or.inr ⟨17, han_L_join_0, fun q => ?_⟩
      refine zs_astore (n := 19) dL_join_17 (by decide) rfl ?_
      refine zs_iconst (v := 2) (n := 20) dL_join_19 (by decide) rfl ?_
      refine zs_ireturn dL_join_20 ⟨_, rfl, rfl⟩ ?_
      exact hq
  · intro v M' hv
    obtain ⟨z, rfl, h5, h6, hq⟩ := k0 v M' hv
    refine zs_i2l (n := 9) dL_join_8 rfl ?_
    refine zs_last (n := 10) dL_join_9 h5 (by rw [h6]; exact vp_in_nI (by decide) (by decide)) rfl ?_
    refine zs_goto (tgt := 21) dL_join_10 (by decide) ?_
    refine zs_iconst (v := 0) (n := 22) dL_join_21 (by decide) rfl ?_
    refine zs_ireturn dL_join_22 ⟨_, rfl, rfl⟩ ?_
    exact hq
theorem w_L_play (hx : mK M x = 26) (h : zX Z l d mth_X11_play 0 (lv_args 0 [.ref x]) [] M mc ms Post)
    (k0 : ∀ v M', Post (.inl v) M' → ∃ z, v = some (.int z) ∧ mK M' o = 5 ∧ mN M' o = 1 ∧ Q (.inl (some (.int 0))) (sAL M' o 0 z.toInt64)) (kx : ∀ k M', Post (.inr k) M' → (k = 1 ∧ Q (.inl (some (.int 1))) M')) : zX Z l (d + 1) mth_L_play 0 (lv_args 0 [.ref x, .ref o]) [] M mc ms Q := by
  show zX Z l (d + 1) mth_L_play 0 [(0, .ref x), (1, .ref o)] [] M mc ms Q
  refine zs_aload_n (n := 1) dL_play_0 rfl rfl ?_
  refine zs_iconst (v := 0) (n := 2) dL_play_1 (by decide) rfl ?_
  refine zs_aload_n (n := 3) dL_play_2 rfl rfl ?_
  refine zs_invV (As := []) (ci := 16) (mc := mc) (ms := ms) (nc1 := 0) (ns1 := 0) (n := 6) dL_play_3 ok_X11_play ⟨ml_L_88, im_X11_play, sl_X11_play⟩ rfl hx rfl (Nat.le_of_ble_eq_true rfl) (by simp) rfl (by omega) (by omega) rfl rfl h ?_ ?_
  · intro k M' hk
    obtain ⟨rfl, hq⟩ := kx k M' hk
    refine Or.inr ⟨11, han_L_play_1, fun q => ?_⟩
    refine zs_astore_n (n := 12) dL_play_11 (by decide) rfl ?_
    refine zs_iconst (v := 1) (n := 13) dL_play_12 (by decide) rfl ?_
    refine zs_ireturn dL_play_13 ⟨_, rfl, rfl⟩ ?_
    exact hq
  · intro v M' hv
    obtain ⟨z, rfl, h5, h6, hq⟩ := k0 v M' hv
    refine zs_i2l (n := 7) dL_play_6 rfl ?_
    refine zs_last (n := 8) dL_play_7 h5 (by rw [h6]; exact vp_in_nI (by decide) (by decide)) rfl ?_
    refine zs_goto (tgt := 14) dL_play_8 (by decide) ?_
    refine zs_iconst (v := 0) (n := 15) dL_play_14 (by decide) rfl ?_
    refine zs_ireturn dL_play_15 ⟨_, rfl, rfl⟩ ?_
    exact hq
theorem w_L_of {p q r : Int32} (hx : mK M x = 26) (h : zX Z l d mth_X11_of 0 (lv_args 0 [.ref x, .int p, .int q, .int r]) [] M mc ms Post)
    (k0 : ∀ v M', Post (.inl v) M' → ∃ z, v = some (.int z) ∧ mK M' o = 5 ∧ mN M' o = 1 ∧ Q (.inl (some (.int 0))) (sAL M' o 0 z.toInt64)) (kx : ∀ k M', Post (.inr k) M' → (k = 2 ∧ Q (.inl (some (.int 1))) M') ∨ (k = 0 ∧ Q (.inl (some (.int 2))) M') ∨ (k = 1 ∧ Q (.inl (some (.int 3))) M') ∨ (k = 5 ∧ Q (.inl (some (.int 4))) M')) : zX Z l (d + 1) mth_L_of 0 (lv_args 0 [.ref x, .int p, .int q, .int r, .ref o]) [] M mc ms Q := by
  show zX Z l (d + 1) mth_L_of 0 [(0, .ref x), (1, .int p), (2, .int q), (3, .int r), (4, .ref o)] [] M mc ms Q
  refine zs_aload (n := 2) dL_of_0 rfl rfl ?_
  refine zs_iconst (v := 0) (n := 3) dL_of_2 (by decide) rfl ?_
  refine zs_aload_n (n := 4) dL_of_3 rfl rfl ?_
  refine zs_iload_n (n := 5) dL_of_4 rfl rfl ?_
  refine zs_iload_n (n := 6) dL_of_5 rfl rfl ?_
  refine zs_iload_n (n := 7) dL_of_6 rfl rfl ?_
  refine zs_invV (As := [.int p, .int q, .int r]) (ci := 16) (mc := mc) (ms := ms) (nc1 := 0) (ns1 := 0) (n := 10) dL_of_7 ok_X11_of ⟨ml_L_91, im_X11_of, sl_X11_of⟩ rfl hx rfl (Nat.le_of_ble_eq_true rfl) (by simp) rfl (by omega) (by omega) rfl rfl h ?_ ?_
  · intro k M' hk
    rcases kx k M' hk with ⟨rfl, hq⟩ | ⟨rfl, hq⟩ | ⟨rfl, hq⟩ | ⟨rfl, hq⟩
    · refine Or.inr ⟨15, han_L_of_2, fun q => ?_⟩
      refine zs_astore (n := 17) dL_of_15 (by decide) rfl ?_
      refine zs_iconst (v := 1) (n := 18) dL_of_17 (by decide) rfl ?_
      refine zs_ireturn dL_of_18 ⟨_, rfl, rfl⟩ ?_
      exact hq
    · refine Or.inr ⟨19, han_L_of_0, fun q => ?_⟩
      refine zs_astore (n := 21) dL_of_19 (by decide) rfl ?_
      refine zs_iconst (v := 2) (n := 22) dL_of_21 (by decide) rfl ?_
      refine zs_ireturn dL_of_22 ⟨_, rfl, rfl⟩ ?_
      exact hq
    · refine Or.inr ⟨23, han_L_of_1, fun q => ?_⟩
      refine zs_astore (n := 25) dL_of_23 (by decide) rfl ?_
      refine zs_iconst (v := 3) (n := 26) dL_of_25 (by decide) rfl ?_
      refine zs_ireturn dL_of_26 ⟨_, rfl, rfl⟩ ?_
      exact hq
    · refine Or.inr ⟨27, han_L_of_5, fun q => ?_⟩
      refine zs_astore (n := 29) dL_of_27 (by decide) rfl ?_
      refine zs_iconst (v := 4) (n := 30) dL_of_29 (by decide) rfl ?_
      refine zs_ireturn dL_of_30 ⟨_, rfl, rfl⟩ ?_
      exact hq
  · intro v M' hv
    obtain ⟨z, rfl, h5, h6, hq⟩ := k0 v M' hv
    refine zs_i2l (n := 11) dL_of_10 rfl ?_
    refine zs_last (n := 12) dL_of_11 h5 (by rw [h6]; exact vp_in_nI (by decide) (by decide)) rfl ?_
    refine zs_goto (tgt := 31) dL_of_12 (by decide) ?_
    refine zs_iconst (v := 0) (n := 32) dL_of_31 (by decide) rfl ?_
    refine zs_ireturn dL_of_32 ⟨_, rfl, rfl⟩ ?_
    exact hq
theorem w_L_isBroken {p q : Int32} (hx : mK M x = 26) (h : zX Z l d mth_X11_isBroken 0 (lv_args 0 [.ref x, .int p, .int q]) [] M mc ms Post)
    (k0 : ∀ v M', Post (.inl v) M' → ∃ z, v = some (.int z) ∧ mK M' o = 5 ∧ mN M' o = 1 ∧ Q (.inl (some (.int 0))) (sAL M' o 0 (if z = 0 then 0 else 1))) (kx : ∀ k M', Post (.inr k) M' → (k = 2 ∧ Q (.inl (some (.int 1))) M') ∨ (k = 1 ∧ Q (.inl (some (.int 2))) M') ∨ (k = 5 ∧ Q (.inl (some (.int 3))) M')) : zX Z l (d + 1) mth_L_isBroken 0 (lv_args 0 [.ref x, .int p, .int q, .ref o]) [] M mc ms Q := by
  show zX Z l (d + 1) mth_L_isBroken 0 [(0, .ref x), (1, .int p), (2, .int q), (3, .ref o)] [] M mc ms Q
  refine zs_aload_n (n := 1) dL_isBroken_0 rfl rfl ?_
  refine zs_iconst (v := 0) (n := 2) dL_isBroken_1 (by decide) rfl ?_
  refine zs_aload_n (n := 3) dL_isBroken_2 rfl rfl ?_
  refine zs_iload_n (n := 4) dL_isBroken_3 rfl rfl ?_
  refine zs_iload_n (n := 5) dL_isBroken_4 rfl rfl ?_
  refine zs_invV (As := [.int p, .int q]) (ci := 16) (mc := mc) (ms := ms) (nc1 := 0) (ns1 := 0) (n := 8) dL_isBroken_5 ok_X11_isBroken ⟨ml_L_95, im_X11_isBroken, sl_X11_isBroken⟩ rfl hx rfl (Nat.le_of_ble_eq_true rfl) (by simp) rfl (by omega) (by omega) rfl rfl h ?_ ?_
  · intro k M' hk
    rcases kx k M' hk with ⟨rfl, hq⟩ | ⟨rfl, hq⟩ | ⟨rfl, hq⟩
    · refine Or.inr ⟨20, han_L_isBroken_2, fun q => ?_⟩
      refine zs_astore (n := 22) dL_isBroken_20 (by decide) rfl ?_
      refine zs_iconst (v := 1) (n := 23) dL_isBroken_22 (by decide) rfl ?_
      refine zs_ireturn dL_isBroken_23 ⟨_, rfl, rfl⟩ ?_
      exact hq
    · refine Or.inr ⟨24, han_L_isBroken_1, fun q => ?_⟩
      refine zs_astore (n := 26) dL_isBroken_24 (by decide) rfl ?_
      refine zs_iconst (v := 2) (n := 27) dL_isBroken_26 (by decide) rfl ?_
      refine zs_ireturn dL_isBroken_27 ⟨_, rfl, rfl⟩ ?_
      exact hq
    · refine Or.inr ⟨28, han_L_isBroken_5, fun q => ?_⟩
      refine zs_astore (n := 30) dL_isBroken_28 (by decide) rfl ?_
      refine zs_iconst (v := 3) (n := 31) dL_isBroken_30 (by decide) rfl ?_
      refine zs_ireturn dL_isBroken_31 ⟨_, rfl, rfl⟩ ?_
      exact hq
  · intro v M' hv
    obtain ⟨z, rfl, h5, h6, hq⟩ := k0 v M' hv
    refine zs_if_eq (tgt := 15) (n := 11) dL_isBroken_8 (by decide) rfl (fun hz => ?_) (fun hz => ?_)
    · refine zs_lconst (v := 0) (n := 16) dL_isBroken_15 (by decide) rfl ?_
      refine zs_last (n := 17) dL_isBroken_16 h5 (by rw [h6]; exact vp_in_nI (by decide) (by decide)) rfl ?_
      refine zs_goto (tgt := 32) dL_isBroken_17 (by decide) ?_
      refine zs_iconst (v := 0) (n := 33) dL_isBroken_32 (by decide) rfl ?_
      refine zs_ireturn dL_isBroken_33 ⟨_, rfl, rfl⟩ ?_
      rw [if_pos hz] at hq
      exact hq
    · refine zs_lconst (v := 1) (n := 12) dL_isBroken_11 (by decide) rfl ?_
      refine zs_goto (tgt := 16) dL_isBroken_12 (by decide) ?_
      refine zs_last (n := 17) dL_isBroken_16 h5 (by rw [h6]; exact vp_in_nI (by decide) (by decide)) rfl ?_
      refine zs_goto (tgt := 32) dL_isBroken_17 (by decide) ?_
      refine zs_iconst (v := 0) (n := 33) dL_isBroken_32 (by decide) rfl ?_
      refine zs_ireturn dL_isBroken_33 ⟨_, rfl, rfl⟩ ?_
      rw [if_neg hz] at hq
      exact hq
theorem w_L_fineAt {p : Int32} (hx : mK M x = 26) (h : zX Z l d mth_X11_fineAt 0 (lv_args 0 [.ref x, .int p]) [] M mc ms Post)
    (k0 : ∀ v M', Post (.inl v) M' → ∃ z, v = some (.int z) ∧ mK M' o = 5 ∧ mN M' o = 1 ∧ Q (.inl (some (.int 0))) (sAL M' o 0 z.toInt64)) (kx : ∀ k M', Post (.inr k) M' → (k = 1 ∧ Q (.inl (some (.int 1))) M') ∨ (k = 5 ∧ Q (.inl (some (.int 2))) M')) : zX Z l (d + 1) mth_L_fineAt 0 (lv_args 0 [.ref x, .int p, .ref o]) [] M mc ms Q := by
  show zX Z l (d + 1) mth_L_fineAt 0 [(0, .ref x), (1, .int p), (2, .ref o)] [] M mc ms Q
  refine zs_aload_n (n := 1) dL_fineAt_0 rfl rfl ?_
  refine zs_iconst (v := 0) (n := 2) dL_fineAt_1 (by decide) rfl ?_
  refine zs_aload_n (n := 3) dL_fineAt_2 rfl rfl ?_
  refine zs_iload_n (n := 4) dL_fineAt_3 rfl rfl ?_
  refine zs_invV (As := [.int p]) (ci := 16) (mc := mc) (ms := ms) (nc1 := 0) (ns1 := 0) (n := 7) dL_fineAt_4 ok_X11_fineAt ⟨ml_L_98, im_X11_fineAt, sl_X11_fineAt⟩ rfl hx rfl (Nat.le_of_ble_eq_true rfl) (by simp) rfl (by omega) (by omega) rfl rfl h ?_ ?_
  · intro k M' hk
    rcases kx k M' hk with ⟨rfl, hq⟩ | ⟨rfl, hq⟩
    · refine Or.inr ⟨12, han_L_fineAt_1, fun q => ?_⟩
      refine zs_astore_n (n := 13) dL_fineAt_12 (by decide) rfl ?_
      refine zs_iconst (v := 1) (n := 14) dL_fineAt_13 (by decide) rfl ?_
      refine zs_ireturn dL_fineAt_14 ⟨_, rfl, rfl⟩ ?_
      exact hq
    · refine Or.inr ⟨15, han_L_fineAt_5, fun q => ?_⟩
      refine zs_astore_n (n := 16) dL_fineAt_15 (by decide) rfl ?_
      refine zs_iconst (v := 2) (n := 17) dL_fineAt_16 (by decide) rfl ?_
      refine zs_ireturn dL_fineAt_17 ⟨_, rfl, rfl⟩ ?_
      exact hq
  · intro v M' hv
    obtain ⟨z, rfl, h5, h6, hq⟩ := k0 v M' hv
    refine zs_i2l (n := 8) dL_fineAt_7 rfl ?_
    refine zs_last (n := 9) dL_fineAt_8 h5 (by rw [h6]; exact vp_in_nI (by decide) (by decide)) rfl ?_
    refine zs_goto (tgt := 18) dL_fineAt_9 (by decide) ?_
    refine zs_iconst (v := 0) (n := 19) dL_fineAt_18 (by decide) rfl ?_
    refine zs_ireturn dL_fineAt_19 ⟨_, rfl, rfl⟩ ?_
    exact hq
theorem w_L_sumAt {p : Int32} (hx : mK M x = 26) (h : zX Z l d mth_X11_sumAt 0 (lv_args 0 [.ref x, .int p]) [] M mc ms Post)
    (k0 : ∀ v M', Post (.inl v) M' → ∃ z, v = some (.int z) ∧ mK M' o = 5 ∧ mN M' o = 1 ∧ Q (.inl (some (.int 0))) (sAL M' o 0 z.toInt64)) (kx : ∀ k M', Post (.inr k) M' → (k = 1 ∧ Q (.inl (some (.int 1))) M') ∨ (k = 5 ∧ Q (.inl (some (.int 2))) M')) : zX Z l (d + 1) mth_L_sumAt 0 (lv_args 0 [.ref x, .int p, .ref o]) [] M mc ms Q := by
  show zX Z l (d + 1) mth_L_sumAt 0 [(0, .ref x), (1, .int p), (2, .ref o)] [] M mc ms Q
  refine zs_aload_n (n := 1) dL_sumAt_0 rfl rfl ?_
  refine zs_iconst (v := 0) (n := 2) dL_sumAt_1 (by decide) rfl ?_
  refine zs_aload_n (n := 3) dL_sumAt_2 rfl rfl ?_
  refine zs_iload_n (n := 4) dL_sumAt_3 rfl rfl ?_
  refine zs_invV (As := [.int p]) (ci := 16) (mc := mc) (ms := ms) (nc1 := 0) (ns1 := 0) (n := 7) dL_sumAt_4 ok_X11_sumAt ⟨ml_L_102, im_X11_sumAt, sl_X11_sumAt⟩ rfl hx rfl (Nat.le_of_ble_eq_true rfl) (by simp) rfl (by omega) (by omega) rfl rfl h ?_ ?_
  · intro k M' hk
    rcases kx k M' hk with ⟨rfl, hq⟩ | ⟨rfl, hq⟩
    · refine Or.inr ⟨12, han_L_sumAt_1, fun q => ?_⟩
      refine zs_astore_n (n := 13) dL_sumAt_12 (by decide) rfl ?_
      refine zs_iconst (v := 1) (n := 14) dL_sumAt_13 (by decide) rfl ?_
      refine zs_ireturn dL_sumAt_14 ⟨_, rfl, rfl⟩ ?_
      exact hq
    · refine Or.inr ⟨15, han_L_sumAt_5, fun q => ?_⟩
      refine zs_astore_n (n := 16) dL_sumAt_15 (by decide) rfl ?_
      refine zs_iconst (v := 2) (n := 17) dL_sumAt_16 (by decide) rfl ?_
      refine zs_ireturn dL_sumAt_17 ⟨_, rfl, rfl⟩ ?_
      exact hq
  · intro v M' hv
    obtain ⟨z, rfl, h5, h6, hq⟩ := k0 v M' hv
    refine zs_i2l (n := 8) dL_sumAt_7 rfl ?_
    refine zs_last (n := 9) dL_sumAt_8 h5 (by rw [h6]; exact vp_in_nI (by decide) (by decide)) rfl ?_
    refine zs_goto (tgt := 18) dL_sumAt_9 (by decide) ?_
    refine zs_iconst (v := 0) (n := 19) dL_sumAt_18 (by decide) rfl ?_
    refine zs_ireturn dL_sumAt_19 ⟨_, rfl, rfl⟩ ?_
    exact hq
theorem w_L_money {p : Int32} (hx : mK M x = 26) (h : zX Z l d mth_X11_money 0 (lv_args 0 [.ref x, .int p]) [] M mc ms Post)
    (k0 : ∀ v M', Post (.inl v) M' → ∃ z, v = some (.int z) ∧ mK M' o = 5 ∧ mN M' o = 1 ∧ Q (.inl (some (.int 0))) (sAL M' o 0 z.toInt64)) (kx : ∀ k M', Post (.inr k) M' → (k = 2 ∧ Q (.inl (some (.int 1))) M')) : zX Z l (d + 1) mth_L_money 0 (lv_args 0 [.ref x, .int p, .ref o]) [] M mc ms Q := by
  show zX Z l (d + 1) mth_L_money 0 [(0, .ref x), (1, .int p), (2, .ref o)] [] M mc ms Q
  refine zs_aload_n (n := 1) dL_money_0 rfl rfl ?_
  refine zs_iconst (v := 0) (n := 2) dL_money_1 (by decide) rfl ?_
  refine zs_aload_n (n := 3) dL_money_2 rfl rfl ?_
  refine zs_iload_n (n := 4) dL_money_3 rfl rfl ?_
  refine zs_invV (As := [.int p]) (ci := 16) (mc := mc) (ms := ms) (nc1 := 0) (ns1 := 0) (n := 7) dL_money_4 ok_X11_money ⟨ml_L_105, im_X11_money, sl_X11_money⟩ rfl hx rfl (Nat.le_of_ble_eq_true rfl) (by simp) rfl (by omega) (by omega) rfl rfl h ?_ ?_
  · intro k M' hk
    obtain ⟨rfl, hq⟩ := kx k M' hk
    refine Or.inr ⟨12, han_L_money_2, fun q => ?_⟩
    refine zs_astore_n (n := 13) dL_money_12 (by decide) rfl ?_
    refine zs_iconst (v := 1) (n := 14) dL_money_13 (by decide) rfl ?_
    refine zs_ireturn dL_money_14 ⟨_, rfl, rfl⟩ ?_
    exact hq
  · intro v M' hv
    obtain ⟨z, rfl, h5, h6, hq⟩ := k0 v M' hv
    refine zs_i2l (n := 8) dL_money_7 rfl ?_
    refine zs_last (n := 9) dL_money_8 h5 (by rw [h6]; exact vp_in_nI (by decide) (by decide)) rfl ?_
    refine zs_goto (tgt := 15) dL_money_9 (by decide) ?_
    refine zs_iconst (v := 0) (n := 16) dL_money_15 (by decide) rfl ?_
    refine zs_ireturn dL_money_16 ⟨_, rfl, rfl⟩ ?_
    exact hq
theorem w_L_nextDay (hx : mK M x = 26) (h : zX Z l d mth_X11_nextDay 0 (lv_args 0 [.ref x]) [] M mc ms Post)
    (k0 : ∀ v M', Post (.inl v) M' → ∃ z, v = some (.int z) ∧ mK M' o = 5 ∧ mN M' o = 1 ∧ Q (.inl (some (.int 0))) (sAL M' o 0 z.toInt64)) (kx : ∀ k M', Post (.inr k) M' → (k = 1 ∧ Q (.inl (some (.int 1))) M')) : zX Z l (d + 1) mth_L_nextDay 0 (lv_args 0 [.ref x, .ref o]) [] M mc ms Q := by
  show zX Z l (d + 1) mth_L_nextDay 0 [(0, .ref x), (1, .ref o)] [] M mc ms Q
  refine zs_aload_n (n := 1) dL_nextDay_0 rfl rfl ?_
  refine zs_iconst (v := 0) (n := 2) dL_nextDay_1 (by decide) rfl ?_
  refine zs_aload_n (n := 3) dL_nextDay_2 rfl rfl ?_
  refine zs_invV (As := []) (ci := 16) (mc := mc) (ms := ms) (nc1 := 0) (ns1 := 0) (n := 6) dL_nextDay_3 ok_X11_nextDay ⟨ml_L_108, im_X11_nextDay, sl_X11_nextDay⟩ rfl hx rfl (Nat.le_of_ble_eq_true rfl) (by simp) rfl (by omega) (by omega) rfl rfl h ?_ ?_
  · intro k M' hk
    obtain ⟨rfl, hq⟩ := kx k M' hk
    refine Or.inr ⟨11, han_L_nextDay_1, fun q => ?_⟩
    refine zs_astore_n (n := 12) dL_nextDay_11 (by decide) rfl ?_
    refine zs_iconst (v := 1) (n := 13) dL_nextDay_12 (by decide) rfl ?_
    refine zs_ireturn dL_nextDay_13 ⟨_, rfl, rfl⟩ ?_
    exact hq
  · intro v M' hv
    obtain ⟨z, rfl, h5, h6, hq⟩ := k0 v M' hv
    refine zs_i2l (n := 7) dL_nextDay_6 rfl ?_
    refine zs_last (n := 8) dL_nextDay_7 h5 (by rw [h6]; exact vp_in_nI (by decide) (by decide)) rfl ?_
    refine zs_goto (tgt := 14) dL_nextDay_8 (by decide) ?_
    refine zs_iconst (v := 0) (n := 15) dL_nextDay_14 (by decide) rfl ?_
    refine zs_ireturn dL_nextDay_15 ⟨_, rfl, rfl⟩ ?_
    exact hq
theorem w_L_diary {p : Int32} (hx : mK M x = 26) (h : zX Z l d mth_X11_diary 0 (lv_args 0 [.ref x, .int p]) [] M mc ms Post)
    (k0 : ∀ v M', Post (.inl v) M' → ∃ z, v = some (.int z) ∧ mK M' o = 5 ∧ mN M' o = 1 ∧ Q (.inl (some (.int 0))) (sAL M' o 0 z.toInt64)) (kx : ∀ k M', Post (.inr k) M' → (k = 5 ∧ Q (.inl (some (.int 1))) M')) : zX Z l (d + 1) mth_L_diary 0 (lv_args 0 [.ref x, .int p, .ref o]) [] M mc ms Q := by
  show zX Z l (d + 1) mth_L_diary 0 [(0, .ref x), (1, .int p), (2, .ref o)] [] M mc ms Q
  refine zs_aload_n (n := 1) dL_diary_0 rfl rfl ?_
  refine zs_iconst (v := 0) (n := 2) dL_diary_1 (by decide) rfl ?_
  refine zs_aload_n (n := 3) dL_diary_2 rfl rfl ?_
  refine zs_iload_n (n := 4) dL_diary_3 rfl rfl ?_
  refine zs_invV (As := [.int p]) (ci := 16) (mc := mc) (ms := ms) (nc1 := 0) (ns1 := 0) (n := 7) dL_diary_4 ok_X11_diary ⟨ml_L_111, im_X11_diary, sl_X11_diary⟩ rfl hx rfl (Nat.le_of_ble_eq_true rfl) (by simp) rfl (by omega) (by omega) rfl rfl h ?_ ?_
  · intro k M' hk
    obtain ⟨rfl, hq⟩ := kx k M' hk
    refine Or.inr ⟨12, han_L_diary_5, fun q => ?_⟩
    refine zs_astore_n (n := 13) dL_diary_12 (by decide) rfl ?_
    refine zs_iconst (v := 1) (n := 14) dL_diary_13 (by decide) rfl ?_
    refine zs_ireturn dL_diary_14 ⟨_, rfl, rfl⟩ ?_
    exact hq
  · intro v M' hv
    obtain ⟨z, rfl, h5, h6, hq⟩ := k0 v M' hv
    refine zs_i2l (n := 8) dL_diary_7 rfl ?_
    refine zs_last (n := 9) dL_diary_8 h5 (by rw [h6]; exact vp_in_nI (by decide) (by decide)) rfl ?_
    refine zs_goto (tgt := 15) dL_diary_9 (by decide) ?_
    refine zs_iconst (v := 0) (n := 16) dL_diary_15 (by decide) rfl ?_
    refine zs_ireturn dL_diary_16 ⟨_, rfl, rfl⟩ ?_
    exact hq
theorem w_L_goodShare (hx : mK M x = 26) (h : zX Z l d mth_X11_goodShare 0 (lv_args 0 [.ref x]) [] M mc ms Post)
    (k0 : ∀ v M', Post (.inl v) M' → ∃ z, v = some (.float z) ∧ vf_n64 (FP.f2d z) ∧ mK M' o = 6 ∧ mN M' o = 1 ∧ Q (.inl (some (.int 0))) (sAD M' o 0 (FP.f2d z))) (kx : ∀ k M', Post (.inr k) M' → (k = 1 ∧ Q (.inl (some (.int 1))) M') ∨ (k = 3 ∧ Q (.inl (some (.int 2))) M')) : zX Z l (d + 1) mth_L_goodShare 0 (lv_args 0 [.ref x, .ref o]) [] M mc ms Q := by
  show zX Z l (d + 1) mth_L_goodShare 0 [(0, .ref x), (1, .ref o)] [] M mc ms Q
  refine zs_aload_n (n := 1) dL_goodShare_0 rfl rfl ?_
  refine zs_iconst (v := 0) (n := 2) dL_goodShare_1 (by decide) rfl ?_
  refine zs_aload_n (n := 3) dL_goodShare_2 rfl rfl ?_
  refine zs_invV (As := []) (ci := 16) (mc := mc) (ms := ms) (nc1 := 0) (ns1 := 0) (n := 6) dL_goodShare_3 ok_X11_goodShare ⟨ml_L_114, im_X11_goodShare, sl_X11_goodShare⟩ rfl hx rfl (Nat.le_of_ble_eq_true rfl) (by simp) rfl (by omega) (by omega) rfl rfl h ?_ ?_
  · intro k M' hk
    rcases kx k M' hk with ⟨rfl, hq⟩ | ⟨rfl, hq⟩
    · refine Or.inr ⟨11, han_L_goodShare_1, fun q => ?_⟩
      refine zs_astore_n (n := 12) dL_goodShare_11 (by decide) rfl ?_
      refine zs_iconst (v := 1) (n := 13) dL_goodShare_12 (by decide) rfl ?_
      refine zs_ireturn dL_goodShare_13 ⟨_, rfl, rfl⟩ ?_
      exact hq
    · refine Or.inr ⟨14, han_L_goodShare_3, fun q => ?_⟩
      refine zs_astore_n (n := 15) dL_goodShare_14 (by decide) rfl ?_
      refine zs_iconst (v := 2) (n := 16) dL_goodShare_15 (by decide) rfl ?_
      refine zs_ireturn dL_goodShare_16 ⟨_, rfl, rfl⟩ ?_
      exact hq
  · intro v M' hv
    obtain ⟨z, rfl, hnn, h5, h6, hq⟩ := k0 v M' hv
    refine zs_f2d (n := 7) dL_goodShare_6 hnn rfl ?_
    refine zs_dast (n := 8) dL_goodShare_7 h5 (by rw [h6]; exact vp_in_nI (by decide) (by decide)) rfl ?_
    refine zs_goto (tgt := 17) dL_goodShare_8 (by decide) ?_
    refine zs_iconst (v := 0) (n := 18) dL_goodShare_17 (by decide) rfl ?_
    refine zs_ireturn dL_goodShare_18 ⟨_, rfl, rfl⟩ ?_
    exact hq
theorem w_L_meanMoney (hx : mK M x = 26) (h : zX Z l d mth_X11_meanMoney 0 (lv_args 0 [.ref x]) [] M mc ms Post)
    (k0 : ∀ v M', Post (.inl v) M' → ∃ z, v = some (.double z) ∧ mK M' o = 6 ∧ mN M' o = 1 ∧ Q (.inl (some (.int 0))) (sAD M' o 0 z)) (kx : ∀ k M', Post (.inr k) M' → (k = 3 ∧ Q (.inl (some (.int 1))) M')) : zX Z l (d + 1) mth_L_meanMoney 0 (lv_args 0 [.ref x, .ref o]) [] M mc ms Q := by
  show zX Z l (d + 1) mth_L_meanMoney 0 [(0, .ref x), (1, .ref o)] [] M mc ms Q
  refine zs_aload_n (n := 1) dL_meanMoney_0 rfl rfl ?_
  refine zs_iconst (v := 0) (n := 2) dL_meanMoney_1 (by decide) rfl ?_
  refine zs_aload_n (n := 3) dL_meanMoney_2 rfl rfl ?_
  refine zs_invV (As := []) (ci := 16) (mc := mc) (ms := ms) (nc1 := 0) (ns1 := 0) (n := 6) dL_meanMoney_3 ok_X11_meanMoney ⟨ml_L_120, im_X11_meanMoney, sl_X11_meanMoney⟩ rfl hx rfl (Nat.le_of_ble_eq_true rfl) (by simp) rfl (by omega) (by omega) rfl rfl h ?_ ?_
  · intro k M' hk
    obtain ⟨rfl, hq⟩ := kx k M' hk
    refine Or.inr ⟨10, han_L_meanMoney_3, fun q => ?_⟩
    refine zs_astore_n (n := 11) dL_meanMoney_10 (by decide) rfl ?_
    refine zs_iconst (v := 1) (n := 12) dL_meanMoney_11 (by decide) rfl ?_
    refine zs_ireturn dL_meanMoney_12 ⟨_, rfl, rfl⟩ ?_
    exact hq
  · intro v M' hv
    obtain ⟨z, rfl, h5, h6, hq⟩ := k0 v M' hv
    refine zs_dast (n := 7) dL_meanMoney_6 h5 (by rw [h6]; exact vp_in_nI (by decide) (by decide)) rfl ?_
    refine zs_goto (tgt := 13) dL_meanMoney_7 (by decide) ?_
    refine zs_iconst (v := 0) (n := 14) dL_meanMoney_13 (by decide) rfl ?_
    refine zs_ireturn dL_meanMoney_14 ⟨_, rfl, rfl⟩ ?_
    exact hq
end ZLAW2
