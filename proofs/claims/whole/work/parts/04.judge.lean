-- the texts that the code names
def zStrs : List (String × Nat × String) := [("Hatpitch", 70, "a pitch is there"), ("Hatpitch", 87, "the street is full"), ("Hatpitch", 118, "no more acts"), ("Hatpitch", 144, "customs would go round in a ring"), ("Hatpitch", 160, "no such order"), ("Hatpitch", 163, "no such place"), ("Hatpitch", 178, "no such lot"), ("Hatpitch", 196, "no such turn can be"), ("Hatpitch", 203, "no order or no pitch"), ("Hatpitch", 213, "no such turn"), ("Hatpitch", 220, "a custom is against it"), ("Hatpitch", 254, "no more visits"), ("Hatpitch", 315, "no such line"), ("Hatpitch", 331, "no turns"), ("Hatpitch", 337, "no acts"), ("Hatpitch", 357, "a number is out of range"), ("Hatpitch", 360, "no such thing"), ("Hatpitch", 362, "no such pitch"), ("Hatpitch", 364, "no such act"), ("Hatpitch", 366, "both are the same"), ("Hatpitch", 371, "the day was played"), ("Hatpitch", 373, "the day was not played"), ("Hatpitch", 378, "no such turn was played"), ("Hatpitch", 380, "no such visit"), ("HatpitchModel", 307, "bemscd")]
-- exceptions by numbers
def zXN (k : Nat) : String := match k with
  | 0 => "java/lang/IllegalArgumentException"
  | 1 => "java/lang/IllegalStateException"
  | 2 => "java/lang/IndexOutOfBoundsException"
  | 3 => "java/lang/ArithmeticException"
  | 4 => "java/lang/UnsupportedOperationException"
  | _ => "java/util/NoSuchElementException"
abbrev zXs : List String := ["java/lang/RuntimeException", "java/lang/Exception"]
-- what lies in the heap before the law begins, and stays
def zBem (j : Nat) : Int32 := ([98, 101, 109, 115, 99, 100] : List Int32).getD j 0
def zEn2 (Z : zPar) (U : State) (H : Heap) : Prop := va_X (zPs Z).1 (zPs Z).2.1 (zPs Z).2.2 U H ∧ (zPs Z).1 < zPb Z ∧ vb_C (zPc9 Z) (zA Z) U H ∧ va_Z "java/lang/Integer$IntegerCache" "cache" "[Ljava/lang/Integer;" (.ref (zPx Z 2)) (zA Z) U H ∧ va_Z "java/lang/Integer$IntegerCache" "high" "I" (.int 127) (zA Z) U H ∧ va_T (.object "java/lang/Integer") (zPx Z 2) 256 (fun j => .ref (zPc9 Z j)) (zA Z) U H ∧ va_Mi "[Ljava/lang/Object;" (zPx Z 0) U ∧ va_Mi "java/util/ArrayList" (zPx Z 1) U ∧
  vk_R "HatpitchModel" 307 "bemscd" (zPx Z 3) U ∧ va_O "java/lang/String" (zPx Z 3) (zA Z) U H ∧ va_OF "java/lang/String" "coder" "B" (.int 0) (zPx Z 3) (zA Z) U H ∧ va_OF "java/lang/String" "value" "[B" (.ref (zPx Z 4)) (zPx Z 3) (zA Z) U H ∧ va_T .byte (zPx Z 4) 6 (fun j => .int (zBem j)) (zA Z) U H ∧ va_Z "java/lang/String" "COMPACT_STRINGS" "Z" (.int 1) (zA Z) U H
theorem zEn2.warm {Z : zPar} {s U : State} {H0 H : Heap} (h : zEn2 Z s H0) (hW : s.WarmedH U.vm) (hq : ∀ a : Nat, a < H0.size → ¬ zA Z a → H[a]? = H0[a]?) : zEn2 Z U H := by
  obtain ⟨h1, h2, h3, h4, h5, h6, h7, h8, h9, h10, h11, h12, h13, h14⟩ := h
  have hb : (zPs Z).1 < H0.size := by
    obtain ⟨scr, hs, -⟩ := h1
    exact (Array.getElem?_eq_some_iff.mp hs).1
  exact ⟨(h1.moved hW.alike).kept (hq _ hb (Nat.not_le.mpr h2)), h2, (h3.moved hW.alike).kept hq, (h4.moved hW.alike).kept hq, (h5.moved hW.alike).kept hq, (h6.moved hW.alike).kept hq, h7.moved hW.alike, h8.moved hW.alike, vk_R.warm hW h9, (h10.moved hW.alike).kept hq, (h11.moved hW.alike).kept hq, (h12.moved hW.alike).kept hq, (h13.moved hW.alike).kept hq, (h14.moved hW.alike).kept hq⟩
def zEnv (Z : zPar) (U : State) (H : Heap) : Prop := va_Z "java/util/ArrayList" "DEFAULTCAPACITY_EMPTY_ELEMENTDATA" "[Ljava/lang/Object;" (.ref (zPe Z)) (zA Z) U H ∧ va_T (.object "java/lang/Object") (zPe Z) 0 (fun _ => .null) (zA Z) U H ∧ vx_Zq Bundle.tN "UNASSIGNED_STACK" Bundle.steD (zA Z) U H ∧ vx_Zq Bundle.tN "SUPPRESSED_SENTINEL" Bundle.listD (zA Z) U H ∧ (∀ q ∈ zStrs, ∃ a, vk_R q.1 q.2.1 q.2.2 a U) ∧ (∀ k j, k < 6 → j < 6 → k ≠ j → va_Nc (zXN k) (zXN j) U) ∧ zEn2 Z U H
theorem zEnv.warm {Z : zPar} {s U : State} {H0 H : Heap} (h : zEnv Z s H0) (hW : s.WarmedH U.vm) (hq : ∀ a : Nat, a < H0.size → ¬ zA Z a → H[a]? = H0[a]?) : zEnv Z U H := by
  obtain ⟨h1, h2, h3, h4, h5, h6, h7⟩ := h
  exact ⟨(h1.moved hW.alike).kept hq, (h2.moved hW.alike).kept hq, (h3.moved hW.alike).kept hq, (h4.moved hW.alike).kept hq, fun q hm => (h5 q hm).imp fun a ha => vk_R.warm hW ha, fun k j hk hj hkj => (h6 k j hk hj hkj).moved hW.alike, h7.warm hW hq⟩
abbrev zO : Type := Option Value ⊕ Nat
-- a method's frame: what holds from its entry to its end
def zCtx (Z : zPar) (l : Launch) (d : Nat) (mm : zMeth) (p : Program) (R : Room) (s : State) (m : MethodId) (meth : Method) (c : Code) : Prop :=
  p.tables.exec = Jvm.exec ∧ c.code = zMC mm ∧ c.maxLocals = zML mm ∧ s.vm.findClass (zMY mm).cls = some m.cls ∧ meth.sig.returnType = zMR mm ∧ meth.locks = false ∧ meth.name = (zMY mm).name ∧ c.exceptionTable.toList = tableOf (zMH mm) ∧ l.stackTraces = false ∧ zW s ∧ va_K (zPD Z) vwCl (zTy Z) s ∧ zEnv Z s s.heap ∧ zPb Z ≤ s.heap.size ∧ 8 * d + 8 ≤ R.frames ∧ 64 * d + 256 ≤ R.locals
/-- a return instruction at pc, with the value v (or none) on the stack -/
def zRet (mm : zMeth) (pc : Nat) (v : Option Value) : Prop := match v with
  | none => decode (zMC mm) pc = .ok (.return_, 1) ∧ zMR mm = none
  | some (.int x) => decode (zMC mm) pc = .ok (.ireturn, 1) ∧ ∃ ty, zMR mm = some ty ∧ narrow ty (.int x) = .int x
  | some (.long _) => decode (zMC mm) pc = .ok (.lreturn, 1) ∧ zMR mm = some .long
  | some (.float _) => decode (zMC mm) pc = .ok (.freturn, 1) ∧ zMR mm = some .float
  | some (.double _) => decode (zMC mm) pc = .ok (.dreturn, 1) ∧ zMR mm = some .double
  | some .null => decode (zMC mm) pc = .ok (.areturn, 1) ∧ ∃ ty, zMR mm = some ty ∧ ((∃ n, ty = .object n) ∨ ∃ t, ty = .array t)
  | some (.ref _) => decode (zMC mm) pc = .ok (.areturn, 1) ∧ ∃ ty, zMR mm = some ty ∧ ((∃ n, ty = .object n) ∨ ∃ t, ty = .array t)
  | some (.retAddr _) => False
/-- new X("text") thrown at pc -/
def zThr (mm : zMeth) (pc k ik is ic : Nat) (text : String) : Prop :=
  (decode (zMC mm) pc = .ok (.new ik, 3) ∧ decode (zMC mm) (pc + 3) = .ok (.dup, 1)) ∧ ((decode (zMC mm) (pc + 4) = .ok (.ldc is, 2) ∧ decode (zMC mm) (pc + 6) = .ok (.invokespecial ic, 3) ∧ decode (zMC mm) (pc + 9) = .ok (.athrow, 1)) ∨ (decode (zMC mm) (pc + 4) = .ok (.ldc_w is, 3) ∧ decode (zMC mm) (pc + 7) = .ok (.invokespecial ic, 3) ∧ decode (zMC mm) (pc + 10) = .ok (.athrow, 1))) ∧
  Bundle.fit (zXN k) = true ∧ ((zMY mm).cls, is, text) ∈ zStrs ∧ ((∀ w ∈ Cond.classLink (zMY mm).cls ik (zXN k) :: Cond.initialized (zXN k) :: vx_atS (zMY mm).cls ic (zXN k) zXs, w ∈ lw_tbl ∧ zKeep w = true ∧ vx_ot w = true) ∨
    ∃ (ix : Nat) (rx : ByteArray), (decode rx 0 = .ok (.aload_n 0, 1) ∧ decode rx 1 = .ok (.aload_n 1, 1) ∧ decode rx 2 = .ok (.invokespecial ix, 3) ∧ decode rx 5 = .ok (.return_, 1)) ∧ ∀ w ∈ Cond.classLink (zMY mm).cls ik (zXN k) :: Cond.initialized (zXN k) :: zatX (zMY mm).cls ic (zXN k) ix rx zXs, w ∈ lw_tbl ∧ zKeep w = true ∧ vx_ot w = true)
section ZEX
variable (Z : zPar) (l : Launch) (mm : zMeth) (p : Program) (e : Env) (R : Room) (s : State) (m : MethodId) (args : Array Value) (below : List Frame) (meth : Method) (c : Code) (Q : zO → zMem → Prop) (QF : State → Prop)
def zExR : Prop := ∀ (v : Option Value) (M : zMem) (H : Heap) (locs : List Loc) (cells slots pc : Nat) (ls : Array Slot), Q (.inl v) M → zRep Z M H → va_S (zA Z) s.heap H locs → cells ≤ R.cells → slots ≤ R.slots → zRet mm pc v → W p l e R s m args below meth c H locs cells slots QF (F0 m pc ls v.toList)
def zExT : Prop := ∀ (k : Nat) (M : zMem) (H : Heap) (locs : List Loc) (cells slots pc : Nat) (ls : Array Slot) (rest : List Value) (q : Addr) (ce : Cell), Q (.inr k) M → zRep Z M H → va_S (zA Z) s.heap H locs → cells ≤ R.cells → slots ≤ R.slots → H[q]? = some ce → ce.vm = .none → s.vm.findClass (zXN k) = some ce.cls → (∀ x ∈ tableOf (zMH mm), covers x pc = false) → vx_W p l e R s m args below meth c H locs cells slots QF (F0 m pc ls rest) q
def zExN : Prop := ∀ (k : Nat) (M : zMem) (H : Heap) (locs : List Loc) (cells slots pc ik is ic : Nat) (text : String) (ls : Array Slot) (rest : List Value), Q (.inr k) M → zRep Z M H → va_S (zA Z) s.heap H locs → cells + 1 ≤ R.cells → slots + 6 ≤ R.slots → ls.size = c.maxLocals → (rest.map fun v => v.category).sum ≤ 64 → zThr mm pc k ik is ic text → zMH mm = [] → W p l e R s m args below meth c H locs cells slots QF (F0 m pc ls rest)
def zExit : Prop := zExR Z l mm p e R s m args below meth c Q QF ∧ zExT Z l mm p e R s m args below meth c Q QF ∧ zExN Z l mm p e R s m args below meth c Q QF
end ZEX
/-- THE JUDGEMENT: from this frame and memory the machine comes to an end that Q allows; nc cells of ns slots may still be made, d calls stand below -/
def zX (Z : zPar) (l : Launch) (d : Nat) (mm : zMeth) (pc : Nat) (L : List (Nat × Value)) (st : List Value) (M : zMem) (nc ns : Nat) (Q : zO → zMem → Prop) : Prop :=
  ∀ (p : Program) (e : Env) (R : Room) (s : State) (m : MethodId) (args : Array Value) (below : List Frame) (meth : Method) (c : Code) (H : Heap) (locs : List Loc) (cells slots : Nat) (QF : State → Prop) (ls : Array Slot),
    zCtx Z l d mm p R s m meth c → lv_has ls (zML mm) L → zRep Z M H → va_S (zA Z) s.heap H locs → cells + nc ≤ R.cells → slots + ns ≤ R.slots → zExit Z l mm p e R s m args below meth c Q QF →
    W p l e R s m args below meth c H locs cells slots QF (F0 m pc ls st)
theorem zRep.kept {Z : zPar} {M : zMem} {H H1 : Heap} (h : zRep Z M H) (hq : ∀ q : Nat, q < H.size → H1[q]? = H[q]?) : zRep Z M H1 := by
  obtain ⟨ws, h1, h2, h3, h4⟩ := h
  exact ⟨ws, h1.kept (fun k q hk => hq q.1 (h1 k q hk).lt), h2, h3, h4⟩
-- a contract out of the judgement
abbrev zRm (d mc ms : Nat) : Room := { frames := 8 * d + 8, cells := mc, slots := ms, locals := 64 * d + 256 }
def zPre (Z : zPar) (M : zMem) (U : State) : Prop := zPb Z ≤ U.heap.size ∧ zW U ∧ va_K (zPD Z) vwCl (zTy Z) U ∧ zEnv Z U U.heap ∧ zRep Z M U.heap
def zQc (Z : zPar) (Q : zO → zMem → Prop) : Array Value → State → Outcome → State → Prop := fun _ st oc t => (∃ v M, oc = .returned v ∧ Q (.inl v) M ∧ zRep Z M t.heap) ∧ va_F (zA Z) st t
def zXC (Z : zPar) (Q : zO → zMem → Prop) : String → State → State → Prop := fun E st t => ∃ k M, zXN k = E ∧ Q (.inr k) M ∧ zRep Z M t.heap ∧ va_F (zA Z) st t
abbrev zWs (mm : zMeth) : List Cond := [Cond.code (zMY mm) (zMC mm) (zML mm) (zMR mm)]
theorem zPre.blind {Z : zPar} {M : zMem} {As : List Value} : FrameBlind (va_Pc As (zPre Z M)) := by
  intro a U g mk h
  obtain ⟨h0, h1, h2, h3, h4, h5⟩ := h
  refine ⟨h0, h1, ?_, va_K.moved (u := U) (U := U.calling g mk a) (Vm.Alike.refl U.vm) h3, ?_, h5⟩
  · exact h2.warm (State.WarmedH.refl U)
  · exact zEnv.warm (U := U.calling g mk a) h4 (State.WarmedH.refl U) (fun _ _ _ => rfl)
set_option maxHeartbeats 1000000 in
theorem zmet {Z : zPar} {l : Launch} {d : Nat} {mm : zMeth} {As : List Value} {M : zMem} {mc ms : Nat} {Q : zO → zMem → Prop} (hl : l.stackTraces = false) (hh : zMH mm = []) (hp : plainName (zMY mm).cls = true) (hA : (lg_sl As).length ≤ zML mm)
    (h : zX Z l d mm 0 (lv_args 0 As) [] M mc ms Q) : vx_Met l (zMY mm) (zWs mm) (zRm d mc ms) (va_Pc As (zPre Z M)) (zQc Z Q) (zXC Z Q) mc ms (zA Z) := by
  refine vx_ofW (cc := zMC mm) (maxL := zML mm) (ret := zMR mm) hp rfl ?_
  intro p e s m args below meth c s₁ B hml hno hv
  obtain ⟨rfl, hb, hW, hK, hE, hM⟩ := hv
  have hrc : (headSpec (zWs mm) (zRm d mc ms)).room = zRm d mc ms := rfl
  rw [lg_entry_eq]
  have hlv := lv_entry As (n := zML mm) hA
  generalize (lg_sl As ++ List.replicate (zML mm - (lg_sl As).length) Slot.unset).toArray = ls at hlv ⊢
  have hx := B.exec
  have hcb := B.bytes
  have hr := B.returns
  have hlocks := B.notSynchronized
  have htab : c.exceptionTable.toList = tableOf (zMH mm) := by
    rw [hh]
    cases h9 : c.exceptionTable.toList with
    | nil => rfl
    | cons x xs => exact (hno x (by rw [h9]; exact List.mem_cons_self)).elim
  have hnil : ∀ pc x, x ∈ c.exceptionTable.toList → covers x pc = false := fun pc x hxm => (hno x hxm).elim
  have C : zCtx Z l d mm p (zRm d mc ms) s m meth c := ⟨hx, hcb, hml, findClass_of_methodNamed B.named, hr, hlocks, (name_of_methodNamed B.named B.method).1, htab, hl, hW, hK, hE, hb, Nat.le_refl _, Nat.le_refl _⟩
  refine h p e (zRm d mc ms) s m As.toArray below meth c s.heap [] 0 0 _ ls C hlv hM va_S.rf (by simp) (by simp) ⟨?_, ?_, ?_⟩
  · intro v M' H locs cells slots pc ls' hQ hM' hS hc hs hret
    refine W.widen (k := mc) (n := ms) hc hs (vx_ret ?_)
    have hq : ∀ t : State, t.heap = H → s.WarmedH t.vm → zQc Z Q As.toArray s (.returned v) t := fun t ht _ => ⟨⟨v, M', rfl, hQ, by rw [ht]; exact hM'⟩, hS.F ht⟩
    match v, hret, hq with
    | none, hret, hq => exact W.vret hx hcb (hr.trans hret.2) hq hS.2.2 hret.1 hlocks
    | some (.int x), hret, hq =>
      obtain ⟨h1, ty, h2, h3⟩ := hret
      exact W.zret hx hcb (hr.trans h2) h3 hq hS.2.2 h1 hlocks
    | some (.long x), hret, hq => exact W.lret hx hcb (hr.trans hret.2) hq hS.2.2 hret.1 hlocks
    | some (.float x), hret, hq => exact W.fret hx hcb (hr.trans hret.2) hq hS.2.2 hret.1 hlocks
    | some (.double x), hret, hq => exact W.dret hx hcb (hr.trans hret.2) hq hS.2.2 hret.1 hlocks
    | some .null, hret, hq =>
      obtain ⟨h1, ty, h2, h3⟩ := hret
      exact W.aret hx hcb (hr.trans h2) h3 (Or.inl rfl) hq hS.2.2 h1 hlocks
    | some (.ref a), hret, hq =>
      obtain ⟨h1, ty, h2, h3⟩ := hret
      exact W.aret hx hcb (hr.trans h2) h3 (Or.inr ⟨a, rfl⟩) hq hS.2.2 h1 hlocks
    | some (.retAddr a), hret, hq => exact hret.elim
  · intro k M' H locs cells slots pc ls' rest q ce hQ hM' hS hc hs hce hcv hcl hcov
    exact vx_out (hnil pc) hlocks hce hcv hcl (fun t ht _ => ⟨k, M', rfl, hQ, by rw [ht]; exact hM', hS.F ht⟩) hS.2.2 hc hs
  · intro k M' H locs cells slots pc ik is ic text ls' rest hQ hM' hS hc hs hsz hrest hthr hcov
    obtain ⟨⟨d0, d3⟩, dd, hfit, hstr, hwords⟩ := hthr
    obtain ⟨sa, hsa⟩ := hE.2.2.2.2.1 _ hstr
    have e1 : zXs.length + 3 < (zRm d mc ms).frames := by
      show (2 : Nat) + 3 < 8 * d + 8
      omega
    have e2 : (rest.map fun v => v.category).sum + (13 * (zXs.length + 1) + 43) ≤ (zRm d mc ms).locals := by
      show _ ≤ 64 * d + 256
      have : (13 * (zXs.length + 1) + 43) = 82 := rfl
      omega
    have e3 : ∀ t : State, s.vm.Alike t.vm → H.size ≤ t.heap.size → (∀ q : Nat, q < H.size → t.heap[q]? = H[q]?) → zXC Z Q (zXN k) s t := by
      intro t _ hz hk
      have hz0 : s.heap.size ≤ H.size := hS.1
      exact ⟨k, M', rfl, hQ, hM'.kept hk, Nat.le_trans hz0 hz, fun q h1 h2 => by rw [hk q (Nat.lt_of_lt_of_le h1 hz0)]; exact hS.2.1 q h1 h2⟩
    rcases hwords with hwords | ⟨ix, rx, ⟨x0, x1, x2, x5⟩, hwords⟩
    · have hu : ∀ w ∈ Cond.classLink (zMY mm).cls ik (zXN k) :: Cond.initialized (zXN k) :: vx_atS (zMY mm).cls ic (zXN k) zXs, w.before As.toArray s = true := fun w hw => hW.use (hwords w hw).1 (hwords w hw).2.1
      rcases dd with ⟨d4, d6, d9⟩ | ⟨d4, d6, d9⟩
      · exact vx_throwS (A := zA Z) hx hcb hl C.2.2.2.1 hfit (by decide +kernel) (hu _ List.mem_cons_self) (hu _ (List.mem_cons_of_mem _ List.mem_cons_self)) hsa (fun w hw => hu w (List.mem_cons_of_mem _ (List.mem_cons_of_mem _ hw))) (fun w hw => (hwords w hw).2.2) hE.2.2.1 hE.2.2.2.1 hS hsz d0 d3 d4 d6 d9 (hnil (pc + 9)) e1 e2 hc hs hlocks e3 hS.2.2 hc hs
      · exact vx_throwSW (A := zA Z) hx hcb hl C.2.2.2.1 hfit (by decide +kernel) (hu _ List.mem_cons_self) (hu _ (List.mem_cons_of_mem _ List.mem_cons_self)) hsa (fun w hw => hu w (List.mem_cons_of_mem _ (List.mem_cons_of_mem _ hw))) (fun w hw => (hwords w hw).2.2) hE.2.2.1 hE.2.2.2.1 hS hsz d0 d3 d4 d6 d9 (hnil (pc + 10)) e1 e2 hc hs hlocks e3 hS.2.2 hc hs
    · have hu : ∀ w ∈ Cond.classLink (zMY mm).cls ik (zXN k) :: Cond.initialized (zXN k) :: zatX (zMY mm).cls ic (zXN k) ix rx zXs, w.before As.toArray s = true := fun w hw => hW.use (hwords w hw).1 (hwords w hw).2.1
      rcases dd with ⟨d4, d6, d9⟩ | ⟨d4, d6, d9⟩
      · exact zthrowX (A := zA Z) hx hcb hl x0 x1 x2 x5 C.2.2.2.1 hfit (by decide +kernel) (hu _ List.mem_cons_self) (hu _ (List.mem_cons_of_mem _ List.mem_cons_self)) hsa (fun w hw => hu w (List.mem_cons_of_mem _ (List.mem_cons_of_mem _ hw))) (fun w hw => (hwords w hw).2.2) hE.2.2.1 hE.2.2.2.1 hS hsz d0 d3 d4 d6 d9 (hnil (pc + 9)) e1 e2 hc hs hlocks e3 hS.2.2 hc hs
      · exact zthrowXW (A := zA Z) hx hcb hl x0 x1 x2 x5 C.2.2.2.1 hfit (by decide +kernel) (hu _ List.mem_cons_self) (hu _ (List.mem_cons_of_mem _ List.mem_cons_self)) hsa (fun w hw => hu w (List.mem_cons_of_mem _ (List.mem_cons_of_mem _ hw))) (fun w hw => (hwords w hw).2.2) hE.2.2.1 hE.2.2.2.1 hS hsz d0 d3 d4 d6 d9 (hnil (pc + 10)) e1 e2 hc hs hlocks e3 hS.2.2 hc hs
