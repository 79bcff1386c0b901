/-! RULES: calls. A callee is known by what its own frame, begun at its first instruction, comes to (zX at pc 0) -/
/-- a method that may be called: its words are there, it takes nargs things beside its object -/
def zMok (mm' : zMeth) (nargs : Nat) : Prop := zMH mm' = [] ∧ plainName (zMY mm').cls = true ∧ ((zMY mm').cls ≠ "java/lang/invoke/MethodHandle" ∧ (zMY mm').cls ≠ "java/lang/invoke/VarHandle") ∧ (parseMethodDescriptor (zMY mm').desc).map (fun d => d.parameters.length) = some nargs ∧ zML mm' ≤ 40 ∧ zwd (.code (zMY mm') (zMC mm') (zML mm') (zMR mm')) ∧ zwd (.initialized (zMY mm').cls)
def zHan (mm : zMeth) (pc k hpc : Nat) : Prop := k < 6 ∧ ∃ pre x suf, tableOf (zMH mm) = pre ++ x :: suf ∧ (∀ z ∈ pre, covers z pc = false ∨ (z.catchType ≠ 0 ∧ ∃ j, j < 6 ∧ j ≠ k ∧ zwd (.classLink (zMY mm).cls z.catchType (zXN j)))) ∧ covers x pc = true ∧ x.catchType ≠ 0 ∧ zwd (.classLink (zMY mm).cls x.catchType (zXN k)) ∧ zwd (.castable (zXN k) (zXN k)) ∧ x.handlerPc = hpc
set_option maxRecDepth 20000 in
theorem zarith (a d d' x : Nat) (h5 : a ≤ 40) (hd : d = d' + 1) (hl : 64 * d + 256 ≤ x) : 8 + (a + 11) + (64 * d' + 256) ≤ x := by omega
section ZRUN
variable {Z : zPar} {l : Launch} {p : Program} {e : Env} {R : Room} {s : State} {m : MethodId} {args : Array Value} {below : List Frame} {meth : Method} {c : Code} {H : Heap} {locs : List Loc} {cells slots mc ms : Nat} {QF : State → Prop} {pc : Nat} {ls : Array Slot} {rest st0 : List Value} {a : Array Value} {Post : zO → zMem → Prop}
theorem zrun (hr : vx_Run p l e R s m args below meth c H locs cells slots mc ms (F0 m pc ls st0) rest (zQc Z Post a) (zXC Z Post) (zA Z)) (hS : va_S (zA Z) s.heap H locs)
    (kx : ∀ (k : Nat) (M' : zMem) (ce : Cell) (q : Addr) (H1 : Heap) (locs1 : List Loc), Post (.inr k) M' → zRep Z M' H1 → va_S (zA Z) s.heap H1 locs1 → H1[q]? = some ce → ce.vm = .none → s.vm.findClass (zXN k) = some ce.cls → vx_W p l e R s m args below meth c H1 locs1 (cells + mc) (slots + ms) QF (F0 m pc ls rest) q)
    (kk : ∀ (v : Option Value) (M' : zMem) (H1 : Heap) (locs1 : List Loc), Post (.inl v) M' → zRep Z M' H1 → va_S (zA Z) s.heap H1 locs1 → W p l e R s m args below meth c H1 locs1 (cells + mc) (slots + ms) QF (F0 m (pc + 3) ls (v.toList ++ rest))) : W p l e R s m args below meth c H locs cells slots QF (F0 m pc ls st0) := by
  intro T hT X
  rcases hr T hT X with ⟨v, st₀, t, T', L, h0, X', hL, e1, e2, ⟨⟨v', M', hv, hq, hrep⟩, hF⟩, st⟩ | ⟨q, st₀, t, T', L, E, ce, h0, X', hL, e1, e2, ⟨k, M', hE, hq, hrep, hF⟩, hce, hcv, hcl, st⟩
  · cases hv
    obtain ⟨k1, k2, k3⟩ := vx_keep h0 e1 hS (fun q _ h => h) (fun q h => h) hL hF
    obtain ⟨t2, a1, b1⟩ := kk v M' T'.heap (locs ++ L) hq (by rw [e1]; exact hrep) k3 T' rfl X'
    exact ⟨t2, st t2 a1, b1⟩
  · obtain ⟨k1, k2, k3⟩ := vx_keep h0 e1 hS (fun q _ h => h) (fun q h => h) hL hF
    subst hE
    obtain ⟨t2, a1, b1⟩ := kx k M' ce q T'.heap (locs ++ L) hq (by rw [e1]; exact hrep) k3 (by rw [e1]; exact hce) hcv hcl T' rfl X'
    exact ⟨t2, st.trans a1, b1⟩
theorem zrun5 (hr : vx_Run5 p l e R s m args below meth c H locs cells slots mc ms (F0 m pc ls st0) rest (zQc Z Post a) (zXC Z Post) (zA Z)) (hS : va_S (zA Z) s.heap H locs)
    (kx : ∀ (k : Nat) (M' : zMem) (ce : Cell) (q : Addr) (H1 : Heap) (locs1 : List Loc), Post (.inr k) M' → zRep Z M' H1 → va_S (zA Z) s.heap H1 locs1 → H1[q]? = some ce → ce.vm = .none → s.vm.findClass (zXN k) = some ce.cls → vx_W p l e R s m args below meth c H1 locs1 (cells + mc) (slots + ms) QF (F0 m pc ls rest) q)
    (kk : ∀ (v : Option Value) (M' : zMem) (H1 : Heap) (locs1 : List Loc), Post (.inl v) M' → zRep Z M' H1 → va_S (zA Z) s.heap H1 locs1 → W p l e R s m args below meth c H1 locs1 (cells + mc) (slots + ms) QF (F0 m (pc + 5) ls (v.toList ++ rest))) : W p l e R s m args below meth c H locs cells slots QF (F0 m pc ls st0) := by
  intro T hT X
  rcases hr T hT X with ⟨v, st₀, t, T', L, h0, X', hL, e1, e2, ⟨⟨v', M', hv, hq, hrep⟩, hF⟩, st⟩ | ⟨q, st₀, t, T', L, E, ce, h0, X', hL, e1, e2, ⟨k, M', hE, hq, hrep, hF⟩, hce, hcv, hcl, st⟩
  · cases hv
    obtain ⟨k1, k2, k3⟩ := vx_keep h0 e1 hS (fun q _ h => h) (fun q h => h) hL hF
    obtain ⟨t2, a1, b1⟩ := kk v M' T'.heap (locs ++ L) hq (by rw [e1]; exact hrep) k3 T' rfl X'
    exact ⟨t2, st t2 a1, b1⟩
  · obtain ⟨k1, k2, k3⟩ := vx_keep h0 e1 hS (fun q _ h => h) (fun q h => h) hL hF
    subst hE
    obtain ⟨t2, a1, b1⟩ := kx k M' ce q T'.heap (locs ++ L) hq (by rw [e1]; exact hrep) k3 (by rw [e1]; exact hce) hcv hcl T' rfl X'
    exact ⟨t2, st.trans a1, b1⟩
theorem zrunP (hr : va_Run p l e R s m args below meth c H locs cells slots mc ms (F0 m pc ls st0) rest (zQc Z Post a) (zA Z)) (hS : va_S (zA Z) s.heap H locs)
    (kk : ∀ (v : Option Value) (M' : zMem) (H1 : Heap) (locs1 : List Loc), Post (.inl v) M' → zRep Z M' H1 → va_S (zA Z) s.heap H1 locs1 → W p l e R s m args below meth c H1 locs1 (cells + mc) (slots + ms) QF (F0 m (pc + 3) ls (v.toList ++ rest))) : W p l e R s m args below meth c H locs cells slots QF (F0 m pc ls st0) := by
  intro T hT X
  obtain ⟨v, st₀, t, T', L, h0, X', hL, e1, e2, ⟨⟨v', M', hv, hq, hrep⟩, hF⟩, st⟩ := hr T hT X
  cases hv
  obtain ⟨k1, k2, k3⟩ := vx_keep h0 e1 hS (fun q _ h => h) (fun q h => h) hL hF
  obtain ⟨t2, a1, b1⟩ := kk v M' T'.heap (locs ++ L) hq (by rw [e1]; exact hrep) k3 T' rfl X'
  exact ⟨t2, st t2 a1, b1⟩
end ZRUN
theorem zCtx.pre {Z : zPar} {l : Launch} {d : Nat} {mm : zMeth} {p : Program} {R : Room} {s : State} {m : MethodId} {meth : Method} {c : Code} {M : zMem} {H : Heap} {locs : List Loc} (C : zCtx Z l d mm p R s m meth c) (hM : zRep Z M H) (hS : va_S (zA Z) s.heap H locs) : ∀ U : State, U.heap = H → s.WarmedH U.vm → zPre Z M U := by
  intro U hU hW
  refine ⟨?_, C.2.2.2.2.2.2.2.2.2.1.warm hW, va_K.moved hW.alike C.2.2.2.2.2.2.2.2.2.2.1, ?_, by rw [hU]; exact hM⟩
  · rw [hU]
    exact Nat.le_trans C.2.2.2.2.2.2.2.2.2.2.2.2.1 hS.1
  · rw [hU]
    exact C.2.2.2.2.2.2.2.2.2.2.2.1.warm hW (fun a h1 h2 => hS.2.1 a h1 h2)
theorem zCtx.callB {Z : zPar} {l : Launch} {d d' : Nat} {mm mm' : zMeth} {p : Program} {R : Room} {s : State} {m : MethodId} {meth : Method} {c : Code} {mc ms nargs ix : Nat} (args : Array Value) (C : zCtx Z l d mm p R s m meth c) (hm : zMok mm' nargs) (hd : d = d' + 1) (hw : zwd (.methodLink (zMY mm).cls ix (zMY mm'))) : CallB R s args (zMY mm).cls ix (zMY mm') (zMC mm') (zML mm') (zMR mm') (zWs mm') (zRm d' mc ms) mc ms nargs := by
  obtain ⟨h1, h2, h3, h4, h5, h6, h7⟩ := hm
  have hW := C.2.2.2.2.2.2.2.2.2.1
  have hf := C.2.2.2.2.2.2.2.2.2.2.2.2.2.1
  have hl := C.2.2.2.2.2.2.2.2.2.2.2.2.2.2
  refine ⟨rfl, rfl, ?_, ?_, fun w hw' a' U hWm => ?_, List.mem_cons_self, hW.use h6.1 h6.2, hW.use h7.1 h7.2, h3, fun sig h => ?_, hW.use hw.1 hw.2⟩
  · show 8 * d' + 8 + 1 ≤ _
    omega
  · exact zarith _ _ _ _ h5 hd hl
  · rw [List.mem_singleton] at hw'
    subst hw'
    exact (hW.warm hWm).use h6.1 h6.2
  · rw [h] at h4
    exact (Option.some.inj h4).symm
theorem zCtx.callN {Z : zPar} {l : Launch} {d d' : Nat} {mm mm' : zMeth} {p : Program} {R : Room} {s : State} {m : MethodId} {meth : Method} {c : Code} {mc ms nargs ix : Nat} {host : String} (args : Array Value) (C : zCtx Z l d mm p R s m meth c) (hm : zMok mm' nargs) (hd : d = d' + 1) (hw : zwd (.methodLinkNest (zMY mm).cls ix (zMY mm') host)) : va_CN R s args (zMY mm).cls ix (zMY mm') host (zMC mm') (zML mm') (zMR mm') (zWs mm') (zRm d' mc ms) mc ms nargs := by
  obtain ⟨h1, h2, h3, h4, h5, h6, h7⟩ := hm
  have hW := C.2.2.2.2.2.2.2.2.2.1
  have hf := C.2.2.2.2.2.2.2.2.2.2.2.2.2.1
  have hl := C.2.2.2.2.2.2.2.2.2.2.2.2.2.2
  refine ⟨⟨rfl, rfl, ?_, ?_, fun w hw' a' U hWm => ?_, List.mem_cons_self⟩, hW.use h6.1 h6.2, hW.use h7.1 h7.2, h3, fun sig h => ?_, hW.use hw.1 hw.2⟩
  · show 8 * d' + 8 + 1 ≤ _
    omega
  · exact zarith _ _ _ _ h5 hd hl
  · rw [List.mem_singleton] at hw'
    subst hw'
    exact (hW.warm hWm).use h6.1 h6.2
  · rw [h] at h4
    exact (Option.some.inj h4).symm
theorem zcat : ∀ (st : List Value), (st.map fun v => v.category).sum ≤ 2 * st.length
  | [] => Nat.le_refl _
  | v :: r => by
    have h := zcat r
    have hv : v.category ≤ 2 := by cases v <;> simp [Value.category]
    simp only [List.map_cons, List.sum_cons, List.length_cons]
    omega
section ZCALLS
variable {Z : zPar} {l : Launch} {d d' : Nat} {mm mm' : zMeth} {pc n nc ns ix nargs mc ms nc1 ns1 : Nat} {L : List (Nat × Value)} {st st0 As : List Value} {M : zMem} {Q Post : zO → zMem → Prop}
/-- what follows when the callee throws k -/
def zHx (Z : zPar) (l : Launch) (d : Nat) (mm : zMeth) (pc : Nat) (L : List (Nat × Value)) (nc ns : Nat) (Q : zO → zMem → Prop) (k : Nat) (M : zMem) : Prop := (zMH mm = [] ∧ Q (.inr k) M) ∨ ∃ hpc, zHan mm pc k hpc ∧ ∀ q, zX Z l d mm hpc L [.ref q] M nc ns Q
theorem zHx.go {p : Program} {e : Env} {R : Room} {s : State} {m : MethodId} {args : Array Value} {below : List Frame} {meth : Method} {c : Code} {H : Heap} {locs : List Loc} {cells slots : Nat} {QF : State → Prop} {ls : Array Slot} {rest : List Value} {k : Nat} {q : Addr} {ce : Cell} (hx : zHx Z l d mm pc L nc ns Q k M)
    (C : zCtx Z l d mm p R s m meth c) (hl : lv_has ls (zML mm) L) (hM : zRep Z M H) (hS : va_S (zA Z) s.heap H locs) (hc : cells + nc ≤ R.cells) (hs : slots + ns ≤ R.slots) (hE : zExit Z l mm p e R s m args below meth c Q QF) (hce : H[q]? = some ce) (hcv : ce.vm = .none) (hcl : s.vm.findClass (zXN k) = some ce.cls) : vx_W p l e R s m args below meth c H locs cells slots QF (F0 m pc ls rest) q := by
  rcases hx with ⟨hh, hq⟩ | ⟨hpc, ⟨hk, pre, x, suf, hsp, hpass, hcov, h0, hlk, hca, rfl⟩, hz⟩
  · exact hE.2.1 k M H locs cells slots pc ls rest q ce hq hM hS (by omega) (by omega) hce hcv hcl (fun x hx => by rw [hh] at hx; cases hx)
  · have hW := C.2.2.2.2.2.2.2.2.2.1
    have hEn := C.2.2.2.2.2.2.2.2.2.2.2.1
    refine vx_catch (name := zXN k) C.2.2.2.1 pre x suf (C.2.2.2.2.2.2.2.1.trans hsp) (fun z hz' => ?_) hcov h0 (hW.use hlk.1 hlk.2) (hW.use hca.1 hca.2) hce hcv hcl (hz q p e R s m args below meth c H locs cells slots QF ls C hl hM hS hc hs hE)
    rcases hpass z hz' with h | ⟨h1, j, hj, hjk, hjw⟩
    · exact Or.inl h
    · exact Or.inr ⟨h1, zXN j, hW.use hjw.1 hjw.2, hEn.2.2.2.2.2.1 k j hk hj (Ne.symm hjk)⟩
theorem zs_invS (hd : decode (zMC mm) pc = .ok (.invokestatic ix, 3)) (hm : zMok mm' nargs) (hw : zwd (.methodLink (zMY mm).cls ix (zMY mm')) ∧ zwd (.static (zMY mm'))) (hAs : As.length = nargs) (hfit : (lg_sl As).length ≤ zML mm') (hst : st.length ≤ 4) (hdd : d = d' + 1) (hc1 : nc1 + mc ≤ nc) (hs1 : ns1 + ms ≤ ns) (hstk : st0 = As.reverse ++ st) (hn : pc + 3 = n)
    (h : zX Z l d' mm' 0 (lv_args 0 As) [] M mc ms Post) (kx : ∀ k M', Post (.inr k) M' → zHx Z l d mm pc L nc1 ns1 Q k M') (kk : ∀ v M', Post (.inl v) M' → zX Z l d mm n L (v.toList ++ st) M' nc1 ns1 Q) : zX Z l d mm pc L st0 M nc ns Q := by
  subst hn
  intro p e R s m args below meth c H locs cells slots QF ls C hl hM hS hc hs hE
  have hW := C.2.2.2.2.2.2.2.2.2.1
  have hcat := zcat st
  refine zrun (vx_runS (As := As) (rest := st) (Ts := []) (g := F0 m pc ls st0) ⟨C.1, C.2.1, C.2.2.1, C.2.2.2.1, fun w h => nomatch h⟩ (zmet C.2.2.2.2.2.2.2.2.1 hm.1 hm.2.1 hfit h) ⟨C.callB args hm hdd hw.1, hW.use hw.2.1 hw.2.2⟩ ⟨zPre.blind, fun U hU hWm => ⟨rfl, C.pre hM hS U hU hWm⟩⟩ rfl hAs hl.1 hstk (by show 2 * 0 + _ ≤ 8; omega) hd ⟨by omega, by omega⟩) hS ?_ ?_
  · intro k M' ce q H1 locs1 hp hM1 hS1 hce hcv hcl
    exact (kx k M' hp).go C hl hM1 hS1 (by omega) (by omega) hE hce hcv hcl
  · intro v M' H1 locs1 hp hM1 hS1
    exact kk v M' hp p e R s m args below meth c H1 locs1 (cells + mc) (slots + ms) QF ls C hl hM1 hS1 (by omega) (by omega) hE
theorem zs_invSN {host : String} (hd : decode (zMC mm) pc = .ok (.invokestatic ix, 3)) (hm : zMok mm' nargs) (hw : zwd (.methodLinkNest (zMY mm).cls ix (zMY mm') host) ∧ zwd (.static (zMY mm'))) (hAs : As.length = nargs) (hfit : (lg_sl As).length ≤ zML mm') (hst : st.length ≤ 4) (hdd : d = d' + 1) (hc1 : nc1 + mc ≤ nc) (hs1 : ns1 + ms ≤ ns) (hstk : st0 = As.reverse ++ st) (hn : pc + 3 = n)
    (h : zX Z l d' mm' 0 (lv_args 0 As) [] M mc ms Post) (kx : ∀ k M', Post (.inr k) M' → zHx Z l d mm pc L nc1 ns1 Q k M') (kk : ∀ v M', Post (.inl v) M' → zX Z l d mm n L (v.toList ++ st) M' nc1 ns1 Q) : zX Z l d mm pc L st0 M nc ns Q := by
  subst hn
  intro p e R s m args below meth c H locs cells slots QF ls C hl hM hS hc hs hE
  have hW := C.2.2.2.2.2.2.2.2.2.1
  have hcat := zcat st
  refine zrun (vx_runSN (As := As) (rest := st) (Ts := []) (g := F0 m pc ls st0) ⟨C.1, C.2.1, C.2.2.1, C.2.2.2.1, fun w h => nomatch h⟩ (zmet C.2.2.2.2.2.2.2.2.1 hm.1 hm.2.1 hfit h) ⟨C.callN args hm hdd hw.1, hW.use hw.2.1 hw.2.2, trivial⟩ ⟨zPre.blind, fun U hU hWm => ⟨rfl, C.pre hM hS U hU hWm⟩⟩ rfl hAs hl.1 hstk (by show 2 * 0 + _ ≤ 8; omega) hd ⟨by omega, by omega⟩) hS ?_ ?_
  · intro k M' ce q H1 locs1 hp hM1 hS1 hce hcv hcl
    exact (kx k M' hp).go C hl hM1 hS1 (by omega) (by omega) hE hce hcv hcl
  · intro v M' H1 locs1 hp hM1 hS1
    exact kk v M' hp p e R s m args below meth c H1 locs1 (cells + mc) (slots + ms) QF ls C hl hM1 hS1 (by omega) (by omega) hE
/-- the receiver of a call: one of our objects, of class C -/
theorem zRecv {p : Program} {R : Room} {s : State} {m : MethodId} {meth : Method} {c : Code} {H : Heap} {b ci : Nat} {r : vw_C} (C : zCtx Z l d mm p R s m meth c) (hM : zRep Z M H) (hK : mK M b = 10 + ci) (hr : vwCl[ci]? = some r) : ∃ cell : Cell, H[b]? = some cell ∧ cell.vm.isStatics = false ∧ s.vm.findClass r.1 = some cell.cls := by
  obtain ⟨ws, hP, hD, hI, hC⟩ := hM
  obtain ⟨q0, hq0⟩ := hI b ⟨by omega, by omega, by omega⟩
  rw [zEnt_obj hK] at hq0
  exact va_recv C.2.2.2.2.2.2.2.2.2.2.1 hP hr hq0
/-- a method of an object, found in its own class -/
theorem zs_invV {b ci : Nat} {r : vw_C} (hd : decode (zMC mm) pc = .ok (.invokevirtual ix, 3)) (hm : zMok mm' nargs) (hw : zwd (.methodLink (zMY mm).cls ix (zMY mm')) ∧ zwd (.instanceMethod (zMY mm')) ∧ zwd (.selects r.1 (zMY mm') (zMY mm'))) (hr : vwCl[ci]? = some r) (hK : mK M b = 10 + ci) (hAs : As.length = nargs) (hfit : (lg_sl (.ref b :: As)).length ≤ zML mm') (hst : st.length ≤ 4) (hdd : d = d' + 1) (hc1 : nc1 + mc ≤ nc) (hs1 : ns1 + ms ≤ ns) (hstk : st0 = As.reverse ++ .ref b :: st) (hn : pc + 3 = n)
    (h : zX Z l d' mm' 0 (lv_args 0 (.ref b :: As)) [] M mc ms Post) (kx : ∀ k M', Post (.inr k) M' → zHx Z l d mm pc L nc1 ns1 Q k M') (kk : ∀ v M', Post (.inl v) M' → zX Z l d mm n L (v.toList ++ st) M' nc1 ns1 Q) : zX Z l d mm pc L st0 M nc ns Q := by
  subst hn
  intro p e R s m args below meth c H locs cells slots QF ls C hl hM hS hc hs hE
  have hW := C.2.2.2.2.2.2.2.2.2.1
  have hcat := zcat st
  refine zrun (vx_runV (C := r.1) (b := b) (As := As) (rest := st) (Ts := []) (g := F0 m pc ls st0) ⟨C.1, C.2.1, C.2.2.1, C.2.2.2.1, fun w h => nomatch h⟩ (zmet C.2.2.2.2.2.2.2.2.1 hm.1 hm.2.1 hfit h) ⟨C.callB args hm hdd hw.1, hW.use hw.2.1.1 hw.2.1.2, hW.use hw.2.2.1 hw.2.2.2⟩ ⟨zPre.blind, zRecv C hM hK hr, fun U hU hWm => ⟨rfl, C.pre hM hS U hU hWm⟩⟩ rfl hAs hl.1 hstk (by show 2 * 0 + _ ≤ 8; omega) hd ⟨by omega, by omega⟩) hS ?_ ?_
  · intro k M' ce q H1 locs1 hp hM1 hS1 hce hcv hcl
    exact (kx k M' hp).go C hl hM1 hS1 (by omega) (by omega) hE hce hcv hcl
  · intro v M' H1 locs1 hp hM1 hS1
    exact kk v M' hp p e R s m args below meth c H1 locs1 (cells + mc) (slots + ms) QF ls C hl hM1 hS1 (by omega) (by omega) hE
/-- a constructor -/
theorem zs_invI {b : Nat} (hd : decode (zMC mm) pc = .ok (.invokespecial ix, 3)) (hm : zMok mm' nargs) (hw : zwd (.methodLink (zMY mm).cls ix (zMY mm')) ∧ zwd (.instanceMethod (zMY mm')) ∧ (zMY mm').name = "<init>" ∧ zMR mm' = none) (hAs : As.length = nargs) (hfit : (lg_sl (.ref b :: As)).length ≤ zML mm') (hst : st.length ≤ 4) (hdd : d = d' + 1) (hc1 : nc1 + mc ≤ nc) (hs1 : ns1 + ms ≤ ns) (hstk : st0 = As.reverse ++ .ref b :: st) (hn : pc + 3 = n)
    (h : zX Z l d' mm' 0 (lv_args 0 (.ref b :: As)) [] M mc ms Post) (kx : ∀ k M', Post (.inr k) M' → zHx Z l d mm pc L nc1 ns1 Q k M') (kk : ∀ v M', Post (.inl v) M' → zX Z l d mm n L (v.toList ++ st) M' nc1 ns1 Q) : zX Z l d mm pc L st0 M nc ns Q := by
  subst hn
  intro p e R s m args below meth c H locs cells slots QF ls C hl hM hS hc hs hE
  have hW := C.2.2.2.2.2.2.2.2.2.1
  have hcat := zcat st
  have hcb := C.callB (mc := mc) (ms := ms) args hm hdd hw.1
  rw [hw.2.2.2] at hcb
  refine zrun (vx_runI (b := b) (As := As) (rest := st) (Ts := []) (g := F0 m pc ls st0) ⟨C.1, C.2.1, C.2.2.1, C.2.2.2.1, fun w h => nomatch h⟩ (zmet C.2.2.2.2.2.2.2.2.1 hm.1 hm.2.1 hfit h) ⟨hcb, hw.2.2.1, hW.use hw.2.1.1 hw.2.1.2⟩ ⟨zPre.blind, fun U hU hWm => ⟨rfl, C.pre hM hS U hU hWm⟩⟩ rfl hAs hl.1 hstk (by show 2 * 0 + _ ≤ 8; omega) hd ⟨by omega, by omega⟩) hS ?_ ?_
  · intro k M' ce q H1 locs1 hp hM1 hS1 hce hcv hcl
    exact (kx k M' hp).go C hl hM1 hS1 (by omega) (by omega) hE hce hcv hcl
  · intro v M' H1 locs1 hp hM1 hS1
    exact kk v M' hp p e R s m args below meth c H1 locs1 (cells + mc) (slots + ms) QF ls C hl hM1 hS1 (by omega) (by omega) hE
/-- by an interface: x is what the code names, mm' what the receiver's class has -/
theorem zs_invF {b ci cnt : Nat} {r : vw_C} {x : MethodName} (hd : decode (zMC mm) pc = .ok (.invokeinterface ix cnt, 5)) (hm : zMok mm' nargs) (hw : zwd (.methodLink (zMY mm).cls ix x) ∧ zwd (.declares x) ∧ zwd (.interfaceMethod x.cls x.cls x.name x.desc) ∧ zwd (.selects r.1 x (zMY mm')) ∧ zwd (.instanceMethod (zMY mm')) ∧ zwd (.publicMethod (zMY mm')) ∧ zwd (.unhidden r.1 x.name x.desc) ∧ zwd (.castable r.1 x.cls)) (hx : (x.cls ≠ "java/lang/invoke/MethodHandle" ∧ x.cls ≠ "java/lang/invoke/VarHandle") ∧ (parseMethodDescriptor x.desc).map (fun d => d.parameters.length) = some nargs) (hr : vwCl[ci]? = some r) (hK : mK M b = 10 + ci) (hAs : As.length = nargs) (hfit : (lg_sl (.ref b :: As)).length ≤ zML mm') (hst : st.length ≤ 4) (hdd : d = d' + 1) (hc1 : nc1 + mc ≤ nc) (hs1 : ns1 + ms ≤ ns) (hstk : st0 = As.reverse ++ .ref b :: st) (hn : pc + 5 = n)
    (h : zX Z l d' mm' 0 (lv_args 0 (.ref b :: As)) [] M mc ms Post) (kx : ∀ k M', Post (.inr k) M' → zHx Z l d mm pc L nc1 ns1 Q k M') (kk : ∀ v M', Post (.inl v) M' → zX Z l d mm n L (v.toList ++ st) M' nc1 ns1 Q) : zX Z l d mm pc L st0 M nc ns Q := by
  subst hn
  intro p e R s m args below meth c H locs cells slots QF ls C hl hM hS hc hs hE
  have hW := C.2.2.2.2.2.2.2.2.2.1
  have hcat := zcat st
  obtain ⟨h1, h2, h3, h4, h5, h6, h7⟩ := hm
  have hf := C.2.2.2.2.2.2.2.2.2.2.2.2.2.1
  have hlo := C.2.2.2.2.2.2.2.2.2.2.2.2.2.2
  obtain ⟨w1, w2, w3, w4, w5, w6, w7, w8⟩ := hw
  have cw : va_CI R s args (zMY mm).cls r.1 ix x (zMY mm') (zMC mm') (zML mm') (zMR mm') (zWs mm') (zRm d' mc ms) mc ms nargs := by
    refine ⟨⟨rfl, rfl, ?_, ?_, fun w hw' a' U hWm => ?_, List.mem_cons_self⟩, hW.use w1.1 w1.2, hW.use w2.1 w2.2, hW.use w3.1 w3.2, hW.use w4.1 w4.2, hW.use w5.1 w5.2, hW.use w6.1 w6.2, hW.use w7.1 w7.2, hW.use w8.1 w8.2, hW.use h7.1 h7.2, hW.use h6.1 h6.2, hx.1, fun sig h => ?_⟩
    · show 8 * d' + 8 + 1 ≤ _
      omega
    · exact zarith _ _ _ _ h5 hdd hlo
    · rw [List.mem_singleton] at hw'
      subst hw'
      exact (hW.warm hWm).use h6.1 h6.2
    · have h9 := hx.2
      rw [h] at h9
      exact (Option.some.inj h9).symm
  refine zrun5 (vx_runF (C := r.1) (b := b) (As := As) (rest := st) (Ts := []) (g := F0 m pc ls st0) (C.2.2.2.2.2.2.2.2.2.2.1.1 ci r hr).2 ⟨C.1, C.2.1, C.2.2.1, C.2.2.2.1, fun w h => nomatch h⟩ (zmet C.2.2.2.2.2.2.2.2.1 h1 h2 hfit h) cw ⟨zPre.blind, zRecv C hM hK hr, fun U hU hWm => ⟨rfl, C.pre hM hS U hU hWm⟩⟩ rfl hAs hl.1 hstk (by show 2 * 0 + _ ≤ 8; omega) hd ⟨by omega, by omega⟩) hS ?_ ?_
  · intro k M' ce q H1 locs1 hp hM1 hS1 hce hcv hcl
    exact (kx k M' hp).go C hl hM1 hS1 (by omega) (by omega) hE hce hcv hcl
  · intro v M' H1 locs1 hp hM1 hS1
    exact kk v M' hp p e R s m args below meth c H1 locs1 (cells + mc) (slots + ms) QF ls C hl hM1 hS1 (by omega) (by omega) hE
end ZCALLS
