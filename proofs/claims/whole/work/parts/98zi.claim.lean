/-! THE CLAIM OUT OF ONE WALK OF THE LAW'S BODY. Your part is whole_start (and what it stands on); all else here is the same for every law, but numbers. -/
def R_law : String := "HatpitchLaw"
def lw_P (b : Addr) (xs : List Int32) (args : Array Value) (s : State) : Prop := args = #[.ref b] ∧ s.IntsAt b xs ∧ xs.length ≤ 3072 ∧ (Jvm.Cond.and given_1 narrow_1).before args s = true
/-- what a walk over the start with the record d0 says of its end, said of the start itself -/
theorem lw_closed {s t : State} {o : Outcome} {d0 : Drawn} {L : List Loc} {k n : Nat} (hd0 : s.drawn.sameBut d0 lw_cs) (hv : ∃ v, o = .returned v) (hW : (s.setDrawn d0).WarmedH t.vm) (hs : (s.setDrawn d0).sameButNew ({ t with vm := s.vm } : State) L k n) : State.butDraws s t lw_cs (fun t1 => Framed s o t1 L k n) := by
  have h2 : t.drawn = d0 := congrArg State.drawn hs.1
  refine ⟨⟨hv, hW, State.sameButNew.setDrawn hs s.drawn⟩, ?_, by decide⟩
  rw [h2]
  exact hd0
def lw_Q (_ : Array Value) (s : State) (o : Outcome) (t : State) : Prop := o = .returned (some (.int 1)) ∧ State.butDraws s t lw_cs (fun t1 => Framed s o t1 [] 603072 7211114)
def lw_Z (below : List Frame) (a : Array Value) (s : State) : State → Prop := fun t => ∃ o, t.status = .running ∧ Ended t below o ∧ lw_Q a s o t
/-- the law's own end, with 1 on the stack, nothing written that was there before, its room as the claim has it; d0: the record of draws at this point (at the entry s.drawn: begin with 'refine W.base ?_' and 'have hd0 := Drawn.sameBut.refl s.drawn lw_cs') -/
theorem lw_ret {p : Program} {l : Launch} {e : Env} {s : State} {m : MethodId} {below : List Frame} {meth : Method} {c : Code} {b : Nat} {d0 : Drawn} (hd0 : s.drawn.sameBut d0 lw_cs) (hx : p.tables.exec = Jvm.exec) (hb : c.code = code) (hr : meth.sig.returnType = ret) (hlocks : meth.locks = false) {pc : Nat} {H : Heap} {ls : Array Slot} (hdg : decode code pc = .ok (.ireturn, 1)) : W p l e room_1 (s.setDrawn d0) m #[Value.ref b] below meth c H [] 603072 7211114 (lw_Z below #[Value.ref b] s) (F0 m pc ls [.int 1]) := by
  intro T hT X
  obtain ⟨fs, hret, hrun, hended, hW, hframe⟩ := X.leave (v := some (.int 1)) (hlocks := hlocks) (fun h => by rw [hr] at h; cases h)
  have hmeth' : T.vm.method? m = some meth := X.method'
  refine ⟨T.setFrames fs, ?_, .returned (some (.int 1)), hrun, hended, rfl, lw_closed hd0 ⟨_, rfl⟩ hW hframe⟩
  jvm_step X.here [X.here.top, hx, hb, hdg, hmeth', hr, ret, narrow_b1]
  (try refine ⟨rfl, ?_⟩); (try refine ⟨rfl, ?_⟩)
  first | (intro acts; rw [hret _ acts rfl rfl rfl]) | rw [hret _ _ rfl rfl rfl]
  exact Steps.refl _
/-- what holds at the law's entry: the machine, the code, the tables' words (any of lw_tbl by 'hts w (by decide +kernel)'), the script of L ints xs at the cell b, what the Statement gives of the start (any of its parts by flat_of_before) -/
def lw_At (p : Program) (s : State) (m : MethodId) (meth : Method) (c : Code) (b L : Nat) (xs : Nat → Int32) : Prop :=
  p.tables.exec = Jvm.exec ∧ c.code = code ∧ meth.sig.returnType = ret ∧ c.maxLocals = 9 ∧ s.vm.findClass R_law = some m.cls ∧ (∀ w ∈ lw_tbl, w.before #[Value.ref b] s = true) ∧ va_X b L xs s s.heap ∧ b < s.heap.size ∧ meth.locks = false ∧ (Jvm.Cond.and given_1 narrow_1).before #[Value.ref b] s = true
-- ===== YOUR PART BEGINS =====
/-- the memory as the law begins: the empty list's row and the cached Integers -/
theorem z_begin {s : State} {Z : zPar} (hb : zPb Z = s.heap.size) (hK : va_K (zPD Z) vwCl (zTy Z) s) (hE : zEnv Z s s.heap) : ∃ M0 : zMem, zEmp Z M0 ∧ zRep Z M0 s.heap := by
  classical
  obtain ⟨-, h2, -, -, -, -, -, -, hC, -⟩ := hE
  have hlt : ∀ q : Nat, ¬ zA Z q → q < zPb Z := fun q h => Nat.not_le.mp h
  obtain ⟨cell, e1, e2, -, -, -, -, e7⟩ := h2
  have hint : ∀ j, j < 256 → zPc9 Z j ≠ zPe Z ∧ zPc9 Z j < zPb Z := by
    intro j hj
    obtain ⟨c2, f1, f2, f3, f4⟩ := hC.1 j hj
    refine ⟨fun e => ?_, hlt _ f4⟩
    rw [e, e1] at f1
    cases f1
    obtain ⟨-, k, g1, comp, g2⟩ := e2
    obtain ⟨hc, k', g3, g4⟩ := (hK.1 1 _ rfl).2
    have hcc : cell.cls = (zPD Z).1 1 := Option.some.inj (f3.symm.trans hc)
    rw [hcc, g3] at g1
    cases g1
    rw [g4] at g2
    cases g2
  let p : Nat → Prop := fun a => ∃ j, j < 256 ∧ a = zPc9 Z j
  obtain ⟨g, hg⟩ : ∃ g : Nat → Nat, ∀ a, p a → g a < 256 ∧ a = zPc9 Z (g a) := Classical.axiomOfChoice (r := fun a j => p a → j < 256 ∧ a = zPc9 Z j) (fun a => by
    by_cases h : p a
    · obtain ⟨j, h1, h2⟩ := h
      exact ⟨j, fun _ => ⟨h1, h2⟩⟩
    · exact ⟨0, fun q => absurd q h⟩)
  let M0 : zMem := (fun a => if a = zPe Z then 7 else if p a then 8 else 0, fun _ => 0, fun _ => 0, fun a _ => vb_c (g a), fun _ _ => none, fun _ _ => 0, fun _ _ => none, fun _ _ => 0, fun _ _ => 0)
  have k7 : ∀ a, mK M0 a = if a = zPe Z then 7 else if p a then 8 else 0 := fun a => rfl
  refine ⟨M0, ⟨by rw [k7, if_pos rfl], rfl, fun j hj => ?_⟩, [], fun k q h => by simp at h, ⟨fun i j p q h => by simp at h, fun k q h => by simp at h⟩, fun a ha => ?_, fun a ha => ?_, fun a ha => ?_⟩
  · rw [k7, if_neg (hint j hj).1, if_pos ⟨j, hj, rfl⟩]
  · exfalso
    obtain ⟨g1, g2, g3⟩ := ha
    rw [k7] at g1 g2 g3
    by_cases c1 : a = zPe Z
    · rw [if_pos c1] at g2
      exact g2 rfl
    · rw [if_neg c1] at g1 g3
      by_cases c2 : p a
      · rw [if_pos c2] at g3
        exact g3 rfl
      · rw [if_neg c2] at g1
        exact g1 rfl
  · rw [k7] at ha
    by_cases c1 : a = zPe Z
    · exact ⟨c1, by rw [c1]; exact hlt _ e7, rfl⟩
    · rw [if_neg c1] at ha
      by_cases c2 : p a
      · rw [if_pos c2] at ha
        cases ha
      · rw [if_neg c2] at ha
        cases ha
  · rw [k7] at ha
    by_cases c1 : a = zPe Z
    · rw [if_pos c1] at ha
      cases ha
    · rw [if_neg c1] at ha
      by_cases c2 : p a
      · obtain ⟨h1, h3⟩ := hg a c2
        refine ⟨g a, h1, h3, rfl, ?_⟩
        rw [h3]
        exact (hint _ h1).2
      · rw [if_neg c2] at ha
        cases ha
/-- YOUR PART: from the entry, for every script of at most 3072 ints, the law comes to its end with true ('hflags': the launch's flags, for a law that throws: no stack traces) -/
theorem whole_start {p : Program} {e : Env} {s : State} {m : MethodId} {below : List Frame} {meth : Method} {c : Code} (l : Launch) (hflags : l.flags = flags0) {b L : Nat} {xs : Nat → Int32} (hL : L ≤ 3072) (C0 : lw_At p s m meth c b L xs) : W p l e room_1 s m #[Value.ref b] below meth c s.heap [] 0 0 (lw_Z below #[Value.ref b] s) (entryFrame m ([Value.ref b] : List Value).toArray 9) := by
  obtain ⟨hx, hb, hr, hml, hown, hts, hX, hbl, hlocks, hgv⟩ := id C0
  obtain ⟨Z, hZb, hZs, hW, hK, hE⟩ := zstart hts (flat_of_before _ hgv) hX hbl
  obtain ⟨M0, hE0, hR0⟩ := z_begin hZb hK hE
  have hst : l.stackTraces = false := by
    unfold Launch.stackTraces
    rw [hflags]
    decide +kernel
  have hL2 : (zPs Z).2.1 = L := by rw [hZs]
  have hb2 : (zPs Z).1 = b := by rw [hZs]
  obtain ⟨hh, hhh⟩ : ∃ hh : List (Nat × Nat × Nat × Nat), c.exceptionTable.toList = tableOf hh := by
    refine ⟨c.exceptionTable.toList.map (fun t => (t.startPc, t.endPc, t.handlerPc, t.catchType)), ?_⟩
    unfold tableOf
    rw [List.map_map]
    exact (List.map_id' _).symm
  have H := law_all (nm := meth.name) (hh := hh) (Z := Z) (l := l) (M0 := M0) (Q := fun oc _ => oc = .inl (some (.int 1))) hE0 (by rw [hL2]; exact hL) (fun _ => rfl)
  rw [hL2, hb2] at H
  have C : zCtx Z l 12 (mth_L meth.name hh) p room_1 s m meth c := ⟨hx, hb, hml, hown, hr, hlocks, rfl, hhh, hst, hW, hK, hE, Nat.le_of_eq hZb, (show 8 * 12 + 8 ≤ 2048 by omega), (show 64 * 12 + 256 ≤ 94400 by omega)⟩
  have hl := lv_entry ([.ref b]) (n := 9) (Nat.le_of_ble_eq_true rfl)
  rw [lg_entry_eq]
  generalize (lg_sl ([.ref b]) ++ List.replicate (9 - (lg_sl ([.ref b])).length) Slot.unset).toArray = ls at hl ⊢
  refine H p e room_1 s m #[Value.ref b] below meth c s.heap [] 0 0 _ ls C hl hR0 va_S.rf (show 0 + (400 * (L / 6) + 34) ≤ 603072 by omega) (show 0 + (2000 * (L / 6) + 514) ≤ 7211114 by omega) ⟨?_, ?_, ?_⟩
  · intro v M H locs cells slots pc ls' hQ hM hS hc hs hret
    cases hQ
    refine va_forget (fun q hq => by have := hS.2.2 q hq; rw [← hZb]; exact this) ?_
    refine W.widen (k := 603072) (n := 7211114) hc hs ?_
    refine W.base ?_
    exact lw_ret (Drawn.sameBut.refl s.drawn lw_cs) hx hb hr hlocks hret.1
  · intro k M H locs cells slots pc ls' rest q ce hQ
    cases hQ
  · intro k M H locs cells slots pc ik is ic text ls' rest hQ
    cases hQ
