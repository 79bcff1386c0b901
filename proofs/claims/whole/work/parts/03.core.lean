/-! THE SMALL MACHINE: one judgement zX over the kit's W: a method's frame, a list of locals, a stack and a memory by kinds and fields. Every rule below is one row of the kit; all that comes later speaks of zX alone. -/
-- a method: its name, code, number of locals, what it returns, its handlers
abbrev zMeth : Type := MethodName × ByteArray × Nat × Option FieldType × List (Nat × Nat × Nat × Nat)
abbrev zMY (mm : zMeth) : MethodName := mm.1
abbrev zMC (mm : zMeth) : ByteArray := mm.2.1
abbrev zML (mm : zMeth) : Nat := mm.2.2.1
abbrev zMR (mm : zMeth) : Option FieldType := mm.2.2.2.1
abbrev zMH (mm : zMeth) : List (Nat × Nat × Nat × Nat) := mm.2.2.2.2
-- the memory: kind, length, mark (no machine sees it), int fields, reference fields, int rows, reference rows, long rows, double rows
abbrev zMem : Type := (Nat → Nat) × (Nat → Nat) × (Nat → Nat) × (Nat → Nat → Int32) × (Nat → Nat → Option Nat) × (Nat → Nat → Int32) × (Nat → Nat → Option Nat) × (Nat → Nat → Int64) × (Nat → Nat → UInt64)
abbrev mK (M : zMem) : Nat → Nat := M.1
abbrev mN (M : zMem) : Nat → Nat := M.2.1
abbrev mG (M : zMem) : Nat → Nat := M.2.2.1
abbrev vI (M : zMem) : Nat → Nat → Int32 := M.2.2.2.1
abbrev vR (M : zMem) : Nat → Nat → Option Nat := M.2.2.2.2.1
abbrev aI (M : zMem) : Nat → Nat → Int32 := M.2.2.2.2.2.1
abbrev aR (M : zMem) : Nat → Nat → Option Nat := M.2.2.2.2.2.2.1
abbrev aL (M : zMem) : Nat → Nat → Int64 := M.2.2.2.2.2.2.2.1
abbrev aD (M : zMem) : Nat → Nat → UInt64 := M.2.2.2.2.2.2.2.2
def u2 {α : Type} (f : Nat → Nat → α) (a k : Nat) (v : α) : Nat → Nat → α := fun b j => if j = k ∧ b = a then v else f b j
def u1 {α : Type} (f : Nat → α) (a : Nat) (v : α) : Nat → α := fun b => if b = a then v else f b
abbrev sI (M : zMem) (a k : Nat) (v : Int32) : zMem := (mK M, mN M, mG M, u2 (vI M) a k v, vR M, aI M, aR M, aL M, aD M)
abbrev sR (M : zMem) (a k : Nat) (v : Option Nat) : zMem := (mK M, mN M, mG M, vI M, u2 (vR M) a k v, aI M, aR M, aL M, aD M)
abbrev sAI (M : zMem) (a k : Nat) (v : Int32) : zMem := (mK M, mN M, mG M, vI M, vR M, u2 (aI M) a k v, aR M, aL M, aD M)
abbrev sAR (M : zMem) (a k : Nat) (v : Option Nat) : zMem := (mK M, mN M, mG M, vI M, vR M, aI M, u2 (aR M) a k v, aL M, aD M)
abbrev sAL (M : zMem) (a k : Nat) (v : Int64) : zMem := (mK M, mN M, mG M, vI M, vR M, aI M, aR M, u2 (aL M) a k v, aD M)
abbrev sAD (M : zMem) (a k : Nat) (v : UInt64) : zMem := (mK M, mN M, mG M, vI M, vR M, aI M, aR M, aL M, u2 (aD M) a k v)
/-- a new thing at q: kind, length, mark; all its fields and places are blank -/
def zNew (M : zMem) (q kind len g : Nat) : zMem := (u1 (mK M) q kind, u1 (mN M) q len, u1 (mG M) q g, u1 (vI M) q (fun _ => 0), u1 (vR M) q (fun _ => none), u1 (aI M) q (fun _ => 0), u1 (aR M) q (fun _ => none), u1 (aL M) q (fun _ => 0), u1 (aD M) q (fun _ => 0))
-- fields of the classes of vwCl: is the k-th a reference
def zdr (d : String) : Bool := !(d == "I" || d == "Z" || d == "C" || d == "B")
def zrf (ci k : Nat) : Bool := match vwCl[ci]? with
  | some (_, T, _) => zdr (T k).2.2.1
  | none => false
def zfn (ci : Nat) : Nat := match vwCl[ci]? with
  | some (_, _, n) => n
  | none => 0
def zfv (M : zMem) (a ci k : Nat) : Value := if zrf ci k then va_rf (vR M a (32 * ci + k)) else .int (vI M a (32 * ci + k))
def zfs (M : zMem) (a ci : Nat) : List Value := (List.range (zfn ci)).map (zfv M a ci)
-- parameters: the least address that is ours, class numbers, the classes of arrays, the empty list's array, the cached Integers, the script
abbrev zPar : Type := Nat × va_G × (Nat → ClassId) × Nat × (Nat → Nat) × (Nat × Nat × (Nat → Int32)) × (Nat → Nat)
abbrev zPb (Z : zPar) : Nat := Z.1
abbrev zPD (Z : zPar) : va_G := Z.2.1
abbrev zPt (Z : zPar) : Nat → ClassId := Z.2.2.1
abbrev zPe (Z : zPar) : Nat := Z.2.2.2.1
abbrev zPc9 (Z : zPar) : Nat → Nat := Z.2.2.2.2.1
abbrev zPs (Z : zPar) : Nat × Nat × (Nat → Int32) := Z.2.2.2.2.2.1
-- 0 the class object of Object[], 1 of ArrayList, 2 the row of the cached Integers, 3 the text of the model's things, 4 its bytes
abbrev zPx (Z : zPar) : Nat → Nat := Z.2.2.2.2.2.2
abbrev zA (Z : zPar) : Nat → Prop := fun q => zPb Z ≤ q
abbrev zTy (Z : zPar) : List (ClassId × FieldType) := [(zPt Z 0, .int), (zPt Z 1, .boolean), (zPt Z 2, .object "java/lang/Object"), (zPt Z 3, .array .boolean), (zPt Z 4, .long), (zPt Z 5, .double)]
/-- what the heap holds at a, by the memory -/
def zEnt (Z : zPar) (M : zMem) (a : Nat) : va_E :=
  if mK M a = 1 then .inl (zPt Z 0, mN M a, .inl (aI M a))
  else if mK M a = 2 then .inl (zPt Z 1, mN M a, .inl (aI M a))
  else if mK M a = 3 then .inl (zPt Z 2, mN M a, .inr (.inr (.inr (.inr (aR M a)))))
  else if mK M a = 4 then .inl (zPt Z 3, mN M a, .inr (.inr (.inr (.inr (aR M a)))))
  else if mK M a = 5 then .inl (zPt Z 4, mN M a, .inr (.inl (aL M a)))
  else if mK M a = 6 then .inl (zPt Z 5, mN M a, .inr (.inr (.inr (.inl (aD M a)))))
  else .inr (mK M a - 10, zfs M a (mK M a - 10))
def zLive (M : zMem) (a : Nat) : Prop := mK M a ≠ 0 ∧ mK M a ≠ 7 ∧ mK M a ≠ 8
def zIn (Z : zPar) (M : zMem) (ws : va_W) : Prop := ∀ a, zLive M a → ∃ k : Nat, ws[k]? = some (a, zEnt Z M a)
def zCo (Z : zPar) (M : zMem) : Prop := (∀ a, mK M a = 7 → a = zPe Z ∧ a < zPb Z ∧ mN M a = 0) ∧ ∀ a, mK M a = 8 → ∃ j, j < 256 ∧ a = zPc9 Z j ∧ vI M a 32 = vb_c j ∧ a < zPb Z
def zRep (Z : zPar) (M : zMem) (H : Heap) : Prop := ∃ ws : va_W, va_P (zPD Z) vwCl ws H ∧ va_D (zA Z) ws ∧ zIn Z M ws ∧ zCo Z M
-- the tables' words that last
def zKeep (w : Cond) : Bool := goodWord w || match w with
  | .fieldLinkNest .. => true
  | .methodLinkNest .. => true
  | .castable .. => true
  | .declares .. => true
  | .arrayOver .. => true
  | .publicMethod _ => true
  | .unhidden .. => true
  | .interfaceMethod .. => true
  | _ => false
def zW (U : State) : Prop := ∀ w ∈ lw_tbl, zKeep w = true → w.before #[] U = true
theorem zot {w : Cond} (h : zKeep w = true) : w.onTables = true ∨ goodWord w = true ∨ ∃ ty, w = .arrayOver ty := by
  unfold zKeep at h
  by_cases g : goodWord w = true
  · exact Or.inr (Or.inl g)
  · have g' : goodWord w = false := by cases h9 : goodWord w <;> simp_all
    rw [g', Bool.false_or] at h
    cases w <;> first | exact Or.inl rfl | exact Or.inr (Or.inr ⟨_, rfl⟩) | (exact absurd h (by simp))
theorem zW.use {U : State} (h : zW U) {w : Cond} (hw : w ∈ lw_tbl) (hk : zKeep w = true) {args : Array Value} : w.before args U = true := by
  have h1 := h w hw hk
  rcases zot hk with g | g | ⟨ty, rfl⟩
  · exact va_tabs g rfl h1
  · exact word_at (State.WarmedH.refl U) (good_of_word g) h1
  · exact h1
theorem zW.warm {s U : State} (h : zW s) (hW : s.WarmedH U.vm) : zW U := by
  intro w hw hk
  have h1 := h w hw hk
  by_cases g : goodWord w = true
  · exact word_at hW (good_of_word g) h1
  · have g' : goodWord w = false := by cases h9 : goodWord w <;> simp_all
    have h2 := hk
    unfold zKeep at h2
    rw [g', Bool.false_or] at h2
    cases w with
    | fieldLinkNest => exact va_Nw.warmF hW h1
    | methodLinkNest => exact va_Nw.warmM hW h1
    | castable => exact va_Nw.warmC hW h1
    | declares => exact va_Nw.warmD hW h1
    | arrayOver ty => exact (Cond.arrayOver_setVmC (args := #[]) hW.alike ty).trans h1
    | publicMethod x => exact va_tabs rfl (rfl : (s.setVm U.vm).vm = U.vm) (by rw [Cond.publicMethod_setVm hW.alike]; exact h1)
    | unhidden c n d => exact va_tabs rfl (rfl : (s.setVm U.vm).vm = U.vm) (by rw [Cond.unhidden_setVm hW.alike]; exact h1)
    | interfaceMethod r o n d =>
      have hal := hW.alike
      have e : (Cond.interfaceMethod r o n d).before #[] (s.setVm U.vm) = (Cond.interfaceMethod r o n d).before #[] s := by
        simp only [Cond.before, Cond.holds, Cond.value, State.vm_setVm, hal.findClass, State.methodFound?_setVm hal, State.methodNamed?_setVm hal, arm_isInterface_setVm hal]
      exact va_tabs rfl (rfl : (s.setVm U.vm).vm = U.vm) (e.trans h1)
    | _ => exact absurd h2 (by simp)
