/-! RULES: one for each row of the kit that moves locals and stack alone. -/
theorem zlt {ls : Array Slot} {n : Nat} {L : List (Nat × Value)} (h : lv_has ls n L) : ls.size = n := h.1
def zg (L : List (Nat × Value)) (i : Nat) : Option Value := match L with
  | [] => none
  | q :: r => if q.1 == i then some q.2 else zg r i
theorem zg_mem : ∀ {L : List (Nat × Value)} {i : Nat} {v : Value}, zg L i = some v → (i, v) ∈ L
  | [], _, _, h => nomatch h
  | q :: r, i, v, h => by
    unfold zg at h
    split at h
    · next e =>
      have e' : q.1 = i := by simpa using e
      cases h
      exact List.mem_cons.mpr (Or.inl (by rw [← e']))
    · exact List.mem_cons_of_mem _ (zg_mem h)
theorem zg_at {ls : Array Slot} {n : Nat} {L : List (Nat × Value)} (hl : lv_has ls n L) {i : Nat} {v : Value} (h : zg L i = some v) : ls[i]? = some (.val v) := hl.2.2 (i, v) (zg_mem h)
abbrev zp1 (L : List (Nat × Value)) (i : Nat) (v : Value) : List (Nat × Value) := (i, v) :: L.filter (fun q => !(q.1 == i) && !(q.1 + 1 == i && q.2.category == 2))
abbrev zp2 (L : List (Nat × Value)) (i : Nat) (v : Value) : List (Nat × Value) := (i, v) :: L.filter (fun q => !(q.1 == i) && (!(q.1 == i + 1) && !(q.1 + 1 == i && q.2.category == 2)))
section ZRULES
variable {Z : zPar} {l : Launch} {d : Nat} {mm : zMeth} {pc n nc ns : Nat} {L : List (Nat × Value)} {st : List Value} {M : zMem} {Q : zO → zMem → Prop}
def zAll (L : List (Nat × Value)) : List (Nat × Value) → Prop
  | [] => True
  | q :: r => zg L q.1 = some q.2 ∧ zAll L r
theorem zAll.mem {L : List (Nat × Value)} : ∀ {L' : List (Nat × Value)}, zAll L L' → ∀ q ∈ L', q ∈ L
  | [], _, _, h => nomatch h
  | x :: r, h, q, hq => by
    rcases List.mem_cons.mp hq with rfl | hq
    · exact zg_mem h.1
    · exact zAll.mem h.2 q hq
/-- fewer locals -/
theorem zX.sub {L' : List (Nat × Value)} (hs : zAll L L') (k : zX Z l d mm pc L' st M nc ns Q) : zX Z l d mm pc L st M nc ns Q := by
  intro p e R s m args below meth c H locs cells slots QF ls C hl
  exact k p e R s m args below meth c H locs cells slots QF ls C ⟨hl.1, hl.2.1, fun q hq => hl.2.2 q (hs.mem q hq)⟩
theorem zX.post {Q' : zO → zMem → Prop} (k : zX Z l d mm pc L st M nc ns Q) (h : ∀ o M', Q o M' → Q' o M') : zX Z l d mm pc L st M nc ns Q' := by
  intro p e R s m args below meth c H locs cells slots QF ls C hl hM hS hc hs hE
  exact k p e R s m args below meth c H locs cells slots QF ls C hl hM hS hc hs ⟨fun v M' H' locs' cells' slots' pc' ls' hq => hE.1 v M' H' locs' cells' slots' pc' ls' (h _ _ hq), fun k' M' H' locs' cells' slots' pc' ls' rest' q' ce' hq => hE.2.1 k' M' H' locs' cells' slots' pc' ls' rest' q' ce' (h _ _ hq), fun k' M' H' locs' cells' slots' pc' ik is ic tx ls' rest' hq => hE.2.2 k' M' H' locs' cells' slots' pc' ik is ic tx ls' rest' (h _ _ hq)⟩
theorem zX.more {nc' ns' : Nat} (k : zX Z l d mm pc L st M nc' ns' Q) (h1 : nc' ≤ nc) (h2 : ns' ≤ ns) : zX Z l d mm pc L st M nc ns Q := by
  intro p e R s m args below meth c H locs cells slots QF ls C hl hM hS hc hs hE
  exact k p e R s m args below meth c H locs cells slots QF ls C hl hM hS (by omega) (by omega) hE
theorem zX.deep {d' : Nat} (k : zX Z l d' mm pc L st M nc ns Q) (h1 : d' ≤ d) : zX Z l d mm pc L st M nc ns Q := by
  intro p e R s m args below meth c H locs cells slots QF ls C hl hM hS hc hs hE
  obtain ⟨c1, c2, c3, c4, c5, c6, c7, c8, c9, c10, c11, c12, c13, c14, c15⟩ := C
  exact k p e R s m args below meth c H locs cells slots QF ls ⟨c1, c2, c3, c4, c5, c6, c7, c8, c9, c10, c11, c12, c13, by omega, by omega⟩ hl hM hS hc hs hE
theorem zX.at {n : Nat} (h : pc = n) (k : zX Z l d mm n L st M nc ns Q) : zX Z l d mm pc L st M nc ns Q := h ▸ k
theorem zs_iconst {z : Int} {v : Int32} (hd : decode (zMC mm) pc = .ok (.iconst z, 1)) (hv : Int32.ofInt z = v) (hn : pc + 1 = n) (k : zX Z l d mm n L (.int v :: st) M nc ns Q) : zX Z l d mm pc L (st) M nc ns Q := by
  subst hn
  intro p e R s m args below meth c H locs cells slots QF ls C hl hM hS hc hs hE
  exact lv_iconst C.1 C.2.1 hd hv (k p e R s m args below meth c H locs cells slots QF ls C hl hM hS hc hs hE)
theorem zs_bipush {z : Int} {v : Int32} (hd : decode (zMC mm) pc = .ok (.bipush z, 2)) (hv : (Int8.ofInt z).toInt32 = v) (hn : pc + 2 = n) (k : zX Z l d mm n L (.int v :: st) M nc ns Q) : zX Z l d mm pc L (st) M nc ns Q := by
  subst hn
  intro p e R s m args below meth c H locs cells slots QF ls C hl hM hS hc hs hE
  exact lv_bipush C.1 C.2.1 hd hv (k p e R s m args below meth c H locs cells slots QF ls C hl hM hS hc hs hE)
theorem zs_sipush {z : Int} {v : Int32} (hd : decode (zMC mm) pc = .ok (.sipush z, 3)) (hv : (Int16.ofInt z).toInt32 = v) (hn : pc + 3 = n) (k : zX Z l d mm n L (.int v :: st) M nc ns Q) : zX Z l d mm pc L (st) M nc ns Q := by
  subst hn
  intro p e R s m args below meth c H locs cells slots QF ls C hl hM hS hc hs hE
  exact lv_sipush C.1 C.2.1 hd hv (k p e R s m args below meth c H locs cells slots QF ls C hl hM hS hc hs hE)
theorem zs_lconst {z : Fin 2} {v : Int64} (hd : decode (zMC mm) pc = .ok (.lconst z, 1)) (hv : Int64.ofNat (z : Nat) = v) (hn : pc + 1 = n) (k : zX Z l d mm n L (.long v :: st) M nc ns Q) : zX Z l d mm pc L (st) M nc ns Q := by
  subst hn
  intro p e R s m args below meth c H locs cells slots QF ls C hl hM hS hc hs hE
  exact lv_lconst C.1 C.2.1 hd hv (k p e R s m args below meth c H locs cells slots QF ls C hl hM hS hc hs hE)
theorem zs_fconst0 (hd : decode (zMC mm) pc = .ok (.fconst 0, 1)) (hn : pc + 1 = n) (k : zX Z l d mm n L (.float FP.fconst0 :: st) M nc ns Q) : zX Z l d mm pc L (st) M nc ns Q := by
  subst hn
  intro p e R s m args below meth c H locs cells slots QF ls C hl hM hS hc hs hE
  exact lv_fconst0 C.1 C.2.1 hd  (k p e R s m args below meth c H locs cells slots QF ls C hl hM hS hc hs hE)
theorem zs_dconst0 (hd : decode (zMC mm) pc = .ok (.dconst 0, 1)) (hn : pc + 1 = n) (k : zX Z l d mm n L (.double FP.dconst0 :: st) M nc ns Q) : zX Z l d mm pc L (st) M nc ns Q := by
  subst hn
  intro p e R s m args below meth c H locs cells slots QF ls C hl hM hS hc hs hE
  exact lv_dconst0 C.1 C.2.1 hd  (k p e R s m args below meth c H locs cells slots QF ls C hl hM hS hc hs hE)
theorem zs_null (hd : decode (zMC mm) pc = .ok (.aconst_null, 1)) (hn : pc + 1 = n) (k : zX Z l d mm n L (.null :: st) M nc ns Q) : zX Z l d mm pc L (st) M nc ns Q := by
  subst hn
  intro p e R s m args below meth c H locs cells slots QF ls C hl hM hS hc hs hE
  exact lv_null C.1 C.2.1 hd  (k p e R s m args below meth c H locs cells slots QF ls C hl hM hS hc hs hE)
theorem zs_ldc {ix : Nat} {v : Int32} (hd : decode (zMC mm) pc = .ok (.ldc ix, 2)) (hw : Cond.constant (zMY mm).cls ix v ∈ lw_tbl ∧ zKeep (Cond.constant (zMY mm).cls ix v) = true) (hn : pc + 2 = n) (k : zX Z l d mm n L (.int v :: st) M nc ns Q) : zX Z l d mm pc L (st) M nc ns Q := by
  subst hn
  intro p e R s m args below meth c H locs cells slots QF ls C hl hM hS hc hs hE
  exact lv_ldc C.1 C.2.1 C.2.2.2.1 (C.2.2.2.2.2.2.2.2.2.1.use hw.1 hw.2) hd (k p e R s m args below meth c H locs cells slots QF ls C hl hM hS hc hs hE)
theorem zs_ldcw {ix : Nat} {v : Int32} (hd : decode (zMC mm) pc = .ok (.ldc_w ix, 3)) (hw : Cond.constant (zMY mm).cls ix v ∈ lw_tbl ∧ zKeep (Cond.constant (zMY mm).cls ix v) = true) (hn : pc + 3 = n) (k : zX Z l d mm n L (.int v :: st) M nc ns Q) : zX Z l d mm pc L (st) M nc ns Q := by
  subst hn
  intro p e R s m args below meth c H locs cells slots QF ls C hl hM hS hc hs hE
  exact lv_ldcw C.1 C.2.1 C.2.2.2.1 (C.2.2.2.2.2.2.2.2.2.1.use hw.1 hw.2) hd (k p e R s m args below meth c H locs cells slots QF ls C hl hM hS hc hs hE)
theorem zs_ldc2 {ix : Nat} {v : Int64} (hd : decode (zMC mm) pc = .ok (.ldc2_w ix, 3)) (hw : Cond.constantLong (zMY mm).cls ix v ∈ lw_tbl ∧ zKeep (Cond.constantLong (zMY mm).cls ix v) = true) (hn : pc + 3 = n) (k : zX Z l d mm n L (.long v :: st) M nc ns Q) : zX Z l d mm pc L (st) M nc ns Q := by
  subst hn
  intro p e R s m args below meth c H locs cells slots QF ls C hl hM hS hc hs hE
  exact lv_ldc2 C.1 C.2.1 C.2.2.2.1 (C.2.2.2.2.2.2.2.2.2.1.use hw.1 hw.2) hd (k p e R s m args below meth c H locs cells slots QF ls C hl hM hS hc hs hE)
theorem zs_iload_n {q : Fin 4} {x : Int32} (hd : decode (zMC mm) pc = .ok (.iload_n q, 1)) (hg : zg L q.val = some (.int x)) (hn : pc + 1 = n) (k : zX Z l d mm n L (.int x :: st) M nc ns Q) : zX Z l d mm pc L (st) M nc ns Q := by
  subst hn
  intro p e R s m args below meth c H locs cells slots QF ls C hl hM hS hc hs hE
  exact lv_iload_n C.1 C.2.1 hd rfl (zg_at hl hg) (k p e R s m args below meth c H locs cells slots QF ls C hl hM hS hc hs hE)
theorem zs_iload {i : Nat} {x : Int32} (hd : decode (zMC mm) pc = .ok (.iload i, 2)) (hg : zg L i = some (.int x)) (hn : pc + 2 = n) (k : zX Z l d mm n L (.int x :: st) M nc ns Q) : zX Z l d mm pc L (st) M nc ns Q := by
  subst hn
  intro p e R s m args below meth c H locs cells slots QF ls C hl hM hS hc hs hE
  exact lv_iload C.1 C.2.1 hd (zg_at hl hg) (k p e R s m args below meth c H locs cells slots QF ls C hl hM hS hc hs hE)
theorem zs_lload_n {q : Fin 4} {x : Int64} (hd : decode (zMC mm) pc = .ok (.lload_n q, 1)) (hg : zg L q.val = some (.long x)) (hn : pc + 1 = n) (k : zX Z l d mm n L (.long x :: st) M nc ns Q) : zX Z l d mm pc L (st) M nc ns Q := by
  subst hn
  intro p e R s m args below meth c H locs cells slots QF ls C hl hM hS hc hs hE
  exact lv_lload_n C.1 C.2.1 hd rfl (zg_at hl hg) (k p e R s m args below meth c H locs cells slots QF ls C hl hM hS hc hs hE)
theorem zs_lload {i : Nat} {x : Int64} (hd : decode (zMC mm) pc = .ok (.lload i, 2)) (hg : zg L i = some (.long x)) (hn : pc + 2 = n) (k : zX Z l d mm n L (.long x :: st) M nc ns Q) : zX Z l d mm pc L (st) M nc ns Q := by
  subst hn
  intro p e R s m args below meth c H locs cells slots QF ls C hl hM hS hc hs hE
  exact lv_lload C.1 C.2.1 hd (zg_at hl hg) (k p e R s m args below meth c H locs cells slots QF ls C hl hM hS hc hs hE)
theorem zs_fload_n {q : Fin 4} {x : UInt32} (hd : decode (zMC mm) pc = .ok (.fload_n q, 1)) (hg : zg L q.val = some (.float x)) (hn : pc + 1 = n) (k : zX Z l d mm n L (.float x :: st) M nc ns Q) : zX Z l d mm pc L (st) M nc ns Q := by
  subst hn
  intro p e R s m args below meth c H locs cells slots QF ls C hl hM hS hc hs hE
  exact lv_fload_n C.1 C.2.1 hd rfl (zg_at hl hg) (k p e R s m args below meth c H locs cells slots QF ls C hl hM hS hc hs hE)
theorem zs_fload {i : Nat} {x : UInt32} (hd : decode (zMC mm) pc = .ok (.fload i, 2)) (hg : zg L i = some (.float x)) (hn : pc + 2 = n) (k : zX Z l d mm n L (.float x :: st) M nc ns Q) : zX Z l d mm pc L (st) M nc ns Q := by
  subst hn
  intro p e R s m args below meth c H locs cells slots QF ls C hl hM hS hc hs hE
  exact lv_fload C.1 C.2.1 hd (zg_at hl hg) (k p e R s m args below meth c H locs cells slots QF ls C hl hM hS hc hs hE)
theorem zs_dload_n {q : Fin 4} {x : UInt64} (hd : decode (zMC mm) pc = .ok (.dload_n q, 1)) (hg : zg L q.val = some (.double x)) (hn : pc + 1 = n) (k : zX Z l d mm n L (.double x :: st) M nc ns Q) : zX Z l d mm pc L (st) M nc ns Q := by
  subst hn
  intro p e R s m args below meth c H locs cells slots QF ls C hl hM hS hc hs hE
  exact lv_dload_n C.1 C.2.1 hd rfl (zg_at hl hg) (k p e R s m args below meth c H locs cells slots QF ls C hl hM hS hc hs hE)
theorem zs_dload {i : Nat} {x : UInt64} (hd : decode (zMC mm) pc = .ok (.dload i, 2)) (hg : zg L i = some (.double x)) (hn : pc + 2 = n) (k : zX Z l d mm n L (.double x :: st) M nc ns Q) : zX Z l d mm pc L (st) M nc ns Q := by
  subst hn
  intro p e R s m args below meth c H locs cells slots QF ls C hl hM hS hc hs hE
  exact lv_dload C.1 C.2.1 hd (zg_at hl hg) (k p e R s m args below meth c H locs cells slots QF ls C hl hM hS hc hs hE)
theorem zs_aload_n {q : Fin 4} {x : Nat} (hd : decode (zMC mm) pc = .ok (.aload_n q, 1)) (hg : zg L q.val = some (.ref x)) (hn : pc + 1 = n) (k : zX Z l d mm n L (.ref x :: st) M nc ns Q) : zX Z l d mm pc L (st) M nc ns Q := by
  subst hn
  intro p e R s m args below meth c H locs cells slots QF ls C hl hM hS hc hs hE
  exact lv_aload_n C.1 C.2.1 hd rfl (zg_at hl hg) (k p e R s m args below meth c H locs cells slots QF ls C hl hM hS hc hs hE)
theorem zs_aload {i : Nat} {x : Nat} (hd : decode (zMC mm) pc = .ok (.aload i, 2)) (hg : zg L i = some (.ref x)) (hn : pc + 2 = n) (k : zX Z l d mm n L (.ref x :: st) M nc ns Q) : zX Z l d mm pc L (st) M nc ns Q := by
  subst hn
  intro p e R s m args below meth c H locs cells slots QF ls C hl hM hS hc hs hE
  exact lv_aload C.1 C.2.1 hd (zg_at hl hg) (k p e R s m args below meth c H locs cells slots QF ls C hl hM hS hc hs hE)
theorem zs_aload_nN {q : Fin 4} (hd : decode (zMC mm) pc = .ok (.aload_n q, 1)) (hg : zg L q.val = some .null) (hn : pc + 1 = n) (k : zX Z l d mm n L (.null :: st) M nc ns Q) : zX Z l d mm pc L (st) M nc ns Q := by
  subst hn
  intro p e R s m args below meth c H locs cells slots QF ls C hl hM hS hc hs hE
  exact lv_aload_nN C.1 C.2.1 hd rfl (zg_at hl hg) (k p e R s m args below meth c H locs cells slots QF ls C hl hM hS hc hs hE)
theorem zs_aloadN {i : Nat} (hd : decode (zMC mm) pc = .ok (.aload i, 2)) (hg : zg L i = some .null) (hn : pc + 2 = n) (k : zX Z l d mm n L (.null :: st) M nc ns Q) : zX Z l d mm pc L (st) M nc ns Q := by
  subst hn
  intro p e R s m args below meth c H locs cells slots QF ls C hl hM hS hc hs hE
  exact lv_aloadN C.1 C.2.1 hd (zg_at hl hg) (k p e R s m args below meth c H locs cells slots QF ls C hl hM hS hc hs hE)
theorem zs_istore_n {q : Fin 4} {x : Int32} (hd : decode (zMC mm) pc = .ok (.istore_n q, 1)) (hb : q.val < zML mm) (hn : pc + 1 = n) (k : zX Z l d mm n (zp1 L q.val (.int x)) st M nc ns Q) : zX Z l d mm pc L ((.int x) :: st) M nc ns Q := by
  subst hn
  intro p e R s m args below meth c H locs cells slots QF ls C hl hM hS hc hs hE
  exact lv_istore_n C.1 C.2.1 hd rfl hl hb rfl (fun ls' hl' => k p e R s m args below meth c H locs cells slots QF ls' C hl' hM hS hc hs hE)
theorem zs_istore {i : Nat} {x : Int32} (hd : decode (zMC mm) pc = .ok (.istore i, 2)) (hb : i < zML mm) (hn : pc + 2 = n) (k : zX Z l d mm n (zp1 L i (.int x)) st M nc ns Q) : zX Z l d mm pc L ((.int x) :: st) M nc ns Q := by
  subst hn
  intro p e R s m args below meth c H locs cells slots QF ls C hl hM hS hc hs hE
  exact lv_istore C.1 C.2.1 hd hl hb rfl (fun ls' hl' => k p e R s m args below meth c H locs cells slots QF ls' C hl' hM hS hc hs hE)
theorem zs_lstore_n {q : Fin 4} {x : Int64} (hd : decode (zMC mm) pc = .ok (.lstore_n q, 1)) (hb : q.val + 1 < zML mm) (hn : pc + 1 = n) (k : zX Z l d mm n (zp2 L q.val (.long x)) st M nc ns Q) : zX Z l d mm pc L ((.long x) :: st) M nc ns Q := by
  subst hn
  intro p e R s m args below meth c H locs cells slots QF ls C hl hM hS hc hs hE
  exact lv_lstore_n C.1 C.2.1 hd rfl hl hb rfl (fun ls' hl' => k p e R s m args below meth c H locs cells slots QF ls' C hl' hM hS hc hs hE)
theorem zs_lstore {i : Nat} {x : Int64} (hd : decode (zMC mm) pc = .ok (.lstore i, 2)) (hb : i + 1 < zML mm) (hn : pc + 2 = n) (k : zX Z l d mm n (zp2 L i (.long x)) st M nc ns Q) : zX Z l d mm pc L ((.long x) :: st) M nc ns Q := by
  subst hn
  intro p e R s m args below meth c H locs cells slots QF ls C hl hM hS hc hs hE
  exact lv_lstore C.1 C.2.1 hd hl hb rfl (fun ls' hl' => k p e R s m args below meth c H locs cells slots QF ls' C hl' hM hS hc hs hE)
theorem zs_fstore_n {q : Fin 4} {x : UInt32} (hd : decode (zMC mm) pc = .ok (.fstore_n q, 1)) (hb : q.val < zML mm) (hn : pc + 1 = n) (k : zX Z l d mm n (zp1 L q.val (.float x)) st M nc ns Q) : zX Z l d mm pc L ((.float x) :: st) M nc ns Q := by
  subst hn
  intro p e R s m args below meth c H locs cells slots QF ls C hl hM hS hc hs hE
  exact lv_fstore_n C.1 C.2.1 hd rfl hl hb rfl (fun ls' hl' => k p e R s m args below meth c H locs cells slots QF ls' C hl' hM hS hc hs hE)
theorem zs_fstore {i : Nat} {x : UInt32} (hd : decode (zMC mm) pc = .ok (.fstore i, 2)) (hb : i < zML mm) (hn : pc + 2 = n) (k : zX Z l d mm n (zp1 L i (.float x)) st M nc ns Q) : zX Z l d mm pc L ((.float x) :: st) M nc ns Q := by
  subst hn
  intro p e R s m args below meth c H locs cells slots QF ls C hl hM hS hc hs hE
  exact lv_fstore C.1 C.2.1 hd hl hb rfl (fun ls' hl' => k p e R s m args below meth c H locs cells slots QF ls' C hl' hM hS hc hs hE)
theorem zs_dstore_n {q : Fin 4} {x : UInt64} (hd : decode (zMC mm) pc = .ok (.dstore_n q, 1)) (hb : q.val + 1 < zML mm) (hn : pc + 1 = n) (k : zX Z l d mm n (zp2 L q.val (.double x)) st M nc ns Q) : zX Z l d mm pc L ((.double x) :: st) M nc ns Q := by
  subst hn
  intro p e R s m args below meth c H locs cells slots QF ls C hl hM hS hc hs hE
  exact lv_dstore_n C.1 C.2.1 hd rfl hl hb rfl (fun ls' hl' => k p e R s m args below meth c H locs cells slots QF ls' C hl' hM hS hc hs hE)
theorem zs_dstore {i : Nat} {x : UInt64} (hd : decode (zMC mm) pc = .ok (.dstore i, 2)) (hb : i + 1 < zML mm) (hn : pc + 2 = n) (k : zX Z l d mm n (zp2 L i (.double x)) st M nc ns Q) : zX Z l d mm pc L ((.double x) :: st) M nc ns Q := by
  subst hn
  intro p e R s m args below meth c H locs cells slots QF ls C hl hM hS hc hs hE
  exact lv_dstore C.1 C.2.1 hd hl hb rfl (fun ls' hl' => k p e R s m args below meth c H locs cells slots QF ls' C hl' hM hS hc hs hE)
theorem zs_astore_n {q : Fin 4} {x : Nat} (hd : decode (zMC mm) pc = .ok (.astore_n q, 1)) (hb : q.val < zML mm) (hn : pc + 1 = n) (k : zX Z l d mm n (zp1 L q.val (.ref x)) st M nc ns Q) : zX Z l d mm pc L ((.ref x) :: st) M nc ns Q := by
  subst hn
  intro p e R s m args below meth c H locs cells slots QF ls C hl hM hS hc hs hE
  exact lv_astore_n C.1 C.2.1 hd rfl hl hb rfl (fun ls' hl' => k p e R s m args below meth c H locs cells slots QF ls' C hl' hM hS hc hs hE)
theorem zs_astore {i : Nat} {x : Nat} (hd : decode (zMC mm) pc = .ok (.astore i, 2)) (hb : i < zML mm) (hn : pc + 2 = n) (k : zX Z l d mm n (zp1 L i (.ref x)) st M nc ns Q) : zX Z l d mm pc L ((.ref x) :: st) M nc ns Q := by
  subst hn
  intro p e R s m args below meth c H locs cells slots QF ls C hl hM hS hc hs hE
  exact lv_astore C.1 C.2.1 hd hl hb rfl (fun ls' hl' => k p e R s m args below meth c H locs cells slots QF ls' C hl' hM hS hc hs hE)
theorem zs_astore_nN {q : Fin 4} (hd : decode (zMC mm) pc = .ok (.astore_n q, 1)) (hb : q.val < zML mm) (hn : pc + 1 = n) (k : zX Z l d mm n (zp1 L q.val Value.null) st M nc ns Q) : zX Z l d mm pc L (Value.null :: st) M nc ns Q := by
  subst hn
  intro p e R s m args below meth c H locs cells slots QF ls C hl hM hS hc hs hE
  exact lv_astore_nN C.1 C.2.1 hd rfl hl hb rfl (fun ls' hl' => k p e R s m args below meth c H locs cells slots QF ls' C hl' hM hS hc hs hE)
theorem zs_astoreN {i : Nat} (hd : decode (zMC mm) pc = .ok (.astore i, 2)) (hb : i < zML mm) (hn : pc + 2 = n) (k : zX Z l d mm n (zp1 L i Value.null) st M nc ns Q) : zX Z l d mm pc L (Value.null :: st) M nc ns Q := by
  subst hn
  intro p e R s m args below meth c H locs cells slots QF ls C hl hM hS hc hs hE
  exact lv_astoreN C.1 C.2.1 hd hl hb rfl (fun ls' hl' => k p e R s m args below meth c H locs cells slots QF ls' C hl' hM hS hc hs hE)
theorem zs_iinc {i : Nat} {z : Int} {x v : Int32} (hd : decode (zMC mm) pc = .ok (.iinc i z, 3)) (hg : zg L i = some (.int x)) (hv : x + Int32.ofInt z = v) (hb : i < zML mm) (hn : pc + 3 = n) (k : zX Z l d mm n (zp1 L i (.int v)) st M nc ns Q) : zX Z l d mm pc L st M nc ns Q := by
  subst hn
  intro p e R s m args below meth c H locs cells slots QF ls C hl hM hS hc hs hE
  obtain ⟨j, hj⟩ := List.getElem?_of_mem (zg_mem hg)
  exact lv_iinc C.1 C.2.1 hd hl hj hv hb rfl (fun ls' hl' => k p e R s m args below meth c H locs cells slots QF ls' C hl' hM hS hc hs hE)
theorem zs_iadd {x y : Int32} (hd : decode (zMC mm) pc = .ok (.iadd, 1)) (hn : pc + 1 = n) (k : zX Z l d mm n L (.int (x + y) :: st) M nc ns Q) : zX Z l d mm pc L (.int y :: .int x :: st) M nc ns Q := by
  subst hn
  intro p e R s m args below meth c H locs cells slots QF ls C hl hM hS hc hs hE
  exact lv_iadd C.1 C.2.1 hd  (k p e R s m args below meth c H locs cells slots QF ls C hl hM hS hc hs hE)
theorem zs_isub {x y : Int32} (hd : decode (zMC mm) pc = .ok (.isub, 1)) (hn : pc + 1 = n) (k : zX Z l d mm n L (.int (x - y) :: st) M nc ns Q) : zX Z l d mm pc L (.int y :: .int x :: st) M nc ns Q := by
  subst hn
  intro p e R s m args below meth c H locs cells slots QF ls C hl hM hS hc hs hE
  exact lv_isub C.1 C.2.1 hd  (k p e R s m args below meth c H locs cells slots QF ls C hl hM hS hc hs hE)
theorem zs_imul {x y : Int32} (hd : decode (zMC mm) pc = .ok (.imul, 1)) (hn : pc + 1 = n) (k : zX Z l d mm n L (.int (x * y) :: st) M nc ns Q) : zX Z l d mm pc L (.int y :: .int x :: st) M nc ns Q := by
  subst hn
  intro p e R s m args below meth c H locs cells slots QF ls C hl hM hS hc hs hE
  exact lv_imul C.1 C.2.1 hd  (k p e R s m args below meth c H locs cells slots QF ls C hl hM hS hc hs hE)
theorem zs_iand {x y : Int32} (hd : decode (zMC mm) pc = .ok (.iand, 1)) (hn : pc + 1 = n) (k : zX Z l d mm n L (.int (x &&& y) :: st) M nc ns Q) : zX Z l d mm pc L (.int y :: .int x :: st) M nc ns Q := by
  subst hn
  intro p e R s m args below meth c H locs cells slots QF ls C hl hM hS hc hs hE
  exact lv_iand C.1 C.2.1 hd  (k p e R s m args below meth c H locs cells slots QF ls C hl hM hS hc hs hE)
theorem zs_ior {x y : Int32} (hd : decode (zMC mm) pc = .ok (.ior, 1)) (hn : pc + 1 = n) (k : zX Z l d mm n L (.int (x ||| y) :: st) M nc ns Q) : zX Z l d mm pc L (.int y :: .int x :: st) M nc ns Q := by
  subst hn
  intro p e R s m args below meth c H locs cells slots QF ls C hl hM hS hc hs hE
  exact lv_ior C.1 C.2.1 hd  (k p e R s m args below meth c H locs cells slots QF ls C hl hM hS hc hs hE)
theorem zs_ixor {x y : Int32} (hd : decode (zMC mm) pc = .ok (.ixor, 1)) (hn : pc + 1 = n) (k : zX Z l d mm n L (.int (x ^^^ y) :: st) M nc ns Q) : zX Z l d mm pc L (.int y :: .int x :: st) M nc ns Q := by
  subst hn
  intro p e R s m args below meth c H locs cells slots QF ls C hl hM hS hc hs hE
  exact lv_ixor C.1 C.2.1 hd  (k p e R s m args below meth c H locs cells slots QF ls C hl hM hS hc hs hE)
theorem zs_idiv {x y : Int32} (hd : decode (zMC mm) pc = .ok (.idiv, 1)) (hne : ¬ y = 0) (hn : pc + 1 = n) (k : zX Z l d mm n L (.int (x / y) :: st) M nc ns Q) : zX Z l d mm pc L (.int y :: .int x :: st) M nc ns Q := by
  subst hn
  intro p e R s m args below meth c H locs cells slots QF ls C hl hM hS hc hs hE
  exact lv_idiv C.1 C.2.1 hd hne (k p e R s m args below meth c H locs cells slots QF ls C hl hM hS hc hs hE)
theorem zs_irem {x y : Int32} (hd : decode (zMC mm) pc = .ok (.irem, 1)) (hne : ¬ y = 0) (hn : pc + 1 = n) (k : zX Z l d mm n L (.int (x - x / y * y) :: st) M nc ns Q) : zX Z l d mm pc L (.int y :: .int x :: st) M nc ns Q := by
  subst hn
  intro p e R s m args below meth c H locs cells slots QF ls C hl hM hS hc hs hE
  exact lv_irem C.1 C.2.1 hd hne (k p e R s m args below meth c H locs cells slots QF ls C hl hM hS hc hs hE)
theorem zs_ineg {x : Int32} (hd : decode (zMC mm) pc = .ok (.ineg, 1)) (hn : pc + 1 = n) (k : zX Z l d mm n L (.int (-x) :: st) M nc ns Q) : zX Z l d mm pc L (.int x :: st) M nc ns Q := by
  subst hn
  intro p e R s m args below meth c H locs cells slots QF ls C hl hM hS hc hs hE
  exact lv_ineg C.1 C.2.1 hd  (k p e R s m args below meth c H locs cells slots QF ls C hl hM hS hc hs hE)
theorem zs_ishl {x y : Int32} (hd : decode (zMC mm) pc = .ok (.ishl, 1)) (hn : pc + 1 = n) (k : zX Z l d mm n L (.int (x <<< (y &&& 31)) :: st) M nc ns Q) : zX Z l d mm pc L (.int y :: .int x :: st) M nc ns Q := by
  subst hn
  intro p e R s m args below meth c H locs cells slots QF ls C hl hM hS hc hs hE
  exact lv_ishl C.1 C.2.1 hd  (k p e R s m args below meth c H locs cells slots QF ls C hl hM hS hc hs hE)
theorem zs_ishr {x y : Int32} (hd : decode (zMC mm) pc = .ok (.ishr, 1)) (hn : pc + 1 = n) (k : zX Z l d mm n L (.int (x >>> (y &&& 31)) :: st) M nc ns Q) : zX Z l d mm pc L (.int y :: .int x :: st) M nc ns Q := by
  subst hn
  intro p e R s m args below meth c H locs cells slots QF ls C hl hM hS hc hs hE
  exact lv_ishr C.1 C.2.1 hd  (k p e R s m args below meth c H locs cells slots QF ls C hl hM hS hc hs hE)
theorem zs_iushr {x y v : Int32} (hd : decode (zMC mm) pc = .ok (.iushr, 1)) (hv : (x.toUInt32 >>> (y.toUInt32 &&& Int32.toUInt32 31)).toInt32 = v) (hn : pc + 1 = n) (k : zX Z l d mm n L (.int v :: st) M nc ns Q) : zX Z l d mm pc L (.int y :: .int x :: st) M nc ns Q := by
  subst hn
  intro p e R s m args below meth c H locs cells slots QF ls C hl hM hS hc hs hE
  exact lv_iushr C.1 C.2.1 hd hv (k p e R s m args below meth c H locs cells slots QF ls C hl hM hS hc hs hE)
theorem zs_ladd {x y : Int64} (hd : decode (zMC mm) pc = .ok (.ladd, 1)) (hn : pc + 1 = n) (k : zX Z l d mm n L (.long (x + y) :: st) M nc ns Q) : zX Z l d mm pc L (.long y :: .long x :: st) M nc ns Q := by
  subst hn
  intro p e R s m args below meth c H locs cells slots QF ls C hl hM hS hc hs hE
  exact lv_ladd C.1 C.2.1 hd  (k p e R s m args below meth c H locs cells slots QF ls C hl hM hS hc hs hE)
theorem zs_lmul {x y : Int64} (hd : decode (zMC mm) pc = .ok (.lmul, 1)) (hn : pc + 1 = n) (k : zX Z l d mm n L (.long (x * y) :: st) M nc ns Q) : zX Z l d mm pc L (.long y :: .long x :: st) M nc ns Q := by
  subst hn
  intro p e R s m args below meth c H locs cells slots QF ls C hl hM hS hc hs hE
  exact lv_lmul C.1 C.2.1 hd  (k p e R s m args below meth c H locs cells slots QF ls C hl hM hS hc hs hE)
theorem zs_lrem {x y : Int64} (hd : decode (zMC mm) pc = .ok (.lrem, 1)) (hne : ¬ y = 0) (hn : pc + 1 = n) (k : zX Z l d mm n L (.long (x - x / y * y) :: st) M nc ns Q) : zX Z l d mm pc L (.long y :: .long x :: st) M nc ns Q := by
  subst hn
  intro p e R s m args below meth c H locs cells slots QF ls C hl hM hS hc hs hE
  exact lv_lrem C.1 C.2.1 hd hne (k p e R s m args below meth c H locs cells slots QF ls C hl hM hS hc hs hE)
theorem zs_lcmp {x y : Int64} (hd : decode (zMC mm) pc = .ok (.lcmp, 1)) (hn : pc + 1 = n) (k : zX Z l d mm n L (.int (lg_cmp x y) :: st) M nc ns Q) : zX Z l d mm pc L (.long y :: .long x :: st) M nc ns Q := by
  subst hn
  intro p e R s m args below meth c H locs cells slots QF ls C hl hM hS hc hs hE
  exact W.lcmp C.1 C.2.1 hd  (k p e R s m args below meth c H locs cells slots QF ls C hl hM hS hc hs hE)
theorem zs_i2l {x : Int32} (hd : decode (zMC mm) pc = .ok (.i2l, 1)) (hn : pc + 1 = n) (k : zX Z l d mm n L (.long x.toInt64 :: st) M nc ns Q) : zX Z l d mm pc L (.int x :: st) M nc ns Q := by
  subst hn
  intro p e R s m args below meth c H locs cells slots QF ls C hl hM hS hc hs hE
  exact lv_i2l C.1 C.2.1 hd rfl (k p e R s m args below meth c H locs cells slots QF ls C hl hM hS hc hs hE)
theorem zs_l2i {x : Int64} (hd : decode (zMC mm) pc = .ok (.l2i, 1)) (hn : pc + 1 = n) (k : zX Z l d mm n L (.int x.toInt32 :: st) M nc ns Q) : zX Z l d mm pc L (.long x :: st) M nc ns Q := by
  subst hn
  intro p e R s m args below meth c H locs cells slots QF ls C hl hM hS hc hs hE
  exact lv_l2i C.1 C.2.1 hd rfl (k p e R s m args below meth c H locs cells slots QF ls C hl hM hS hc hs hE)
theorem zs_i2c {x : Int32} (hd : decode (zMC mm) pc = .ok (.i2c, 1)) (hn : pc + 1 = n) (k : zX Z l d mm n L (.int (x.toUInt32 % 65536).toInt32 :: st) M nc ns Q) : zX Z l d mm pc L (.int x :: st) M nc ns Q := by
  subst hn
  intro p e R s m args below meth c H locs cells slots QF ls C hl hM hS hc hs hE
  exact lv_i2c C.1 C.2.1 hd rfl (k p e R s m args below meth c H locs cells slots QF ls C hl hM hS hc hs hE)
theorem zs_i2f {x : Int32} (hd : decode (zMC mm) pc = .ok (.i2f, 1)) (hn : pc + 1 = n) (k : zX Z l d mm n L (.float (FP.i2f x) :: st) M nc ns Q) : zX Z l d mm pc L (.int x :: st) M nc ns Q := by
  subst hn
  intro p e R s m args below meth c H locs cells slots QF ls C hl hM hS hc hs hE
  exact lv_i2f C.1 C.2.1 hd  (k p e R s m args below meth c H locs cells slots QF ls C hl hM hS hc hs hE)
theorem zs_i2d {x : Int32} (hd : decode (zMC mm) pc = .ok (.i2d, 1)) (hn : pc + 1 = n) (k : zX Z l d mm n L (.double (FP.i2d x) :: st) M nc ns Q) : zX Z l d mm pc L (.int x :: st) M nc ns Q := by
  subst hn
  intro p e R s m args below meth c H locs cells slots QF ls C hl hM hS hc hs hE
  exact lv_i2d C.1 C.2.1 hd  (k p e R s m args below meth c H locs cells slots QF ls C hl hM hS hc hs hE)
theorem zs_fdiv {x y : UInt32} (hd : decode (zMC mm) pc = .ok (.fdiv, 1)) (hne : vf_n32 (FP.fdiv x y)) (hn : pc + 1 = n) (k : zX Z l d mm n L (.float (FP.fdiv x y) :: st) M nc ns Q) : zX Z l d mm pc L (.float y :: .float x :: st) M nc ns Q := by
  subst hn
  intro p e R s m args below meth c H locs cells slots QF ls C hl hM hS hc hs hE
  exact lv_fdiv C.1 C.2.1 hd hne (k p e R s m args below meth c H locs cells slots QF ls C hl hM hS hc hs hE)
theorem zs_ddiv {x y : UInt64} (hd : decode (zMC mm) pc = .ok (.ddiv, 1)) (hne : vf_n64 (FP.ddiv x y)) (hn : pc + 1 = n) (k : zX Z l d mm n L (.double (FP.ddiv x y) :: st) M nc ns Q) : zX Z l d mm pc L (.double y :: .double x :: st) M nc ns Q := by
  subst hn
  intro p e R s m args below meth c H locs cells slots QF ls C hl hM hS hc hs hE
  exact lv_ddiv C.1 C.2.1 hd hne (k p e R s m args below meth c H locs cells slots QF ls C hl hM hS hc hs hE)
theorem zs_f2d {x : UInt32} (hd : decode (zMC mm) pc = .ok (.f2d, 1)) (hne : vf_n64 (FP.f2d x)) (hn : pc + 1 = n) (k : zX Z l d mm n L (.double (FP.f2d x) :: st) M nc ns Q) : zX Z l d mm pc L (.float x :: st) M nc ns Q := by
  subst hn
  intro p e R s m args below meth c H locs cells slots QF ls C hl hM hS hc hs hE
  exact lv_f2d C.1 C.2.1 hd hne (k p e R s m args below meth c H locs cells slots QF ls C hl hM hS hc hs hE)
theorem zs_dcmp {x y : UInt64} {op : CmpOp} (hd : decode (zMC mm) pc = .ok (.dcmp op, 1)) (hn : pc + 1 = n) (k : zX Z l d mm n L (.int (Op.cmpValue (FP.dcmp x y) op) :: st) M nc ns Q) : zX Z l d mm pc L (.double y :: .double x :: st) M nc ns Q := by
  subst hn
  intro p e R s m args below meth c H locs cells slots QF ls C hl hM hS hc hs hE
  exact lv_dcmp C.1 C.2.1 hd  (k p e R s m args below meth c H locs cells slots QF ls C hl hM hS hc hs hE)
theorem zs_fcmp {x y : UInt32} {op : CmpOp} (hd : decode (zMC mm) pc = .ok (.fcmp op, 1)) (hn : pc + 1 = n) (k : zX Z l d mm n L (.int (Op.cmpValue (FP.fcmp x y) op) :: st) M nc ns Q) : zX Z l d mm pc L (.float y :: .float x :: st) M nc ns Q := by
  subst hn
  intro p e R s m args below meth c H locs cells slots QF ls C hl hM hS hc hs hE
  exact lv_fcmp C.1 C.2.1 hd  (k p e R s m args below meth c H locs cells slots QF ls C hl hM hS hc hs hE)
theorem zs_dup {v : Value} (hd : decode (zMC mm) pc = .ok (.dup, 1)) (h1 : v.category = 1) (hn : pc + 1 = n) (k : zX Z l d mm n L (v :: v :: st) M nc ns Q) : zX Z l d mm pc L (v :: st) M nc ns Q := by
  subst hn
  intro p e R s m args below meth c H locs cells slots QF ls C hl hM hS hc hs hE
  exact lv_dup C.1 C.2.1 hd h1 (k p e R s m args below meth c H locs cells slots QF ls C hl hM hS hc hs hE)
theorem zs_pop {v : Value} (hd : decode (zMC mm) pc = .ok (.pop, 1)) (h1 : v.category = 1) (hn : pc + 1 = n) (k : zX Z l d mm n L (st) M nc ns Q) : zX Z l d mm pc L (v :: st) M nc ns Q := by
  subst hn
  intro p e R s m args below meth c H locs cells slots QF ls C hl hM hS hc hs hE
  exact lv_pop C.1 C.2.1 hd h1 (k p e R s m args below meth c H locs cells slots QF ls C hl hM hS hc hs hE)
theorem zs_dup_x1 {v w : Value} (hd : decode (zMC mm) pc = .ok (.dup_x1, 1)) (h1 : v.category = 1) (h2 : w.category = 1) (hn : pc + 1 = n) (k : zX Z l d mm n L (v :: w :: v :: st) M nc ns Q) : zX Z l d mm pc L (v :: w :: st) M nc ns Q := by
  subst hn
  intro p e R s m args below meth c H locs cells slots QF ls C hl hM hS hc hs hE
  exact lv_dup_x1 C.1 C.2.1 hd h1 h2 (k p e R s m args below meth c H locs cells slots QF ls C hl hM hS hc hs hE)
theorem zs_dup2 {v w : Value} (hd : decode (zMC mm) pc = .ok (.dup2, 1)) (h1 : v.category = 1) (h2 : w.category = 1) (hn : pc + 1 = n) (k : zX Z l d mm n L (v :: w :: v :: w :: st) M nc ns Q) : zX Z l d mm pc L (v :: w :: st) M nc ns Q := by
  subst hn
  intro p e R s m args below meth c H locs cells slots QF ls C hl hM hS hc hs hE
  exact lv_dup2_11 C.1 C.2.1 hd h1 h2 (k p e R s m args below meth c H locs cells slots QF ls C hl hM hS hc hs hE)
theorem zs_if_eq {x : Int32} {off : Int} {tgt : Nat} (hd : decode (zMC mm) pc = .ok (.ifCond .eq off, 3)) (ht : (pc : Int) + off = (tgt : Int)) (hn : pc + 3 = n) (kt : x = 0 → zX Z l d mm tgt L st M nc ns Q) (kf : ¬ x = 0 → zX Z l d mm n L st M nc ns Q) : zX Z l d mm pc L (.int x :: st) M nc ns Q := by
  subst hn
  intro p e R s m args below meth c H locs cells slots QF ls C hl hM hS hc hs hE
  exact lv_if_eq C.1 C.2.1 hd ht (fun h => kt h p e R s m args below meth c H locs cells slots QF ls C hl hM hS hc hs hE) (fun h => kf h p e R s m args below meth c H locs cells slots QF ls C hl hM hS hc hs hE)
theorem zs_icmp_eq {x y : Int32} {off : Int} {tgt : Nat} (hd : decode (zMC mm) pc = .ok (.if_icmp .eq off, 3)) (ht : (pc : Int) + off = (tgt : Int)) (hn : pc + 3 = n) (kt : x = y → zX Z l d mm tgt L st M nc ns Q) (kf : ¬ x = y → zX Z l d mm n L st M nc ns Q) : zX Z l d mm pc L (.int y :: .int x :: st) M nc ns Q := by
  subst hn
  intro p e R s m args below meth c H locs cells slots QF ls C hl hM hS hc hs hE
  exact lv_icmp_eq C.1 C.2.1 hd ht (fun h => kt h p e R s m args below meth c H locs cells slots QF ls C hl hM hS hc hs hE) (fun h => kf h p e R s m args below meth c H locs cells slots QF ls C hl hM hS hc hs hE)
theorem zs_if_ne {x : Int32} {off : Int} {tgt : Nat} (hd : decode (zMC mm) pc = .ok (.ifCond .ne off, 3)) (ht : (pc : Int) + off = (tgt : Int)) (hn : pc + 3 = n) (kt : ¬ x = 0 → zX Z l d mm tgt L st M nc ns Q) (kf : x = 0 → zX Z l d mm n L st M nc ns Q) : zX Z l d mm pc L (.int x :: st) M nc ns Q := by
  subst hn
  intro p e R s m args below meth c H locs cells slots QF ls C hl hM hS hc hs hE
  exact lv_if_ne C.1 C.2.1 hd ht (fun h => kt h p e R s m args below meth c H locs cells slots QF ls C hl hM hS hc hs hE) (fun h => kf h p e R s m args below meth c H locs cells slots QF ls C hl hM hS hc hs hE)
theorem zs_icmp_ne {x y : Int32} {off : Int} {tgt : Nat} (hd : decode (zMC mm) pc = .ok (.if_icmp .ne off, 3)) (ht : (pc : Int) + off = (tgt : Int)) (hn : pc + 3 = n) (kt : ¬ x = y → zX Z l d mm tgt L st M nc ns Q) (kf : x = y → zX Z l d mm n L st M nc ns Q) : zX Z l d mm pc L (.int y :: .int x :: st) M nc ns Q := by
  subst hn
  intro p e R s m args below meth c H locs cells slots QF ls C hl hM hS hc hs hE
  exact lv_icmp_ne C.1 C.2.1 hd ht (fun h => kt h p e R s m args below meth c H locs cells slots QF ls C hl hM hS hc hs hE) (fun h => kf h p e R s m args below meth c H locs cells slots QF ls C hl hM hS hc hs hE)
theorem zs_if_lt {x : Int32} {off : Int} {tgt : Nat} (hd : decode (zMC mm) pc = .ok (.ifCond .lt off, 3)) (ht : (pc : Int) + off = (tgt : Int)) (hn : pc + 3 = n) (kt : x < 0 → zX Z l d mm tgt L st M nc ns Q) (kf : ¬ x < 0 → zX Z l d mm n L st M nc ns Q) : zX Z l d mm pc L (.int x :: st) M nc ns Q := by
  subst hn
  intro p e R s m args below meth c H locs cells slots QF ls C hl hM hS hc hs hE
  exact lv_if_lt C.1 C.2.1 hd ht (fun h => kt h p e R s m args below meth c H locs cells slots QF ls C hl hM hS hc hs hE) (fun h => kf h p e R s m args below meth c H locs cells slots QF ls C hl hM hS hc hs hE)
theorem zs_icmp_lt {x y : Int32} {off : Int} {tgt : Nat} (hd : decode (zMC mm) pc = .ok (.if_icmp .lt off, 3)) (ht : (pc : Int) + off = (tgt : Int)) (hn : pc + 3 = n) (kt : x < y → zX Z l d mm tgt L st M nc ns Q) (kf : ¬ x < y → zX Z l d mm n L st M nc ns Q) : zX Z l d mm pc L (.int y :: .int x :: st) M nc ns Q := by
  subst hn
  intro p e R s m args below meth c H locs cells slots QF ls C hl hM hS hc hs hE
  exact lv_icmp_lt C.1 C.2.1 hd ht (fun h => kt h p e R s m args below meth c H locs cells slots QF ls C hl hM hS hc hs hE) (fun h => kf h p e R s m args below meth c H locs cells slots QF ls C hl hM hS hc hs hE)
theorem zs_if_ge {x : Int32} {off : Int} {tgt : Nat} (hd : decode (zMC mm) pc = .ok (.ifCond .ge off, 3)) (ht : (pc : Int) + off = (tgt : Int)) (hn : pc + 3 = n) (kt : 0 ≤ x → zX Z l d mm tgt L st M nc ns Q) (kf : ¬ 0 ≤ x → zX Z l d mm n L st M nc ns Q) : zX Z l d mm pc L (.int x :: st) M nc ns Q := by
  subst hn
  intro p e R s m args below meth c H locs cells slots QF ls C hl hM hS hc hs hE
  exact lv_if_ge C.1 C.2.1 hd ht (fun h => kt h p e R s m args below meth c H locs cells slots QF ls C hl hM hS hc hs hE) (fun h => kf h p e R s m args below meth c H locs cells slots QF ls C hl hM hS hc hs hE)
theorem zs_icmp_ge {x y : Int32} {off : Int} {tgt : Nat} (hd : decode (zMC mm) pc = .ok (.if_icmp .ge off, 3)) (ht : (pc : Int) + off = (tgt : Int)) (hn : pc + 3 = n) (kt : y ≤ x → zX Z l d mm tgt L st M nc ns Q) (kf : ¬ y ≤ x → zX Z l d mm n L st M nc ns Q) : zX Z l d mm pc L (.int y :: .int x :: st) M nc ns Q := by
  subst hn
  intro p e R s m args below meth c H locs cells slots QF ls C hl hM hS hc hs hE
  exact lv_icmp_ge C.1 C.2.1 hd ht (fun h => kt h p e R s m args below meth c H locs cells slots QF ls C hl hM hS hc hs hE) (fun h => kf h p e R s m args below meth c H locs cells slots QF ls C hl hM hS hc hs hE)
theorem zs_if_gt {x : Int32} {off : Int} {tgt : Nat} (hd : decode (zMC mm) pc = .ok (.ifCond .gt off, 3)) (ht : (pc : Int) + off = (tgt : Int)) (hn : pc + 3 = n) (kt : 0 < x → zX Z l d mm tgt L st M nc ns Q) (kf : ¬ 0 < x → zX Z l d mm n L st M nc ns Q) : zX Z l d mm pc L (.int x :: st) M nc ns Q := by
  subst hn
  intro p e R s m args below meth c H locs cells slots QF ls C hl hM hS hc hs hE
  exact lv_if_gt C.1 C.2.1 hd ht (fun h => kt h p e R s m args below meth c H locs cells slots QF ls C hl hM hS hc hs hE) (fun h => kf h p e R s m args below meth c H locs cells slots QF ls C hl hM hS hc hs hE)
theorem zs_icmp_gt {x y : Int32} {off : Int} {tgt : Nat} (hd : decode (zMC mm) pc = .ok (.if_icmp .gt off, 3)) (ht : (pc : Int) + off = (tgt : Int)) (hn : pc + 3 = n) (kt : y < x → zX Z l d mm tgt L st M nc ns Q) (kf : ¬ y < x → zX Z l d mm n L st M nc ns Q) : zX Z l d mm pc L (.int y :: .int x :: st) M nc ns Q := by
  subst hn
  intro p e R s m args below meth c H locs cells slots QF ls C hl hM hS hc hs hE
  exact lv_icmp_gt C.1 C.2.1 hd ht (fun h => kt h p e R s m args below meth c H locs cells slots QF ls C hl hM hS hc hs hE) (fun h => kf h p e R s m args below meth c H locs cells slots QF ls C hl hM hS hc hs hE)
theorem zs_if_le {x : Int32} {off : Int} {tgt : Nat} (hd : decode (zMC mm) pc = .ok (.ifCond .le off, 3)) (ht : (pc : Int) + off = (tgt : Int)) (hn : pc + 3 = n) (kt : x ≤ 0 → zX Z l d mm tgt L st M nc ns Q) (kf : ¬ x ≤ 0 → zX Z l d mm n L st M nc ns Q) : zX Z l d mm pc L (.int x :: st) M nc ns Q := by
  subst hn
  intro p e R s m args below meth c H locs cells slots QF ls C hl hM hS hc hs hE
  exact lv_if_le C.1 C.2.1 hd ht (fun h => kt h p e R s m args below meth c H locs cells slots QF ls C hl hM hS hc hs hE) (fun h => kf h p e R s m args below meth c H locs cells slots QF ls C hl hM hS hc hs hE)
theorem zs_icmp_le {x y : Int32} {off : Int} {tgt : Nat} (hd : decode (zMC mm) pc = .ok (.if_icmp .le off, 3)) (ht : (pc : Int) + off = (tgt : Int)) (hn : pc + 3 = n) (kt : x ≤ y → zX Z l d mm tgt L st M nc ns Q) (kf : ¬ x ≤ y → zX Z l d mm n L st M nc ns Q) : zX Z l d mm pc L (.int y :: .int x :: st) M nc ns Q := by
  subst hn
  intro p e R s m args below meth c H locs cells slots QF ls C hl hM hS hc hs hE
  exact lv_icmp_le C.1 C.2.1 hd ht (fun h => kt h p e R s m args below meth c H locs cells slots QF ls C hl hM hS hc hs hE) (fun h => kf h p e R s m args below meth c H locs cells slots QF ls C hl hM hS hc hs hE)
theorem zs_acmp_eq {x y : Nat} {off : Int} {tgt : Nat} (hd : decode (zMC mm) pc = .ok (.if_acmp .eq off, 3)) (ht : (pc : Int) + off = (tgt : Int)) (hn : pc + 3 = n) (kt : x = y → zX Z l d mm tgt L st M nc ns Q) (kf : ¬ x = y → zX Z l d mm n L st M nc ns Q) : zX Z l d mm pc L (.ref y :: .ref x :: st) M nc ns Q := by
  subst hn
  intro p e R s m args below meth c H locs cells slots QF ls C hl hM hS hc hs hE
  exact lv_acmp_eq (rx := some x) (ry := some y) C.1 C.2.1 hd ht (fun h => kt (Option.some.inj h) p e R s m args below meth c H locs cells slots QF ls C hl hM hS hc hs hE) (fun h => kf (fun h2 => h (congrArg some h2)) p e R s m args below meth c H locs cells slots QF ls C hl hM hS hc hs hE)
theorem zs_acmp_ne {x y : Nat} {off : Int} {tgt : Nat} (hd : decode (zMC mm) pc = .ok (.if_acmp .ne off, 3)) (ht : (pc : Int) + off = (tgt : Int)) (hn : pc + 3 = n) (kt : ¬ x = y → zX Z l d mm tgt L st M nc ns Q) (kf : x = y → zX Z l d mm n L st M nc ns Q) : zX Z l d mm pc L (.ref y :: .ref x :: st) M nc ns Q := by
  subst hn
  intro p e R s m args below meth c H locs cells slots QF ls C hl hM hS hc hs hE
  exact lv_acmp_ne (rx := some x) (ry := some y) C.1 C.2.1 hd ht (fun h => kt (fun h2 => h (congrArg some h2)) p e R s m args below meth c H locs cells slots QF ls C hl hM hS hc hs hE) (fun h => kf (Option.some.inj h) p e R s m args below meth c H locs cells slots QF ls C hl hM hS hc hs hE)
theorem zs_goto {off : Int} {tgt : Nat} (hd : decode (zMC mm) pc = .ok (.goto off, 3)) (ht : (pc : Int) + off = (tgt : Int)) (k : zX Z l d mm tgt L st M nc ns Q) : zX Z l d mm pc L (st) M nc ns Q := by
  intro p e R s m args below meth c H locs cells slots QF ls C hl hM hS hc hs hE
  exact lv_goto C.1 C.2.1 hd ht (k p e R s m args below meth c H locs cells slots QF ls C hl hM hS hc hs hE)
theorem zs_ifnonnull {x : Nat} {off : Int} {tgt : Nat} (hd : decode (zMC mm) pc = .ok (.ifnonnull off, 3)) (ht : (pc : Int) + off = (tgt : Int)) (k : zX Z l d mm tgt L st M nc ns Q) : zX Z l d mm pc L (.ref x :: st) M nc ns Q := by
  intro p e R s m args below meth c H locs cells slots QF ls C hl hM hS hc hs hE
  exact lv_ifnonnull C.1 C.2.1 hd ht (k p e R s m args below meth c H locs cells slots QF ls C hl hM hS hc hs hE)
theorem zs_ifnonnullN {off : Int} (hd : decode (zMC mm) pc = .ok (.ifnonnull off, 3)) (hn : pc + 3 = n) (k : zX Z l d mm n L st M nc ns Q) : zX Z l d mm pc L (.null :: st) M nc ns Q := by
  subst hn
  intro p e R s m args below meth c H locs cells slots QF ls C hl hM hS hc hs hE
  exact lv_ifnonnullN C.1 C.2.1 hd (k p e R s m args below meth c H locs cells slots QF ls C hl hM hS hc hs hE)
theorem zs_ifnull {x : Nat} {off : Int} (hd : decode (zMC mm) pc = .ok (.ifnull off, 3)) (hn : pc + 3 = n) (k : zX Z l d mm n L st M nc ns Q) : zX Z l d mm pc L (.ref x :: st) M nc ns Q := by
  subst hn
  intro p e R s m args below meth c H locs cells slots QF ls C hl hM hS hc hs hE
  exact lv_ifnull C.1 C.2.1 hd (k p e R s m args below meth c H locs cells slots QF ls C hl hM hS hc hs hE)
theorem zs_ifnullN {off : Int} {tgt : Nat} (hd : decode (zMC mm) pc = .ok (.ifnull off, 3)) (ht : (pc : Int) + off = (tgt : Int)) (k : zX Z l d mm tgt L st M nc ns Q) : zX Z l d mm pc L (.null :: st) M nc ns Q := by
  intro p e R s m args below meth c H locs cells slots QF ls C hl hM hS hc hs hE
  exact lv_ifnullN C.1 C.2.1 hd ht (k p e R s m args below meth c H locs cells slots QF ls C hl hM hS hc hs hE)
theorem zs_lookup {dflt : Int} {ps : Array (Int × Int)} {len tgt : Nat} {x : Int32} {off : Int} (hd : decode (zMC mm) pc = .ok (.lookupswitch dflt ps, len)) (hp : (ps.toList.zip (ps.toList.drop 1)).all (fun (a, next) => a.1 < next.1) = true) (ho : Op.lookupswitch.offset ps.toList dflt x.toInt = off) (ht : (pc : Int) + off = (tgt : Int)) (k : zX Z l d mm tgt L st M nc ns Q) : zX Z l d mm pc L (.int x :: st) M nc ns Q := by
  intro p e R s m args below meth c H locs cells slots QF ls C hl hM hS hc hs hE
  exact lv_lookup C.1 C.2.1 hd hp ho ht (k p e R s m args below meth c H locs cells slots QF ls C hl hM hS hc hs hE)
theorem zs_tableOut {dflt lo hi : Int} {offs : Array Int} {len tgt : Nat} {x : Int32} (hd : decode (zMC mm) pc = .ok (.tableswitch dflt lo hi offs, len)) (h9 : x.toInt < lo ∨ hi < x.toInt) (ht : (pc : Int) + dflt = (tgt : Int)) (k : zX Z l d mm tgt L st M nc ns Q) : zX Z l d mm pc L (.int x :: st) M nc ns Q := by
  intro p e R s m args below meth c H locs cells slots QF ls C hl hM hS hc hs hE
  exact lv_tableOut C.1 C.2.1 hd h9 ht (k p e R s m args below meth c H locs cells slots QF ls C hl hM hS hc hs hE)
theorem zs_tableIn {dflt lo hi : Int} {offs : Array Int} {len tgt : Nat} {x : Int32} {off : Int} (hd : decode (zMC mm) pc = .ok (.tableswitch dflt lo hi offs, len)) (h1 : ¬ x.toInt < lo) (h2 : ¬ hi < x.toInt) (ho : offs[(x.toInt - lo).toNat]? = some off) (ht : (pc : Int) + off = (tgt : Int)) (k : zX Z l d mm tgt L st M nc ns Q) : zX Z l d mm pc L (.int x :: st) M nc ns Q := by
  intro p e R s m args below meth c H locs cells slots QF ls C hl hM hS hc hs hE
  exact lv_tableIn C.1 C.2.1 hd h1 h2 ho ht (k p e R s m args below meth c H locs cells slots QF ls C hl hM hS hc hs hE)
theorem zs_ireturn {x : Int32} (hd : decode (zMC mm) pc = .ok (.ireturn, 1)) (hr : ∃ ty, zMR mm = some ty ∧ narrow ty (.int x) = .int x) (h : Q (.inl (some (.int x))) M) : zX Z l d mm pc L [.int x] M nc ns Q := by
  intro p e R s m args below meth c H locs cells slots QF ls C hl hM hS hc hs hE
  exact hE.1 (some (.int x)) M H locs cells slots pc ls h hM hS (by omega) (by omega) ⟨hd, hr⟩
theorem zs_lreturn {x : Int64} (hd : decode (zMC mm) pc = .ok (.lreturn, 1)) (hr : zMR mm = some .long) (h : Q (.inl (some (.long x))) M) : zX Z l d mm pc L [.long x] M nc ns Q := by
  intro p e R s m args below meth c H locs cells slots QF ls C hl hM hS hc hs hE
  exact hE.1 (some (.long x)) M H locs cells slots pc ls h hM hS (by omega) (by omega) ⟨hd, hr⟩
theorem zs_freturn {x : UInt32} (hd : decode (zMC mm) pc = .ok (.freturn, 1)) (hr : zMR mm = some .float) (h : Q (.inl (some (.float x))) M) : zX Z l d mm pc L [.float x] M nc ns Q := by
  intro p e R s m args below meth c H locs cells slots QF ls C hl hM hS hc hs hE
  exact hE.1 (some (.float x)) M H locs cells slots pc ls h hM hS (by omega) (by omega) ⟨hd, hr⟩
theorem zs_dreturn {x : UInt64} (hd : decode (zMC mm) pc = .ok (.dreturn, 1)) (hr : zMR mm = some .double) (h : Q (.inl (some (.double x))) M) : zX Z l d mm pc L [.double x] M nc ns Q := by
  intro p e R s m args below meth c H locs cells slots QF ls C hl hM hS hc hs hE
  exact hE.1 (some (.double x)) M H locs cells slots pc ls h hM hS (by omega) (by omega) ⟨hd, hr⟩
theorem zs_areturn {x : Nat} (hd : decode (zMC mm) pc = .ok (.areturn, 1)) (hr : ∃ ty, zMR mm = some ty ∧ ((∃ n, ty = .object n) ∨ ∃ t, ty = .array t)) (h : Q (.inl (some (.ref x))) M) : zX Z l d mm pc L [.ref x] M nc ns Q := by
  intro p e R s m args below meth c H locs cells slots QF ls C hl hM hS hc hs hE
  exact hE.1 (some (.ref x)) M H locs cells slots pc ls h hM hS (by omega) (by omega) ⟨hd, hr⟩
theorem zs_areturnN (hd : decode (zMC mm) pc = .ok (.areturn, 1)) (hr : ∃ ty, zMR mm = some ty ∧ ((∃ n, ty = .object n) ∨ ∃ t, ty = .array t)) (h : Q (.inl (some (Value.null))) M) : zX Z l d mm pc L [Value.null] M nc ns Q := by
  intro p e R s m args below meth c H locs cells slots QF ls C hl hM hS hc hs hE
  exact hE.1 (some (Value.null)) M H locs cells slots pc ls h hM hS (by omega) (by omega) ⟨hd, hr⟩
theorem zs_return (hd : decode (zMC mm) pc = .ok (.return_, 1)) (hr : zMR mm = none) (h : Q (.inl (none)) M) : zX Z l d mm pc L [] M nc ns Q := by
  intro p e R s m args below meth c H locs cells slots QF ls C hl hM hS hc hs hE
  exact hE.1 (none) M H locs cells slots pc ls h hM hS (by omega) (by omega) ⟨hd, hr⟩
/-- throw new X("text") -/
theorem zs_throw {k ik is ic : Nat} {text : String} (ht : zThr mm pc k ik is ic text) (hh : zMH mm = []) (hr : (st.map fun v => v.category).sum ≤ 64) (h1 : 1 ≤ nc) (h6 : 6 ≤ ns) (h : Q (.inr k) M) : zX Z l d mm pc L st M nc ns Q := by
  intro p e R s m args below meth c H locs cells slots QF ls C hl hM hS hc hs hE
  exact hE.2.2 k M H locs cells slots pc ik is ic text ls st h hM hS (by omega) (by omega) (hl.1.trans C.2.2.1.symm) hr ht hh
end ZRULES
