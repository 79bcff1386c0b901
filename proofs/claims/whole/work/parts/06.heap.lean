/-! RULES over the memory: fields, new things, rows -/
abbrev zwd (w : Cond) : Prop := w ∈ lw_tbl ∧ zKeep w = true
def zCls (ci : Nat) (C : String) (T : u_T) (N : Nat) (ty : Nat → FieldType) : Prop := vwCl[ci]? = some (C, T, N) ∧ (∀ w ∈ u_ws C T N, zwd w) ∧ (∀ k, k < N → parseFieldDescriptor (T k).2.2.1 = some (ty k)) ∧ (∀ a, a < N → ∀ b, b < N → a ≠ b → (T a).2.1 ≠ (T b).2.1)
def zLk (own : String) (ix : Nat) (T : u_T) (k : Nat) : Prop := (∃ ref, zwd (.fieldLink own ix ref (T k).2.1 (T k).2.2.1) ∧ (ref = (T k).1 ∨ zwd (.sameField ref (T k).1 (T k).2.1 (T k).2.2.1))) ∨ ∃ host, zwd (.fieldLinkNest own ix (T k).1 (T k).2.1 (T k).2.2.1 host)
/-- a field that the code reads: its kind and its key -/
def zGF (own : String) (ix kind key : Nat) (isr : Bool) : Prop := ∃ ci k C T N ty, kind = 10 + ci ∧ key = 32 * ci + k ∧ zCls ci C T N ty ∧ k < N ∧ zLk own ix T k ∧ zrf ci k = isr
/-- a field that the code writes -/
def zPF (mm : zMeth) (ix kind key : Nat) (fty : FieldType) (isr : Bool) : Prop := ∃ ci k C T N ty, kind = 10 + ci ∧ key = 32 * ci + k ∧ zCls ci C T N ty ∧ k < N ∧ zLk (zMY mm).cls ix T k ∧ zrf ci k = isr ∧ ty k = fty ∧ ((T k).2.2.2 = false ∨ ((T k).2.2.2 = true ∧ (zMY mm).name = "<init>" ∧ (T k).1 = (zMY mm).cls ∧ zwd (.fieldLink (zMY mm).cls ix (T k).1 (T k).2.1 (T k).2.2.1)))
/-- a class of which the code makes objects, with N fields -/
def zNC (own : String) (ix kind N : Nat) : Prop := ∃ ci C T ty, kind = 10 + ci ∧ zCls ci C T N ty ∧ zwd (.classLink own ix C) ∧ zwd (.instantiable C N) ∧ zwd (.initialized C) ∧ ∀ j, j < N → defaultValue (ty j) = if zrf ci j then .null else .int 0
theorem zfn_of {ci : Nat} {C : String} {T : u_T} {N : Nat} (h : vwCl[ci]? = some (C, T, N)) : zfn ci = N := by unfold zfn; rw [h]
theorem zEnt_obj {Z : zPar} {M : zMem} {a ci : Nat} (h : mK M a = 10 + ci) : zEnt Z M a = .inr (ci, zfs M a ci) := by
  unfold zEnt
  rw [if_neg (by omega), if_neg (by omega), if_neg (by omega), if_neg (by omega), if_neg (by omega), if_neg (by omega), h]
  rw [show 10 + ci - 10 = ci by omega]
theorem zfs_at {M : zMem} {a ci k : Nat} (hk : k < zfn ci) : (zfs M a ci)[k]? = some (zfv M a ci k) := by
  unfold zfs
  rw [List.getElem?_map, List.getElem?_range hk]
  rfl
theorem zfs_len {M : zMem} {a ci : Nat} : (zfs M a ci).length = zfn ci := by simp [zfs]
theorem zfs_up {M M' : zMem} {a ci k : Nat} {v : Value} (hk : k < zfn ci) (hv : zfv M' a ci k = v) (ho : ∀ j, j ≠ k → zfv M' a ci j = zfv M a ci j) : zfs M' a ci = (zfs M a ci).set k v := by
  apply List.ext_getElem?
  intro j
  by_cases hj : j = k
  · subst hj
    rw [List.getElem?_set_self (by rw [zfs_len]; exact hk), zfs_at hk, hv]
  · rw [List.getElem?_set_ne (Ne.symm hj)]
    by_cases hj2 : j < zfn ci
    · rw [zfs_at hj2, zfs_at hj2, ho j hj]
    · rw [List.getElem?_eq_none (by rw [zfs_len]; omega), List.getElem?_eq_none (by rw [zfs_len]; omega)]
theorem zIn_set {Z : zPar} {M M' : zMem} {ws : va_W} {k0 a : Nat} {e0 e : va_E} (hk : ws[k0]? = some (a, e0)) (hI : zIn Z M ws) (hl : ∀ b, zLive M' b → zLive M b) (he : zEnt Z M' a = e) (ho : ∀ b, b ≠ a → zEnt Z M' b = zEnt Z M b) : zIn Z M' (ws.set k0 (a, e)) := by
  intro b hb
  by_cases hba : b = a
  · subst hba
    exact ⟨k0, by rw [List.getElem?_set_self (List.getElem?_eq_some_iff.mp hk).1, he]⟩
  · obtain ⟨k, hk'⟩ := hI b (hl b hb)
    refine ⟨k, ?_⟩
    have hne : k0 ≠ k := by
      intro q
      subst q
      rw [hk] at hk'
      cases hk'
      exact hba rfl
    rw [List.getElem?_set_ne hne, hk', ho b hba]
theorem zIn_new {Z : zPar} {M M' : zMem} {ws : va_W} {q : Nat} {e : va_E} (hI : zIn Z M ws) (hl : ∀ b, b ≠ q → zLive M' b → zLive M b) (he : zEnt Z M' q = e) (ho : ∀ b, b ≠ q → zEnt Z M' b = zEnt Z M b) : zIn Z M' (ws ++ [(q, e)]) := by
  intro b hb
  by_cases hba : b = q
  · subst hba
    exact ⟨ws.length, by rw [List.getElem?_append_right (Nat.le_refl _), Nat.sub_self, he]; rfl⟩
  · obtain ⟨k, hk'⟩ := hI b (hl b hba hb)
    refine ⟨k, ?_⟩
    rw [List.getElem?_append_left (List.getElem?_eq_some_iff.mp hk').1, hk', ho b hba]
theorem zFresh {Z : zPar} {M : zMem} {ws : va_W} {q : Nat} {e : va_E} (hI : zIn Z M ws) (hC : zCo Z M) (hD : va_D (zA Z) (ws ++ [(q, e)])) : mK M q = 0 := by
  have hlast : (ws ++ [(q, e)])[ws.length]? = some (q, e) := by rw [List.getElem?_append_right (Nat.le_refl _), Nat.sub_self]; rfl
  have hb : zPb Z ≤ q := hD.2 _ _ hlast
  by_cases h7 : mK M q = 7
  · have := (hC.1 q h7).2.1
    omega
  · by_cases h8 : mK M q = 8
    · obtain ⟨j, -, -, -, h⟩ := hC.2 q h8
      omega
    · by_cases h0 : mK M q = 0
      · exact h0
      · obtain ⟨k, hk⟩ := hI q ⟨h0, h7, h8⟩
        have hlt := (List.getElem?_eq_some_iff.mp hk).1
        have h1 : (ws ++ [(q, e)])[k]? = some (q, zEnt Z M q) := by rw [List.getElem?_append_left hlt]; exact hk
        have := hD.1 _ _ _ _ h1 hlast rfl
        omega
theorem zEnt_ne {Z : zPar} {M M' : zMem} {b : Nat} (h1 : mK M' b = mK M b) (h2 : mN M' b = mN M b) (h3 : vI M' b = vI M b) (h4 : vR M' b = vR M b) (h5 : aI M' b = aI M b) (h6 : aR M' b = aR M b) (h7 : aL M' b = aL M b) (h8 : aD M' b = aD M b) : zEnt Z M' b = zEnt Z M b := by
  unfold zEnt zfs zfv
  rw [h1, h2, h3, h4, h5, h6, h7, h8]
theorem u2_ne {α : Type} {f : Nat → Nat → α} {a k b : Nat} {v : α} (h : b ≠ a) : u2 f a k v b = f b := by funext j; unfold u2; rw [if_neg (fun q => h q.2)]
theorem u2_row {α : Type} {f : Nat → Nat → α} {a k : Nat} {v : α} : u2 f a k v a = fun j => if j = k then v else f a j := by funext j; unfold u2; simp
theorem u2_at {α : Type} {f : Nat → Nat → α} {a k : Nat} {v : α} : u2 f a k v a k = v := by unfold u2; simp
theorem u2_nk {α : Type} {f : Nat → Nat → α} {a k b j : Nat} {v : α} (h : j ≠ k) : u2 f a k v b j = f b j := by unfold u2; rw [if_neg (fun q => h q.1)]
theorem u1_ne {α : Type} {f : Nat → α} {a b : Nat} {v : α} (h : b ≠ a) : u1 f a v b = f b := by unfold u1; rw [if_neg h]
theorem u1_at {α : Type} {f : Nat → α} {a : Nat} {v : α} : u1 f a v a = v := by unfold u1; simp
section ZHEAP
variable {Z : zPar} {l : Launch} {d : Nat} {mm : zMeth} {pc n nc ns : Nat} {L : List (Nat × Value)} {st : List Value} {M : zMem} {Q : zO → zMem → Prop}
theorem zs_geto {ix a kind key : Nat} {isr : Bool} (hd : decode (zMC mm) pc = .ok (.getfield ix, 3)) (hf : zGF (zMY mm).cls ix kind key isr) (hK : mK M a = kind) (hn : pc + 3 = n) (kk : zX Z l d mm n L ((if isr then va_rf (vR M a key) else .int (vI M a key)) :: st) M nc ns Q) : zX Z l d mm pc L (.ref a :: st) M nc ns Q := by
  subst hn
  obtain ⟨ci, k, C0, T, N, ty, rfl, rfl, hcl, hk, hlk, hr⟩ := hf
  intro p e R s m args below meth c H locs cells slots QF ls C hl hM hS hc hs hE
  have hM0 := hM
  obtain ⟨ws, hP, hD, hI, hC⟩ := hM
  obtain ⟨q0, hq0⟩ := hI a ⟨by omega, by omega, by omega⟩
  rw [zEnt_obj hK] at hq0
  have hW := C.2.2.2.2.2.2.2.2.2.1
  have hts : ∀ w ∈ u_ws C0 T N, w.before args s = true := fun w hw => hW.use (hcl.2.1 w hw).1 (hcl.2.1 w hw).2
  have hv : (zfs M a ci)[k]? = some (if isr then va_rf (vR M a (32 * ci + k)) else .int (vI M a (32 * ci + k))) := by
    rw [zfs_at (by rw [zfn_of hcl.1]; exact hk)]
    unfold zfv
    rw [hr]
  rcases hlk with ⟨ref, hw, hsame⟩ | ⟨host, hw⟩
  · refine va_get C.1 C.2.1 hts (fun _ h => h) C.2.2.2.1 C.2.2.2.2.2.2.2.2.2.2.1 hP q0 hq0 hcl.1 k hk (hW.use hw.1 hw.2) ?_ hv hd (kk p e R s m args below meth c H locs cells slots QF ls C hl hM0 hS hc hs hE)
    rcases hsame with rfl | h
    · exact fun _ h => h
    · exact u_same (hW.use (args := args) h.1 h.2)
  · exact va_getN C.1 C.2.1 hts (fun _ h => h) C.2.2.2.1 C.2.2.2.2.2.2.2.2.2.2.1 hP q0 hq0 hcl.1 k hk (hW.use hw.1 hw.2) (fun _ h => h) hv hd (kk p e R s m args below meth c H locs cells slots QF ls C hl hM0 hS hc hs hE)
/-- reading a field that is a number -/
theorem zs_geti {ix a kind key : Nat} (hd : decode (zMC mm) pc = .ok (.getfield ix, 3)) (hf : zGF (zMY mm).cls ix kind key false) (hK : mK M a = kind) (hn : pc + 3 = n) (kk : zX Z l d mm n L (.int (vI M a key) :: st) M nc ns Q) : zX Z l d mm pc L (.ref a :: st) M nc ns Q := zs_geto hd hf hK hn kk
/-- reading a field that is a reference, known not to be null -/
theorem zs_getr {ix a kind key b : Nat} (hd : decode (zMC mm) pc = .ok (.getfield ix, 3)) (hf : zGF (zMY mm).cls ix kind key true) (hK : mK M a = kind) (hv : vR M a key = some b) (hn : pc + 3 = n) (kk : zX Z l d mm n L (.ref b :: st) M nc ns Q) : zX Z l d mm pc L (.ref a :: st) M nc ns Q := zs_geto hd hf hK hn (by rw [if_pos rfl, hv]; exact kk)
theorem zs_getN {ix a kind key : Nat} (hd : decode (zMC mm) pc = .ok (.getfield ix, 3)) (hf : zGF (zMY mm).cls ix kind key true) (hK : mK M a = kind) (hv : vR M a key = none) (hn : pc + 3 = n) (kk : zX Z l d mm n L (.null :: st) M nc ns Q) : zX Z l d mm pc L (.ref a :: st) M nc ns Q := zs_geto hd hf hK hn (by rw [if_pos rfl, hv]; exact kk)
theorem zput {ix a kind key : Nat} {fty : FieldType} {isr : Bool} {v : Value} {M' : zMem} (hd : decode (zMC mm) pc = .ok (.putfield ix, 3)) (hf : zPF mm ix kind key fty isr) (hK : mK M a = kind) (hfit : narrow fty v = v ∧ fits fty v = true)
    (hM' : (isr = true ∧ ∃ r, v = va_rf r ∧ M' = sR M a key r) ∨ (isr = false ∧ ∃ x, v = .int x ∧ M' = sI M a key x)) (hn : pc + 3 = n) (kk : zX Z l d mm n L st M' nc ns Q) : zX Z l d mm pc L (v :: .ref a :: st) M nc ns Q := by
  subst hn
  obtain ⟨ci, k, C0, T, N, ty, rfl, rfl, hcl, hk, hlk, hr, rfl, hfin⟩ := hf
  intro p e R s m args below meth c H locs cells slots QF ls C hl hM hS hc hs hE
  obtain ⟨ws, hP, hD, hI, hC⟩ := hM
  obtain ⟨q0, hq0⟩ := hI a ⟨by omega, by omega, by omega⟩
  rw [zEnt_obj hK] at hq0
  have hW := C.2.2.2.2.2.2.2.2.2.1
  have hKs := C.2.2.2.2.2.2.2.2.2.2.1
  have hts : ∀ w ∈ u_ws C0 T N, w.before args s = true := fun w hw => hW.use (hcl.2.1 w hw).1 (hcl.2.1 w hw).2
  have hkn : k < zfn ci := by rw [zfn_of hcl.1]; exact hk
  have hK' : ∀ b, mK M' b = mK M b := by
    rcases hM' with ⟨-, r, -, rfl⟩ | ⟨-, x, -, rfl⟩ <;> intro b <;> rfl
  have hN' : ∀ b, mN M' b = mN M b := by
    rcases hM' with ⟨-, r, -, rfl⟩ | ⟨-, x, -, rfl⟩ <;> intro b <;> rfl
  have he : zEnt Z M' a = .inr (ci, (zfs M a ci).set k v) := by
    rw [zEnt_obj ((hK' a).trans hK)]
    refine congrArg (fun z => Sum.inr (ci, z)) (zfs_up hkn ?_ ?_)
    · rcases hM' with ⟨h1, r, rfl, rfl⟩ | ⟨h1, x, rfl, rfl⟩
      · unfold zfv
        rw [hr, h1, if_pos rfl]
        exact congrArg va_rf u2_at
      · unfold zfv
        rw [hr, h1]
        exact congrArg Value.int u2_at
    · intro j hj
      have hne : 32 * ci + j ≠ 32 * ci + k := by omega
      rcases hM' with ⟨h1, r, rfl, rfl⟩ | ⟨h1, x, rfl, rfl⟩
      · unfold zfv
        rw [show vR (sR M a (32 * ci + k) r) a (32 * ci + j) = vR M a (32 * ci + j) from u2_nk hne]
      · unfold zfv
        rw [show vI (sI M a (32 * ci + k) x) a (32 * ci + j) = vI M a (32 * ci + j) from u2_nk hne]
  have ho : ∀ b, b ≠ a → zEnt Z M' b = zEnt Z M b := by
    intro b hb
    rcases hM' with ⟨h1, r, rfl, rfl⟩ | ⟨h1, x, rfl, rfl⟩
    · exact zEnt_ne rfl rfl rfl (u2_ne hb) rfl rfl rfl rfl
    · exact zEnt_ne rfl rfl (u2_ne hb) rfl rfl rfl rfl rfl
  have hCo : zCo Z M' := by
    refine ⟨fun b hb => ?_, fun b hb => ?_⟩
    · rw [hK' b] at hb
      rw [hN' b]
      exact hC.1 b hb
    · rw [hK' b] at hb
      have hba : b ≠ a := by
        intro q
        subst q
        omega
      obtain ⟨j, h1, h2, h3, h4⟩ := hC.2 b hb
      refine ⟨j, h1, h2, ?_, h4⟩
      rcases hM' with ⟨-, r, -, rfl⟩ | ⟨-, x, -, rfl⟩
      · exact h3
      · rw [show vI (sI M a (32 * ci + k) x) b = vI M b from u2_ne hba]
        exact h3
  have kk2 : ∀ (H1 : Heap) (locs1 : List Loc), va_P (zPD Z) vwCl (ws.set q0 (a, .inr (ci, (zfs M a ci).set k v))) H1 → va_D (zA Z) (ws.set q0 (a, .inr (ci, (zfs M a ci).set k v))) → va_S (zA Z) s.heap H1 locs1 → W p l e R s m args below meth c H1 locs1 cells slots QF (F0 m (pc + 3) ls st) := fun H1 locs1 hP1 hD1 hS1 =>
    kk p e R s m args below meth c H1 locs1 cells slots QF ls C hl ⟨_, hP1, hD1, zIn_set hq0 hI (fun b hb => by unfold zLive at hb ⊢; rw [← hK' b]; exact hb) he ho, hCo⟩ hS1 hc hs hE
  rcases hfin with hfin | ⟨hfin, hin, hdecl, hwf⟩
  · rcases hlk with ⟨ref, hw, hsame⟩ | ⟨host, hw⟩
    · refine va_put C.1 C.2.1 hts (fun _ h => h) ty hcl.2.2.1 hcl.2.2.2 C.2.2.2.1 hKs hP hD hS q0 hq0 hcl.1 k hk (hW.use hw.1 hw.2) ?_ hfin (hcl.2.2.1 k hk) hfit.1 hfit.2 (by rw [zfs_len]; exact hkn) hd kk2
      rcases hsame with rfl | h
      · exact fun _ h => h
      · exact u_same (hW.use (args := args) h.1 h.2)
    · exact va_putN C.1 C.2.1 hts (fun _ h => h) ty hcl.2.2.1 hcl.2.2.2 C.2.2.2.1 hKs hP hD hS q0 hq0 hcl.1 k hk (hW.use hw.1 hw.2) (fun _ h => h) hfin (hcl.2.2.1 k hk) hfit.1 hfit.2 (by rw [zfs_len]; exact hkn) hd kk2
  · exact va_putF C.1 C.2.1 hts (fun _ h => h) ty hcl.2.2.1 hcl.2.2.2 C.2.2.2.1 hKs hP hD hS q0 hq0 hcl.1 k hk (hW.use hwf.1 hwf.2) (fun _ h => h) hfin (C.2.2.2.2.2.2.1.trans hin) hdecl (hcl.2.2.1 k hk) hfit.1 hfit.2 (by rw [zfs_len]; exact hkn) hd kk2
theorem zs_puti {ix a kind key : Nat} {fty : FieldType} {x : Int32} (hd : decode (zMC mm) pc = .ok (.putfield ix, 3)) (hf : zPF mm ix kind key fty false) (hK : mK M a = kind) (hfit : narrow fty (.int x) = .int x ∧ fits fty (.int x) = true) (hn : pc + 3 = n) (kk : zX Z l d mm n L st (sI M a key x) nc ns Q) : zX Z l d mm pc L (.int x :: .ref a :: st) M nc ns Q := zput hd hf hK hfit (Or.inr ⟨rfl, x, rfl, rfl⟩) hn kk
theorem zs_putr {ix a kind key b : Nat} {fty : FieldType} (hd : decode (zMC mm) pc = .ok (.putfield ix, 3)) (hf : zPF mm ix kind key fty true) (hK : mK M a = kind) (hfit : narrow fty (.ref b) = .ref b ∧ fits fty (.ref b) = true) (hn : pc + 3 = n) (kk : zX Z l d mm n L st (sR M a key (some b)) nc ns Q) : zX Z l d mm pc L (.ref b :: .ref a :: st) M nc ns Q := zput hd hf hK hfit (Or.inl ⟨rfl, some b, rfl, rfl⟩) hn kk
theorem zs_putN {ix a kind key : Nat} {fty : FieldType} (hd : decode (zMC mm) pc = .ok (.putfield ix, 3)) (hf : zPF mm ix kind key fty true) (hK : mK M a = kind) (hfit : narrow fty .null = .null ∧ fits fty .null = true) (hn : pc + 3 = n) (kk : zX Z l d mm n L st (sR M a key none) nc ns Q) : zX Z l d mm pc L (.null :: .ref a :: st) M nc ns Q := zput hd hf hK hfit (Or.inl ⟨rfl, none, rfl, rfl⟩) hn kk
theorem zNew_ne {M : zMem} {q kind len g b : Nat} (h : b ≠ q) : zEnt Z (zNew M q kind len g) b = zEnt Z M b := zEnt_ne (u1_ne h) (u1_ne h) (u1_ne h) (u1_ne h) (u1_ne h) (u1_ne h) (u1_ne h) (u1_ne h)
theorem zNew_live {M : zMem} {q kind len g b : Nat} (h : b ≠ q) (hb : zLive (zNew M q kind len g) b) : zLive M b := by
  unfold zLive at hb ⊢
  rw [show mK (zNew M q kind len g) b = mK M b from u1_ne h] at hb
  exact hb
theorem zNew_co {M : zMem} {q kind len g : Nat} (h7 : kind ≠ 7) (h8 : kind ≠ 8) (hC : zCo Z M) : zCo Z (zNew M q kind len g) := by
  have key : ∀ b x, x ≠ kind → mK (zNew M q kind len g) b = x → b ≠ q := by
    intro b x hx hb hq
    subst hq
    rw [show mK (zNew M b kind len g) b = kind from u1_at] at hb
    exact hx hb.symm
  refine ⟨fun b hb => ?_, fun b hb => ?_⟩
  · have hne := key b 7 (Ne.symm h7) hb
    rw [show mK (zNew M q kind len g) b = mK M b from u1_ne hne] at hb
    rw [show mN (zNew M q kind len g) b = mN M b from u1_ne hne]
    exact hC.1 b hb
  · have hne := key b 8 (Ne.symm h8) hb
    rw [show mK (zNew M q kind len g) b = mK M b from u1_ne hne] at hb
    rw [show vI (zNew M q kind len g) b = vI M b from u1_ne hne]
    exact hC.2 b hb
/-- new C: the mark g is ours to choose -/
theorem zs_new {ix kind N : Nat} (g : Nat) {nc1 ns1 : Nat} (hd : decode (zMC mm) pc = .ok (.new ix, 3)) (hf : zNC (zMY mm).cls ix kind N) (hn : pc + 3 = n) (hc1 : nc1 + 1 ≤ nc) (hs1 : ns1 + N ≤ ns) (kk : ∀ q, mK M q = 0 → zX Z l d mm n L (.ref q :: st) (zNew M q kind 0 g) nc1 ns1 Q) : zX Z l d mm pc L st M nc ns Q := by
  subst hn
  obtain ⟨ci, C0, T, ty, rfl, hcl, hw1, hw2, hw3, hdef⟩ := hf
  intro p e R s m args below meth c H locs cells slots QF ls C hl hM hS hc hs hE
  obtain ⟨ws, hP, hD, hI, hC⟩ := hM
  have hW := C.2.2.2.2.2.2.2.2.2.1
  have hKs := C.2.2.2.2.2.2.2.2.2.2.1
  have hts : ∀ w ∈ u_ws C0 T N, w.before args s = true := fun w hw => hW.use (hcl.2.1 w hw).1 (hcl.2.1 w hw).2
  refine va_new (fs := (List.range N).map (fun j => if zrf ci j then Value.null else .int 0)) C.1 C.2.1 hts (fun _ h => h) ty hcl.2.2.1 C.2.2.2.1 (hW.use hw1.1 hw1.2) (hW.use hw2.1 hw2.2) (hW.use hw3.1 hw3.2) hKs hP hD hS (fun q hq => Nat.le_trans C.2.2.2.2.2.2.2.2.2.2.2.2.1 hq) hcl.1 ?_ (by omega) (by omega) hd (fun q H1 hP1 hD1 hS1 => ?_)
  · intro j hj
    rw [hdef j hj]
    unfold vp_V
    rw [List.getD_eq_getElem?_getD, List.getElem?_map, List.getElem?_range hj]
    rfl
  · have hq0 := zFresh hI hC hD1
    refine kk q hq0 p e R s m args below meth c H1 locs (cells + 1) (slots + N) QF ls C hl ⟨_, hP1, hD1, zIn_new hI (fun b hb h => zNew_live hb h) ?_ (fun b hb => zNew_ne hb), zNew_co (by omega) (by omega) hC⟩ hS1 (by omega) (by omega) hE
    rw [zEnt_obj (u1_at : mK (zNew M q (10 + ci) 0 g) q = 10 + ci)]
    refine congrArg (fun z => Sum.inr (ci, z)) ?_
    unfold zfs
    rw [zfn_of hcl.1]
    refine List.map_congr_left (fun j _ => ?_)
    unfold zfv
    rw [show vR (zNew M q (10 + ci) 0 g) q = fun _ => none from u1_at, show vI (zNew M q (10 + ci) 0 g) q = fun _ => 0 from u1_at]
    rfl
end ZHEAP
