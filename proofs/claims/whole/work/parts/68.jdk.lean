/-! MORE OF THE JDK: cached Integers, class objects, rows copied -/
section ZJDK
variable {Z : zPar} {l : Launch} {d : Nat} {mm : zMeth} {pc n nc ns ix : Nat} {L : List (Nat × Value)} {st : List Value} {M : zMem} {Q : zO → zMem → Prop} {p e c : Nat} {f : Nat → Nat}
/-- an Integer, ours or the cache's -/
abbrev zJ (M : zMem) (v : Nat) : Prop := mK M v = 11 ∨ mK M v = 8
theorem zCtx.cache {p : Program} {R : Room} {s : State} {m : MethodId} {meth : Method} {c : Code} (C : zCtx Z l d mm p R s m meth c) : vb_C (zPc9 Z) (zA Z) s s.heap := C.2.2.2.2.2.2.2.2.2.2.2.1.2.2.2.2.2.2.2.2.1
theorem zRecvJ {p : Program} {R : Room} {s : State} {m : MethodId} {meth : Method} {c : Code} {H : Heap} {locs : List Loc} {b : Nat} (C : zCtx Z l d mm p R s m meth c) (hM : zRep Z M H) (hS : va_S (zA Z) s.heap H locs) (hK : zJ M b) : ∃ cell : Cell, H[b]? = some cell ∧ cell.vm.isStatics = false ∧ s.vm.findClass RJ6 = some cell.cls := by
  rcases hK with hK | hK
  · exact zRecv (ci := 1) (r := (RJ6, TJ6, 1)) C hM hK rfl
  · obtain ⟨ws, hP, hD, hI, hC⟩ := hM
    obtain ⟨j, hj, rfl, -, -⟩ := hC.2 b hK
    obtain ⟨cell, b1, b2, b3, -⟩ := (C.cache.1 j hj).kept hS.2.1
    exact ⟨cell, b1, b2, b3⟩
theorem zs_castJ {a : Nat} (hd : decode (zMC mm) pc = .ok (.checkcast ix, 3)) (hw : zwd (.classLink (zMY mm).cls ix RJ6)) (hK : zJ M a) (hn : pc + 3 = n) (k : zX Z l d mm n L (.ref a :: st) M nc ns Q) : zX Z l d mm pc L (.ref a :: st) M nc ns Q := by
  subst hn
  intro p e R s m args below meth c H locs cells slots QF ls C hl hM hS hc hs hE
  have hW := C.2.2.2.2.2.2.2.2.2.1
  have hKs := C.2.2.2.2.2.2.2.2.2.2.1
  exact va_castS C.1 C.2.1 C.2.2.2.1 (hW.use hw.1 hw.2) (hKs.1 1 (RJ6, TJ6, 1) rfl).2 (zRecvJ C hM hS hK) hd (k p e R s m args below meth c H locs cells slots QF ls C hl hM hS hc hs hE)
/-- the int of an Integer -/
theorem zs_getJ {a : Nat} (hd : decode (zMC mm) pc = .ok (.getfield ix, 3)) (hf : zGF (zMY mm).cls ix 11 32 false) (hw : zwd (.fieldLink (zMY mm).cls ix RJ6 "value" "I")) (hK : zJ M a) (hn : pc + 3 = n) (k : zX Z l d mm n L (.int (vI M a 32) :: st) M nc ns Q) : zX Z l d mm pc L (.ref a :: st) M nc ns Q := by
  rcases hK with hK | hK
  · exact zs_geti hd hf hK hn k
  subst hn
  intro p e R s m args below meth c H locs cells slots QF ls C hl hM hS hc hs hE
  have hW := C.2.2.2.2.2.2.2.2.2.1
  obtain ⟨j, hj, rfl, hv, -⟩ : ∃ j, j < 256 ∧ a = zPc9 Z j ∧ vI M a 32 = vb_c j ∧ a < zPb Z := by
    obtain ⟨ws, hP, hD, hI, hC⟩ := hM
    exact hC.2 a hK
  refine va_getX (i := j) C.1 C.2.1 C.cache.2 hj hS C.2.2.2.1 (hW.use hw.1 hw.2) (fun _ h => h) hd ?_
  show W p l e R s m args below meth c H locs cells slots QF (F0 m (pc + 3) ls (.int (vb_c j) :: st))
  rw [← hv]
  exact k p e R s m args below meth c H locs cells slots QF ls C hl hM hS hc hs hE
/-- what the cache's j-th Integer holds -/
theorem zX.c9 {j : Nat} (hj : j < 256) (hk : mK M (zPc9 Z j) = 8) (k : vI M (zPc9 Z j) 32 = vb_c j → zX Z l d mm pc L st M nc ns Q) : zX Z l d mm pc L st M nc ns Q := by
  intro p e R s m args below meth c H locs cells slots QF ls C hl hM hS hc hs hE
  have hv : vI M (zPc9 Z j) 32 = vb_c j := by
    obtain ⟨ws, hP, hD, hI, hC⟩ := hM
    obtain ⟨i, hi, e1, hv, -⟩ := hC.2 _ hk
    obtain ⟨cf, k1, f1, fd, cell, a1, a2, a3, a4, a5, -⟩ := C.cache.2 j hj
    obtain ⟨cf', k1', f1', fd', cell', b1, b2, b3, b4, b5, -⟩ := C.cache.2 i hi
    rw [a1] at b1
    cases b1
    rw [← e1, a3] at b3
    cases b3
    rw [a5] at b5
    have := Option.some.inj b5
    rw [hv]
    exact (Value.int.inj this).symm
  exact k hv p e R s m args below meth c H locs cells slots QF ls C hl hM hS hc hs hE
/-- a method of an Integer -/
theorem zs_invVJ {mm' : zMeth} {b d' mc ms nc1 ns1 nargs : Nat} {As st0 : List Value} {Post : zO → zMem → Prop} (hd : decode (zMC mm) pc = .ok (.invokevirtual ix, 3)) (hm : zMok mm' nargs) (hw : zwd (.methodLink (zMY mm).cls ix (zMY mm')) ∧ zwd (.instanceMethod (zMY mm')) ∧ zwd (.selects RJ6 (zMY mm') (zMY mm'))) (hK : zJ M b) (hAs : As.length = nargs) (hfit : (lg_sl (.ref b :: As)).length ≤ zML mm') (hst : st.length ≤ 4) (hdd : d = d' + 1) (hc1 : nc1 + mc ≤ nc) (hs1 : ns1 + ms ≤ ns) (hstk : st0 = As.reverse ++ .ref b :: st) (hn : pc + 3 = n)
    (h : zX Z l d' mm' 0 (lv_args 0 (.ref b :: As)) [] M mc ms Post) (kx : ∀ k M', Post (.inr k) M' → zHx Z l d mm pc L nc1 ns1 Q k M') (kk : ∀ v M', Post (.inl v) M' → zX Z l d mm n L (v.toList ++ st) M' nc1 ns1 Q) : zX Z l d mm pc L st0 M nc ns Q := by
  subst hn
  intro p e R s m args below meth c H locs cells slots QF ls C hl hM hS hc hs hE
  have hW := C.2.2.2.2.2.2.2.2.2.1
  have hcat := zcat st
  refine zrun (vx_runV (C := RJ6) (b := b) (As := As) (rest := st) (Ts := []) (g := F0 m pc ls st0) ⟨C.1, C.2.1, C.2.2.1, C.2.2.2.1, fun w h => nomatch h⟩ (zmet C.2.2.2.2.2.2.2.2.1 hm.1 hm.2.1 hfit h) ⟨C.callB args hm hdd hw.1, hW.use hw.2.1.1 hw.2.1.2, hW.use hw.2.2.1 hw.2.2.2⟩ ⟨zPre.blind, zRecvJ C hM hS hK, fun U hU hWm => ⟨rfl, C.pre hM hS U hU hWm⟩⟩ rfl hAs hl.1 hstk (by show 2 * 0 + _ ≤ 8; omega) hd ⟨by omega, by omega⟩) hS ?_ ?_
  · intro k M' ce q H1 locs1 hp hM1 hS1 hce hcv hcl
    exact (kx k M' hp).go C hl hM1 hS1 (by omega) (by omega) hE hce hcv hcl
  · intro v M' H1 locs1 hp hM1 hS1
    exact kk v M' hp p e R s m args below meth c H1 locs1 (cells + mc) (slots + ms) QF ls C hl hM1 hS1 (by omega) (by omega) hE
theorem w_J6v : zwd (.fieldLink RJ6 205 RJ6 "value" "I") := ⟨tw_7 _ (List.mem_of_getElem? (i := 109) (by decide +kernel)), by decide +kernel⟩
theorem m_intValue {v : Nat} (h : zJ M v) : zD Z l 0 mth_J6_intValue_8abf5 [.ref v] M 0 0 (some (.int (vI M v 32))) M := by
  intro Q hQ
  show zX Z l 0 mth_J6_intValue_8abf5 0 [(0, .ref v)] [] M 0 0 Q
  refine zs_aload_n (n := 1) dJ6_intValue_8abf5_0 rfl rfl ?_
  refine zs_getJ (n := 4) dJ6_intValue_8abf5_1 gf_J6_205 w_J6v h rfl ?_
  refine zs_ireturn dJ6_intValue_8abf5_4 ⟨_, rfl, rfl⟩ ?_
  exact hQ
theorem zc_intValue {v : Nat} (hd : decode (zMC mm) pc = .ok (.invokevirtual ix, 3)) (hw : zwd (.methodLink (zMY mm).cls ix yJ6_intValue_8abf5)) (h : zJ M v) (hst : st.length ≤ 4) (hdd : 0 < d) (hn : pc + 3 = n) (kk : zX Z l d mm n L (.int (vI M v 32) :: st) M nc ns Q) : zX Z l d mm pc L (.ref v :: st) M nc ns Q :=
  zs_invVJ (d' := d - 1) (As := []) (mc := 0) (ms := 0) (nc1 := nc) (ns1 := ns) (Post := fun o M1 => o = .inl (some (.int (vI M v 32))) ∧ M1 = M) hd ok_J6_intValue_8abf5 ⟨hw, im_J6_intValue_8abf5, sl_J6_intValue_8abf5⟩ h rfl (Nat.le_of_ble_eq_true rfl) hst (by omega) (Nat.le_refl _) (Nat.le_refl _) rfl hn ((m_intValue h _ ⟨rfl, rfl⟩).deep (by omega)) (fun k M1 h => nomatch h.1) (fun v1 M1 h => by obtain ⟨h1, rfl⟩ := h; cases h1; exact kk)
-- Integer.valueOf
theorem m_Ninit : zD Z l 0 mth_Jxd2413_init_da8c8 [.ref p] M 0 0 none M := by
  intro Q hQ
  show zX Z l 0 mth_Jxd2413_init_da8c8 0 [(0, .ref p)] [] M 0 0 Q
  refine zs_aload_n (n := 1) dJxd2413_init_da8c8_0 rfl rfl ?_
  refine zs_objInit (n := 4) dJxd2413_init_da8c8_1 ml_Jxd2413_1 w_oi w_oc (by simp) rfl ?_
  refine zs_return dJxd2413_init_da8c8_4 rfl ?_
  exact hQ
theorem m_Jinit {x : Int32} (hp : mK M p = 11) : zD Z l 1 mth_J6_init_d00df [.ref p, .int x] M 0 0 none (sI M p 32 x) := by
  intro Q hQ
  show zX Z l 1 mth_J6_init_d00df 0 [(0, .ref p), (1, .int x)] [] M 0 0 Q
  refine zs_aload_n (n := 1) dJ6_init_d00df_0 rfl rfl ?_
  refine zc_I (n := 4) (As := []) (mc := 0) (ms := 0) (d' := 0) dJ6_init_d00df_1 ok_Jxd2413_init_da8c8 ⟨ml_J6_202, im_Jxd2413_init_da8c8, rfl, rfl⟩ rfl (Nat.le_of_ble_eq_true rfl) (by simp) (by omega) (Nat.le_refl _) (Nat.le_refl _) rfl rfl m_Ninit ?_
  refine zs_aload_n (n := 5) dJ6_init_d00df_4 rfl rfl ?_
  refine zs_iload_n (n := 6) dJ6_init_d00df_5 rfl rfl ?_
  refine zs_puti (n := 9) dJ6_init_d00df_6 pf_J6_init_d00df_205 (by assumption) ⟨rfl, rfl⟩ rfl ?_
  refine zs_return dJ6_init_d00df_9 rfl ?_
  exact hQ
theorem w_J6h : zwd (.fieldLink RJ6 191 "java/lang/Integer$IntegerCache" "high" "I") := ⟨tw_7 _ (List.mem_of_getElem? (i := 96) (by decide +kernel)), by decide +kernel⟩
theorem w_J6c : zwd (.fieldLink RJ6 195 "java/lang/Integer$IntegerCache" "cache" "[Ljava/lang/Integer;") := ⟨tw_7 _ (List.mem_of_getElem? (i := 98) (by decide +kernel)), by decide +kernel⟩
theorem zs_getsH (hd : decode (zMC mm) pc = .ok (.getstatic ix, 3)) (hw : zwd (.fieldLink (zMY mm).cls ix "java/lang/Integer$IntegerCache" "high" "I")) (hn : pc + 3 = n) (k : zX Z l d mm n L (.int 127 :: st) M nc ns Q) : zX Z l d mm pc L st M nc ns Q := by
  subst hn
  intro p e R s m args below meth c H locs cells slots QF ls C hl hM hS hc hs hE
  have hW := C.2.2.2.2.2.2.2.2.2.1
  exact va_gets C.1 C.2.1 C.2.2.2.2.2.2.2.2.2.2.2.1.2.2.2.2.2.2.2.2.2.2.1 hS C.2.2.2.1 (hW.use hw.1 hw.2) (fun _ h => h) hd (k p e R s m args below meth c H locs cells slots QF ls C hl hM hS hc hs hE)
theorem zs_getsC (hd : decode (zMC mm) pc = .ok (.getstatic ix, 3)) (hw : zwd (.fieldLink (zMY mm).cls ix "java/lang/Integer$IntegerCache" "cache" "[Ljava/lang/Integer;")) (hn : pc + 3 = n) (k : zX Z l d mm n L (.ref (zPx Z 2) :: st) M nc ns Q) : zX Z l d mm pc L st M nc ns Q := by
  subst hn
  intro p e R s m args below meth c H locs cells slots QF ls C hl hM hS hc hs hE
  have hW := C.2.2.2.2.2.2.2.2.2.1
  exact va_gets C.1 C.2.1 C.2.2.2.2.2.2.2.2.2.2.2.1.2.2.2.2.2.2.2.2.2.1 hS C.2.2.2.1 (hW.use hw.1 hw.2) (fun _ h => h) hd (k p e R s m args below meth c H locs cells slots QF ls C hl hM hS hc hs hE)
theorem zs_aaldC {i : Int32} {j : Nat} (hd : decode (zMC mm) pc = .ok (.aaload, 1)) (hi : vp_in i 256) (hj : i.toNatClampNeg = j) (hn : pc + 1 = n) (k : zX Z l d mm n L (.ref (zPc9 Z j) :: st) M nc ns Q) : zX Z l d mm pc L (.int i :: .ref (zPx Z 2) :: st) M nc ns Q := by
  subst hn
  intro p e R s m args below meth c H locs cells slots QF ls C hl hM hS hc hs hE
  exact vb_tq C.1 C.2.1 C.2.2.2.2.2.2.2.2.2.2.2.1.2.2.2.2.2.2.2.2.2.2.2.1 hS hi (congrArg (fun j => Value.ref (zPc9 Z j)) hj) hd (k p e R s m args below meth c H locs cells slots QF ls C hl hM hS hc hs hE)
theorem vb_c_of {x : Int32} (h1 : ¬ x < -128) (h2 : ¬ 127 < x) : vp_in (x + 128) 256 ∧ (x + 128).toNatClampNeg < 256 ∧ vb_c ((x + 128).toNatClampNeg) = x := by
  have e1 : -128 ≤ x.toInt := by
    have := Int32.not_lt.mp h1
    simpa using Int32.le_iff_toInt_le.mp this
  have e2 : x.toInt ≤ 127 := by
    have := Int32.not_lt.mp h2
    simpa using Int32.le_iff_toInt_le.mp this
  have e3 : (x + 128).toInt = x.toInt + 128 := by
    rw [Int32.toInt_add, show (128 : Int32).toInt = 128 from rfl]
    exact Int.bmod_eq_of_le (by omega) (by omega)
  have e0 : ¬ (x + 128) < 0 := by
    rw [Int32.lt_iff_toInt_lt, e3, show (0 : Int32).toInt = 0 from rfl]
    omega
  obtain ⟨j, hj, ej⟩ := nI_of e0
  have e5 : (x + 128).toInt = (j : Int) := by rw [ej, nI_toInt hj]
  rw [ej, nI_clamp hj]
  refine ⟨vp_in_nI (by omega) (by omega), by omega, ?_⟩
  show Int32.ofNat j - 128 = x
  rw [show Int32.ofNat j = x + 128 from ej.symm]
  exact Int32.add_sub_cancel x 128
theorem m_valueOf {x : Int32} (g : Nat) (h9 : ∀ j, j < 256 → mK M (zPc9 Z j) = 8) (hQ8 : ∀ v, mK M v = 8 → vI M v 32 = x → Q (.inl (some (.ref v))) M) (hQ11 : ∀ q, mK M q = 0 → Q (.inl (some (.ref q))) (sI (zNew M q 11 0 g) q 32 x)) : zX Z l 2 mth_J6_valueOf_2dffe 0 (lv_args 0 [.int x]) [] M 1 1 Q := by
  show zX Z l 2 mth_J6_valueOf_2dffe 0 [(0, .int x)] [] M 1 1 Q
  have hnew : zX Z l 2 mth_J6_valueOf_2dffe 23 [(0, .int x)] [] M 1 1 Q := by
    refine zs_new g (nc1 := 0) (ns1 := 0) dJ6_valueOf_2dffe_23 nc_J6_1 (n := 26) rfl (by omega) (by omega) (fun q hq => ?_)
    refine zs_dup (n := 27) dJ6_valueOf_2dffe_26 rfl rfl ?_
    refine zs_iload_n (n := 28) dJ6_valueOf_2dffe_27 rfl rfl ?_
    refine zc_I (n := 31) (As := [.int x]) (mc := 0) (ms := 0) (d' := 1) dJ6_valueOf_2dffe_28 ok_J6_init_d00df ⟨ml_J6_199, im_J6_init_d00df, rfl, rfl⟩ rfl (Nat.le_of_ble_eq_true rfl) (by simp) (by omega) (Nat.le_refl _) (Nat.le_refl _) rfl rfl (m_Jinit zNew_Kq) ?_
    refine zs_areturn dJ6_valueOf_2dffe_31 ⟨_, rfl, Or.inl ⟨_, rfl⟩⟩ ?_
    exact hQ11 q hq
  refine zs_iload_n (n := 1) dJ6_valueOf_2dffe_0 rfl rfl ?_
  refine zs_bipush (v := (-128)) (n := 3) dJ6_valueOf_2dffe_1 (by decide) rfl ?_
  refine zs_icmp_lt (tgt := 23) (n := 6) dJ6_valueOf_2dffe_3 (by decide) rfl (fun _ => hnew) (fun h1 => ?_)
  refine zs_iload_n (n := 7) dJ6_valueOf_2dffe_6 rfl rfl ?_
  refine zs_getsH (n := 10) dJ6_valueOf_2dffe_7 w_J6h rfl ?_
  refine zs_icmp_gt (tgt := 23) (n := 13) dJ6_valueOf_2dffe_10 (by decide) rfl (fun _ => hnew) (fun h2 => ?_)
  refine zs_getsC (n := 16) dJ6_valueOf_2dffe_13 w_J6c rfl ?_
  refine zs_iload_n (n := 17) dJ6_valueOf_2dffe_16 rfl rfl ?_
  refine zs_sipush (v := 128) (n := 20) dJ6_valueOf_2dffe_17 (by decide) rfl ?_
  refine zs_iadd (n := 21) dJ6_valueOf_2dffe_20 rfl ?_
  obtain ⟨e1, e2, e3⟩ := vb_c_of h1 h2
  refine zs_aaldC (n := 22) dJ6_valueOf_2dffe_21 e1 rfl rfl ?_
  refine zX.c9 e2 (h9 _ e2) (fun hv => ?_)
  refine zs_areturn dJ6_valueOf_2dffe_22 ⟨_, rfl, Or.inl ⟨_, rfl⟩⟩ ?_
  exact hQ8 _ (h9 _ e2) (hv.trans e3)
theorem zc_valueOf {x : Int32} {nc1 ns1 : Nat} (g : Nat) (hd : decode (zMC mm) pc = .ok (.invokestatic ix, 3)) (hw : zwd (.methodLink (zMY mm).cls ix yJ6_valueOf_2dffe)) (h9 : ∀ j, j < 256 → mK M (zPc9 Z j) = 8) (hst : st.length ≤ 4) (hdd : 2 < d) (hc1 : nc1 + 1 ≤ nc) (hs1 : ns1 + 1 ≤ ns) (hn : pc + 3 = n)
    (k8 : ∀ v, mK M v = 8 → vI M v 32 = x → zX Z l d mm n L (.ref v :: st) M nc1 ns1 Q) (k11 : ∀ q, mK M q = 0 → zX Z l d mm n L (.ref q :: st) (sI (zNew M q 11 0 g) q 32 x) nc1 ns1 Q) : zX Z l d mm pc L (.int x :: st) M nc ns Q :=
  zs_invS (d' := d - 1) (As := [.int x]) (mc := 1) (ms := 1) (nc1 := nc1) (ns1 := ns1) (Post := fun o M1 => ∃ v, o = .inl (some (.ref v)) ∧ ((mK M v = 8 ∧ vI M v 32 = x ∧ M1 = M) ∨ (mK M v = 0 ∧ M1 = sI (zNew M v 11 0 g) v 32 x))) hd ok_J6_valueOf_2dffe ⟨hw, st_J6_valueOf_2dffe⟩ rfl (Nat.le_of_ble_eq_true rfl) hst (by omega) hc1 hs1 rfl hn ((m_valueOf g h9 (fun v h1 h2 => ⟨v, rfl, Or.inl ⟨h1, h2, rfl⟩⟩) (fun q hq => ⟨q, rfl, Or.inr ⟨hq, rfl⟩⟩)).deep (by omega)) (fun k M1 h => by obtain ⟨v, h, -⟩ := h; cases h) (fun v1 M1 h => by
    obtain ⟨v, h, h2⟩ := h
    cases h
    rcases h2 with ⟨a1, a2, rfl⟩ | ⟨a1, rfl⟩
    · exact k8 v a1 a2
    · exact k11 v a1)
end ZJDK
