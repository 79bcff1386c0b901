/-! LISTS of the JDK: contracts as rules for the code that calls them -/
section ZDET
variable {Z : zPar} {l : Launch} {d d' : Nat} {mm mm' : zMeth} {pc n nc ns ix nargs mc ms nc1 ns1 : Nat} {L : List (Nat × Value)} {st st0 As : List Value} {M M' : zMem} {Q : zO → zMem → Prop} {v : Option Value}
/-- a method that, begun with As over M, ends with v over M' -/
def zD (Z : zPar) (l : Launch) (d : Nat) (mm : zMeth) (As : List Value) (M : zMem) (mc ms : Nat) (v : Option Value) (M' : zMem) : Prop := ∀ Q : zO → zMem → Prop, Q (.inl v) M' → zX Z l d mm 0 (lv_args 0 As) [] M mc ms Q
/-- .. that throws k -/
def zTw (Z : zPar) (l : Launch) (d : Nat) (mm : zMeth) (As : List Value) (M : zMem) (mc ms : Nat) (k : Nat) (M' : zMem) : Prop := ∀ Q : zO → zMem → Prop, Q (.inr k) M' → zX Z l d mm 0 (lv_args 0 As) [] M mc ms Q
theorem zc_S (hd : decode (zMC mm) pc = .ok (.invokestatic ix, 3)) (hm : zMok mm' nargs) (hw : zwd (.methodLink (zMY mm).cls ix (zMY mm')) ∧ zwd (.static (zMY mm'))) (hAs : As.length = nargs) (hfit : (lg_sl As).length ≤ zML mm') (hst : st.length ≤ 4) (hdd : d' < d) (hc1 : nc1 + mc ≤ nc) (hs1 : ns1 + ms ≤ ns) (hstk : st0 = As.reverse ++ st) (hn : pc + 3 = n)
    (h : zD Z l d' mm' As M mc ms v M') (kk : zX Z l d mm n L (v.toList ++ st) M' nc1 ns1 Q) : zX Z l d mm pc L st0 M nc ns Q :=
  zs_invS (d' := d - 1) (Post := fun o M1 => o = .inl v ∧ M1 = M') hd hm hw hAs hfit hst (by omega) hc1 hs1 hstk hn ((h _ ⟨rfl, rfl⟩).deep (by omega)) (fun k M1 h => nomatch h.1) (fun v1 M1 h => by obtain ⟨h1, rfl⟩ := h; cases h1; exact kk)
theorem zc_SN {host : String} (hd : decode (zMC mm) pc = .ok (.invokestatic ix, 3)) (hm : zMok mm' nargs) (hw : zwd (.methodLinkNest (zMY mm).cls ix (zMY mm') host) ∧ zwd (.static (zMY mm'))) (hAs : As.length = nargs) (hfit : (lg_sl As).length ≤ zML mm') (hst : st.length ≤ 4) (hdd : d' < d) (hc1 : nc1 + mc ≤ nc) (hs1 : ns1 + ms ≤ ns) (hstk : st0 = As.reverse ++ st) (hn : pc + 3 = n)
    (h : zD Z l d' mm' As M mc ms v M') (kk : zX Z l d mm n L (v.toList ++ st) M' nc1 ns1 Q) : zX Z l d mm pc L st0 M nc ns Q :=
  zs_invSN (d' := d - 1) (Post := fun o M1 => o = .inl v ∧ M1 = M') hd hm hw hAs hfit hst (by omega) hc1 hs1 hstk hn ((h _ ⟨rfl, rfl⟩).deep (by omega)) (fun k M1 h => nomatch h.1) (fun v1 M1 h => by obtain ⟨h1, rfl⟩ := h; cases h1; exact kk)
theorem zc_V {b ci : Nat} {r : vw_C} (hd : decode (zMC mm) pc = .ok (.invokevirtual ix, 3)) (hm : zMok mm' nargs) (hw : zwd (.methodLink (zMY mm).cls ix (zMY mm')) ∧ zwd (.instanceMethod (zMY mm')) ∧ zwd (.selects r.1 (zMY mm') (zMY mm'))) (hr : vwCl[ci]? = some r) (hK : mK M b = 10 + ci) (hAs : As.length = nargs) (hfit : (lg_sl (.ref b :: As)).length ≤ zML mm') (hst : st.length ≤ 4) (hdd : d' < d) (hc1 : nc1 + mc ≤ nc) (hs1 : ns1 + ms ≤ ns) (hstk : st0 = As.reverse ++ .ref b :: st) (hn : pc + 3 = n)
    (h : zD Z l d' mm' (.ref b :: As) M mc ms v M') (kk : zX Z l d mm n L (v.toList ++ st) M' nc1 ns1 Q) : zX Z l d mm pc L st0 M nc ns Q :=
  zs_invV (d' := d - 1) (Post := fun o M1 => o = .inl v ∧ M1 = M') hd hm hw hr hK hAs hfit hst (by omega) hc1 hs1 hstk hn ((h _ ⟨rfl, rfl⟩).deep (by omega)) (fun k M1 h => nomatch h.1) (fun v1 M1 h => by obtain ⟨h1, rfl⟩ := h; cases h1; exact kk)
theorem zc_I {b : Nat} (hd : decode (zMC mm) pc = .ok (.invokespecial ix, 3)) (hm : zMok mm' nargs) (hw : zwd (.methodLink (zMY mm).cls ix (zMY mm')) ∧ zwd (.instanceMethod (zMY mm')) ∧ (zMY mm').name = "<init>" ∧ zMR mm' = none) (hAs : As.length = nargs) (hfit : (lg_sl (.ref b :: As)).length ≤ zML mm') (hst : st.length ≤ 4) (hdd : d' < d) (hc1 : nc1 + mc ≤ nc) (hs1 : ns1 + ms ≤ ns) (hstk : st0 = As.reverse ++ .ref b :: st) (hn : pc + 3 = n)
    (h : zD Z l d' mm' (.ref b :: As) M mc ms v M') (kk : zX Z l d mm n L (v.toList ++ st) M' nc1 ns1 Q) : zX Z l d mm pc L st0 M nc ns Q :=
  zs_invI (d' := d - 1) (Post := fun o M1 => o = .inl v ∧ M1 = M') hd hm hw hAs hfit hst (by omega) hc1 hs1 hstk hn ((h _ ⟨rfl, rfl⟩).deep (by omega)) (fun k M1 h => nomatch h.1) (fun v1 M1 h => by obtain ⟨h1, rfl⟩ := h; cases h1; exact kk)
/-- the callee throws: on to the caller's caller -/
theorem zt_S {k : Nat} (hd : decode (zMC mm) pc = .ok (.invokestatic ix, 3)) (hm : zMok mm' nargs) (hw : zwd (.methodLink (zMY mm).cls ix (zMY mm')) ∧ zwd (.static (zMY mm'))) (hAs : As.length = nargs) (hfit : (lg_sl As).length ≤ zML mm') (hst : st.length ≤ 4) (hdd : d' < d) (hc1 : nc1 + mc ≤ nc) (hs1 : ns1 + ms ≤ ns) (hstk : st0 = As.reverse ++ st)
    (h : zTw Z l d' mm' As M mc ms k M') (kk : zHx Z l d mm pc L nc1 ns1 Q k M') : zX Z l d mm pc L st0 M nc ns Q :=
  zs_invS (d' := d - 1) (Post := fun o M1 => o = .inr k ∧ M1 = M') hd hm hw hAs hfit hst (by omega) hc1 hs1 hstk rfl ((h _ ⟨rfl, rfl⟩).deep (by omega)) (fun k1 M1 h => by obtain ⟨h1, rfl⟩ := h; cases h1; exact kk) (fun v1 M1 h => nomatch h.1)
theorem zt_V {b ci k : Nat} {r : vw_C} (hd : decode (zMC mm) pc = .ok (.invokevirtual ix, 3)) (hm : zMok mm' nargs) (hw : zwd (.methodLink (zMY mm).cls ix (zMY mm')) ∧ zwd (.instanceMethod (zMY mm')) ∧ zwd (.selects r.1 (zMY mm') (zMY mm'))) (hr : vwCl[ci]? = some r) (hK : mK M b = 10 + ci) (hAs : As.length = nargs) (hfit : (lg_sl (.ref b :: As)).length ≤ zML mm') (hst : st.length ≤ 4) (hdd : d' < d) (hc1 : nc1 + mc ≤ nc) (hs1 : ns1 + ms ≤ ns) (hstk : st0 = As.reverse ++ .ref b :: st)
    (h : zTw Z l d' mm' (.ref b :: As) M mc ms k M') (kk : zHx Z l d mm pc L nc1 ns1 Q k M') : zX Z l d mm pc L st0 M nc ns Q :=
  zs_invV (d' := d - 1) (Post := fun o M1 => o = .inr k ∧ M1 = M') hd hm hw hr hK hAs hfit hst (by omega) hc1 hs1 hstk rfl ((h _ ⟨rfl, rfl⟩).deep (by omega)) (fun k1 M1 h => by obtain ⟨h1, rfl⟩ := h; cases h1; exact kk) (fun v1 M1 h => nomatch h.1)
end ZDET
/-- a list at p: its row e, n things, the i-th at f i -/
def zL (Z : zPar) (M : zMem) (p e n : Nat) (f : Nat → Nat) : Prop := mK M p = 14 ∧ vI M p 130 = nI n ∧ vR M p 129 = some e ∧ ((mK M e = 7 ∧ mN M e = 0 ∧ n = 0 ∧ e = zPe Z) ∨ (mK M e = 3 ∧ n ≤ mN M e ∧ mN M e < 1000 ∧ 0 < mN M e)) ∧ ∀ i, i < n → aR M e i = some (f i)
section ZLISTS
variable {Z : zPar} {l : Launch} {d : Nat} {mm : zMeth} {pc n nc ns ix : Nat} {L : List (Nat × Value)} {st : List Value} {M : zMem} {Q : zO → zMem → Prop} {p e c : Nat} {f : Nat → Nat}
theorem zL.lt (h : zL Z M p e c f) : c < 1000 := by
  obtain ⟨-, -, -, h, -⟩ := h
  rcases h with ⟨-, -, h, -⟩ | ⟨-, h1, h2, -⟩ <;> omega
theorem m_size (h : zL Z M p e c f) : zD Z l 0 mth_Jx4a65c_size_8abf5 [.ref p] M 0 0 (some (.int (nI c))) M := by
  intro Q hQ
  show zX Z l 0 mth_Jx4a65c_size_8abf5 0 [(0, .ref p)] [] M 0 0 Q
  refine zs_aload_n (n := 1) dJx4a65c_size_8abf5_0 rfl rfl ?_
  refine zs_geti (n := 4) dJx4a65c_size_8abf5_1 gf_Jx4a65c_48 h.1 rfl ?_
  rw [h.2.1]
  refine zs_ireturn dJx4a65c_size_8abf5_4 ⟨_, rfl, rfl⟩ ?_
  exact hQ
theorem zc_size (hd : decode (zMC mm) pc = .ok (.invokevirtual ix, 3)) (hw : zwd (.methodLink (zMY mm).cls ix yJx4a65c_size_8abf5)) (hL : zL Z M p e c f) (hst : st.length ≤ 4) (hdd : 0 < d) (hn : pc + 3 = n) (kk : zX Z l d mm n L (.int (nI c) :: st) M nc ns Q) : zX Z l d mm pc L (.ref p :: st) M nc ns Q :=
  zc_V (As := []) (ci := 4) (mc := 0) (ms := 0) hd ok_Jx4a65c_size_8abf5 ⟨hw, im_Jx4a65c_size_8abf5, sl_Jx4a65c_size_8abf5⟩ rfl hL.1 rfl (Nat.le_of_ble_eq_true rfl) hst hdd (Nat.le_refl _) (Nat.le_refl _) rfl hn (m_size hL) kk
theorem m_checkIndex2 {i k : Int32} (h0 : ¬ i < 0) (h1 : i < k) : zD Z l 0 mth_J3_checkIndex_8e157 [.int i, .int k, .null] M 0 0 (some (.int i)) M := by
  intro Q hQ
  show zX Z l 0 mth_J3_checkIndex_8e157 0 [(0, .int i), (1, .int k), (2, .null)] [] M 0 0 Q
  refine zs_iload_n (n := 1) dJ3_checkIndex_8e157_0 rfl rfl ?_
  refine zs_if_lt (tgt := 9) (n := 4) dJ3_checkIndex_8e157_1 (by decide) rfl (fun h => absurd h h0) (fun _ => ?_)
  refine zs_iload_n (n := 5) dJ3_checkIndex_8e157_4 rfl rfl ?_
  refine zs_iload_n (n := 6) dJ3_checkIndex_8e157_5 rfl rfl ?_
  refine zs_icmp_lt (tgt := 16) (n := 9) dJ3_checkIndex_8e157_6 (by decide) rfl (fun _ => ?_) (fun h => absurd h1 h)
  refine zs_iload_n (n := 17) dJ3_checkIndex_8e157_16 rfl rfl ?_
  refine zs_ireturn dJ3_checkIndex_8e157_17 ⟨_, rfl, rfl⟩ ?_
  exact hQ
theorem m_checkIndex1 {i k : Int32} (h0 : ¬ i < 0) (h1 : i < k) : zD Z l 1 mth_J15_checkIndex_7cf53 [.int i, .int k] M 0 0 (some (.int i)) M := by
  intro Q hQ
  show zX Z l 1 mth_J15_checkIndex_7cf53 0 [(0, .int i), (1, .int k)] [] M 0 0 Q
  refine zs_iload_n (n := 1) dJ15_checkIndex_7cf53_0 rfl rfl ?_
  refine zs_iload_n (n := 2) dJ15_checkIndex_7cf53_1 rfl rfl ?_
  refine zs_null (n := 3) dJ15_checkIndex_7cf53_2 rfl ?_
  refine zc_S (n := 6) (As := [.int i, .int k, .null]) (mc := 0) (ms := 0) (d' := 0) dJ15_checkIndex_7cf53_3 ok_J3_checkIndex_8e157 ⟨ml_J15_105, st_J3_checkIndex_8e157⟩ rfl (Nat.le_of_ble_eq_true rfl) (by simp) (by omega) (Nat.le_refl _) (Nat.le_refl _) rfl rfl (m_checkIndex2 h0 h1) ?_
  refine zs_ireturn dJ15_checkIndex_7cf53_6 ⟨_, rfl, rfl⟩ ?_
  exact hQ
theorem m_elementData {i : Nat} (h : zL Z M p e c f) (hi : i < c) : zD Z l 0 mth_Jx4a65c_elementData_915e3 [.ref p, .int (nI i)] M 0 0 (some (.ref (f i))) M := by
  intro Q hQ
  show zX Z l 0 mth_Jx4a65c_elementData_915e3 0 [(0, .ref p), (1, .int (nI i))] [] M 0 0 Q
  refine zs_aload_n (n := 1) dJx4a65c_elementData_915e3_0 rfl rfl ?_
  refine zs_getr (n := 4) dJx4a65c_elementData_915e3_1 gf_Jx4a65c_9 h.1 h.2.2.1 rfl ?_
  refine zs_iload_n (n := 5) dJx4a65c_elementData_915e3_4 rfl rfl ?_
  have h3 : mK M e = 3 ∧ i < mN M e ∧ mN M e < 1000 := by
    obtain ⟨-, -, -, h, -⟩ := h
    rcases h with ⟨-, -, h, -⟩ | ⟨h0, h1, h2, -⟩
    · omega
    · exact ⟨h0, by omega, h2⟩
  refine zs_aald (n := 6) dJx4a65c_elementData_915e3_5 (Or.inl h3.1) (vp_in_nI h3.2.1 (by omega)) (by rw [nI_clamp (by omega)]; exact h.2.2.2.2 i hi) rfl ?_
  refine zs_areturn dJx4a65c_elementData_915e3_6 ⟨_, rfl, Or.inl ⟨_, rfl⟩⟩ ?_
  exact hQ
theorem m_get {i : Nat} (h : zL Z M p e c f) (hi : i < c) : zD Z l 2 mth_Jx4a65c_get_915e3 [.ref p, .int (nI i)] M 0 0 (some (.ref (f i))) M := by
  intro Q hQ
  show zX Z l 2 mth_Jx4a65c_get_915e3 0 [(0, .ref p), (1, .int (nI i))] [] M 0 0 Q
  refine zs_iload_n (n := 1) dJx4a65c_get_915e3_0 rfl rfl ?_
  refine zs_aload_n (n := 2) dJx4a65c_get_915e3_1 rfl rfl ?_
  refine zs_geti (n := 5) dJx4a65c_get_915e3_2 gf_Jx4a65c_48 h.1 rfl ?_
  rw [h.2.1]
  have hc := h.lt
  refine zc_S (n := 8) (As := [.int (nI i), .int (nI c)]) (mc := 0) (ms := 0) (d' := 1) dJx4a65c_get_915e3_5 ok_J15_checkIndex_7cf53 ⟨ml_Jx4a65c_118, st_J15_checkIndex_7cf53⟩ rfl (Nat.le_of_ble_eq_true rfl) (by simp) (by omega) (Nat.le_refl _) (Nat.le_refl _) rfl rfl (m_checkIndex1 (nI_pos (by omega)) (nI_lt hi (by omega))) ?_
  refine zs_pop (n := 9) dJx4a65c_get_915e3_8 rfl rfl ?_
  refine zs_aload_n (n := 10) dJx4a65c_get_915e3_9 rfl rfl ?_
  refine zs_iload_n (n := 11) dJx4a65c_get_915e3_10 rfl rfl ?_
  refine zc_V (n := 14) (As := [.int (nI i)]) (ci := 4) (mc := 0) (ms := 0) (d' := 0) dJx4a65c_get_915e3_11 ok_Jx4a65c_elementData_915e3 ⟨ml_Jx4a65c_123, im_Jx4a65c_elementData_915e3, sl_Jx4a65c_elementData_915e3⟩ rfl h.1 rfl (Nat.le_of_ble_eq_true rfl) (by simp) (by omega) (Nat.le_refl _) (Nat.le_refl _) rfl rfl (m_elementData h hi) ?_
  refine zs_areturn dJx4a65c_get_915e3_14 ⟨_, rfl, Or.inl ⟨_, rfl⟩⟩ ?_
  exact hQ
theorem zc_get {i : Nat} (hd : decode (zMC mm) pc = .ok (.invokevirtual ix, 3)) (hw : zwd (.methodLink (zMY mm).cls ix yJx4a65c_get_915e3)) (hL : zL Z M p e c f) (hi : i < c) (hst : st.length ≤ 4) (hdd : 2 < d) (hn : pc + 3 = n) (kk : zX Z l d mm n L (.ref (f i) :: st) M nc ns Q) : zX Z l d mm pc L (.int (nI i) :: .ref p :: st) M nc ns Q :=
  zc_V (As := [.int (nI i)]) (ci := 4) (mc := 0) (ms := 0) hd ok_Jx4a65c_get_915e3 ⟨hw, im_Jx4a65c_get_915e3, sl_Jx4a65c_get_915e3⟩ rfl hL.1 rfl (Nat.le_of_ble_eq_true rfl) hst hdd (Nat.le_refl _) (Nat.le_refl _) rfl hn (m_get hL hi) kk
theorem lk_Jxc12de_7 : zLk RJxc12de 7 TJx4a65c 0 := Or.inl ⟨_, ⟨tw_1 _ (List.mem_of_getElem? (i := 77) (by decide +kernel)), by decide +kernel⟩, Or.inl rfl⟩
theorem pf_Jxc12de_init_da8c8_7 : zPF mth_Jxc12de_init_da8c8 7 14 128 .int false := ⟨4, 0, RJx4a65c, TJx4a65c, 3, tyJx4a65c, rfl, rfl, cls_4, by decide, lk_Jxc12de_7, by decide +kernel, rfl, Or.inl rfl⟩
theorem m_ACinit : zD Z l 0 mth_Jxa1e45_init_da8c8 [.ref p] M 0 0 none M := by
  intro Q hQ
  show zX Z l 0 mth_Jxa1e45_init_da8c8 0 [(0, .ref p)] [] M 0 0 Q
  refine zs_aload_n (n := 1) dJxa1e45_init_da8c8_0 rfl rfl ?_
  refine zs_objInit (n := 4) dJxa1e45_init_da8c8_1 ml_Jxa1e45_1 w_oi w_oc (by simp) rfl ?_
  refine zs_return dJxa1e45_init_da8c8_4 rfl ?_
  exact hQ
theorem m_ALinit (hp : mK M p = 14) : zD Z l 1 mth_Jxc12de_init_da8c8 [.ref p] M 0 0 none (sI M p 128 0) := by
  intro Q hQ
  show zX Z l 1 mth_Jxc12de_init_da8c8 0 [(0, .ref p)] [] M 0 0 Q
  refine zs_aload_n (n := 1) dJxc12de_init_da8c8_0 rfl rfl ?_
  refine zc_I (n := 4) (As := []) (mc := 0) (ms := 0) (d' := 0) dJxc12de_init_da8c8_1 ok_Jxa1e45_init_da8c8 ⟨ml_Jxc12de_1, im_Jxa1e45_init_da8c8, rfl, rfl⟩ rfl (Nat.le_of_ble_eq_true rfl) (by simp) (by omega) (Nat.le_refl _) (Nat.le_refl _) rfl rfl m_ACinit ?_
  refine zs_aload_n (n := 5) dJxc12de_init_da8c8_4 rfl rfl ?_
  refine zs_iconst (v := 0) (n := 6) dJxc12de_init_da8c8_5 (by decide) rfl ?_
  refine zs_puti (n := 9) dJxc12de_init_da8c8_6 pf_Jxc12de_init_da8c8_7 (by assumption) ⟨rfl, rfl⟩ rfl ?_
  refine zs_return dJxc12de_init_da8c8_9 rfl ?_
  exact hQ
theorem m_init (hp : mK M p = 14) : zD Z l 2 mth_Jx4a65c_init_da8c8 [.ref p] M 0 0 none (sR (sI M p 128 0) p 129 (some (zPe Z))) := by
  intro Q hQ
  show zX Z l 2 mth_Jx4a65c_init_da8c8 0 [(0, .ref p)] [] M 0 0 Q
  refine zs_aload_n (n := 1) dJx4a65c_init_da8c8_0 rfl rfl ?_
  refine zc_I (n := 4) (As := []) (mc := 0) (ms := 0) (d' := 1) dJx4a65c_init_da8c8_1 ok_Jxc12de_init_da8c8 ⟨ml_Jx4a65c_1, im_Jxc12de_init_da8c8, rfl, rfl⟩ rfl (Nat.le_of_ble_eq_true rfl) (by simp) (by omega) (Nat.le_refl _) (Nat.le_refl _) rfl rfl (m_ALinit hp) ?_
  refine zs_aload_n (n := 5) dJx4a65c_init_da8c8_4 rfl rfl ?_
  refine zs_getsE (n := 8) dJx4a65c_init_da8c8_5 ⟨tw_1 _ (List.mem_of_getElem? (i := 71) (by decide +kernel)), by decide +kernel⟩ rfl ?_
  refine zs_putr (n := 11) dJx4a65c_init_da8c8_8 pf_Jx4a65c_init_da8c8_9 (by assumption) ⟨rfl, rfl⟩ rfl ?_
  refine zs_return dJx4a65c_init_da8c8_11 rfl ?_
  exact hQ
theorem zc_linit (hd : decode (zMC mm) pc = .ok (.invokespecial ix, 3)) (hw : zwd (.methodLink (zMY mm).cls ix yJx4a65c_init_da8c8)) (hp : mK M p = 14) (hst : st.length ≤ 4) (hdd : 2 < d) (hn : pc + 3 = n) (kk : zX Z l d mm n L st (sR (sI M p 128 0) p 129 (some (zPe Z))) nc ns Q) : zX Z l d mm pc L (.ref p :: st) M nc ns Q :=
  zc_I (As := []) (mc := 0) (ms := 0) hd ok_Jx4a65c_init_da8c8 ⟨hw, im_Jx4a65c_init_da8c8, rfl, rfl⟩ rfl (Nat.le_of_ble_eq_true rfl) hst hdd (Nat.le_refl _) (Nat.le_refl _) rfl hn (m_init hp) kk
theorem m_set {i q ci : Nat} {r : vw_C} (h : zL Z M p e c f) (hi : i < c) (hq : mK M q = 10 + ci) (hr : vwCl[ci]? = some r) (hw : zwd (.castable r.1 "java/lang/Object")) : zD Z l 2 mth_Jx4a65c_set_bcc79 [.ref p, .int (nI i), .ref q] M 0 0 (some (.ref (f i))) (sAR M e i (some q)) := by
  intro Q hQ
  show zX Z l 2 mth_Jx4a65c_set_bcc79 0 [(0, .ref p), (1, .int (nI i)), (2, .ref q)] [] M 0 0 Q
  refine zs_iload_n (n := 1) dJx4a65c_set_bcc79_0 rfl rfl ?_
  refine zs_aload_n (n := 2) dJx4a65c_set_bcc79_1 rfl rfl ?_
  refine zs_geti (n := 5) dJx4a65c_set_bcc79_2 gf_Jx4a65c_48 h.1 rfl ?_
  rw [h.2.1]
  have hc := h.lt
  refine zc_S (n := 8) (As := [.int (nI i), .int (nI c)]) (mc := 0) (ms := 0) (d' := 1) dJx4a65c_set_bcc79_5 ok_J15_checkIndex_7cf53 ⟨ml_Jx4a65c_118, st_J15_checkIndex_7cf53⟩ rfl (Nat.le_of_ble_eq_true rfl) (by simp) (by omega) (Nat.le_refl _) (Nat.le_refl _) rfl rfl (m_checkIndex1 (nI_pos (by omega)) (nI_lt hi (by omega))) ?_
  refine zs_pop (n := 9) dJx4a65c_set_bcc79_8 rfl rfl ?_
  refine zs_aload_n (n := 10) dJx4a65c_set_bcc79_9 rfl rfl ?_
  refine zs_iload_n (n := 11) dJx4a65c_set_bcc79_10 rfl rfl ?_
  refine zc_V (n := 14) (As := [.int (nI i)]) (ci := 4) (mc := 0) (ms := 0) (d' := 0) dJx4a65c_set_bcc79_11 ok_Jx4a65c_elementData_915e3 ⟨ml_Jx4a65c_123, im_Jx4a65c_elementData_915e3, sl_Jx4a65c_elementData_915e3⟩ rfl h.1 rfl (Nat.le_of_ble_eq_true rfl) (by simp) (by omega) (Nat.le_refl _) (Nat.le_refl _) rfl rfl (m_elementData h hi) ?_
  refine zs_astore_n (n := 15) dJx4a65c_set_bcc79_14 (by decide) rfl ?_
  refine zs_aload_n (n := 16) dJx4a65c_set_bcc79_15 rfl rfl ?_
  refine zs_getr (n := 19) dJx4a65c_set_bcc79_16 gf_Jx4a65c_9 h.1 h.2.2.1 rfl ?_
  refine zs_iload_n (n := 20) dJx4a65c_set_bcc79_19 rfl rfl ?_
  refine zs_aload_n (n := 21) dJx4a65c_set_bcc79_20 rfl rfl ?_
  have h3 : mK M e = 3 ∧ i < mN M e ∧ mN M e < 1000 := by
    obtain ⟨-, -, -, h, -⟩ := h
    rcases h with ⟨-, -, h, -⟩ | ⟨h0, h1, h2, -⟩
    · omega
    · exact ⟨h0, by omega, h2⟩
  refine zs_aast (n := 22) dJx4a65c_set_bcc79_21 h3.1 (vp_in_nI h3.2.1 (by omega)) hq hr hw rfl ?_
  rw [nI_clamp (by omega)]
  refine zs_aload_n (n := 23) dJx4a65c_set_bcc79_22 rfl rfl ?_
  refine zs_areturn dJx4a65c_set_bcc79_23 ⟨_, rfl, Or.inl ⟨_, rfl⟩⟩ ?_
  exact hQ
theorem zc_set {i q ci : Nat} {r : vw_C} (hd : decode (zMC mm) pc = .ok (.invokevirtual ix, 3)) (hw : zwd (.methodLink (zMY mm).cls ix yJx4a65c_set_bcc79)) (hL : zL Z M p e c f) (hi : i < c) (hq : mK M q = 10 + ci) (hr : vwCl[ci]? = some r) (hw2 : zwd (.castable r.1 "java/lang/Object")) (hst : st.length ≤ 4) (hdd : 2 < d) (hn : pc + 3 = n) (kk : zX Z l d mm n L (.ref (f i) :: st) (sAR M e i (some q)) nc ns Q) : zX Z l d mm pc L (.ref q :: .int (nI i) :: .ref p :: st) M nc ns Q :=
  zc_V (As := [.int (nI i), .ref q]) (ci := 4) (mc := 0) (ms := 0) hd ok_Jx4a65c_set_bcc79 ⟨hw, im_Jx4a65c_set_bcc79, sl_Jx4a65c_set_bcc79⟩ rfl hL.1 rfl (Nat.le_of_ble_eq_true rfl) hst hdd (Nat.le_refl _) (Nat.le_refl _) rfl hn (m_set hL hi hq hr hw2) kk
/-- the memory behind clear() -/
abbrev zClr (M : zMem) (p e c : Nat) : zMem := sARr (sI (sI M p 128 (vI M p 128 + 1)) p 130 0) e (fun j => if j < c then none else aR M e j)
theorem zclr_step {M : zMem} {e i : Nat} {r : Nat → Option Nat} : sAR (sARr M e (fun j => if j < i then none else r j)) e i none = sARr M e (fun j => if j < i + 1 then none else r j) := by
  have h : u2 (u1 (aR M) e (fun j => if j < i then none else r j)) e i none = u1 (aR M) e (fun j => if j < i + 1 then none else r j) := by
    funext a j
    unfold u2 u1
    by_cases ha : a = e
    · subst ha
      by_cases hj : j = i
      · subst hj
        simp
      · by_cases h1 : j < i
        · simp [h1, hj, Nat.lt_succ_of_lt h1]
        · have h2 : ¬ j < i + 1 := by omega
          simp [h1, h2, hj]
    · simp [ha]
  show (_, _, _, _, _, _, u2 (u1 (aR M) e _) e i none, _, _) = (_, _, _, _, _, _, u1 (aR M) e _, _, _)
  rw [h]
theorem zclr_0 {M : zMem} {e : Nat} : sARr M e (fun j => if j < 0 then none else aR M e j) = M := by
  have h : u1 (aR M) e (fun j => if j < 0 then none else aR M e j) = aR M := by
    funext a
    unfold u1
    by_cases ha : a = e
    · subst ha; simp
    · simp [ha]
  show (_, _, _, _, _, _, u1 (aR M) e _, _, _) = M
  rw [h]
theorem clear_loop {p e c x : Nat} {M0 : zMem} (hK : mK M0 e = 3 ∨ c = 0) (hN : c ≤ mN M0 e) (hN2 : mN M0 e < 1000) (hc : c < 1000) (hx : Q (.inl none) (sARr M0 e (fun j => if j < c then none else aR M0 e j))) :
    ∀ k i, i ≤ c → c - i < k → zX Z l x mth_Jx4a65c_clear_da8c8 27 [(0, .ref p), (1, .ref e), (2, .int (nI c)), (3, .int (nI i))] [] (sARr M0 e (fun j => if j < i then none else aR M0 e j)) nc ns Q := by
  intro k
  induction k with
  | zero => intro i _ h; omega
  | succ k ih =>
    intro i hi hk
    refine zs_iload_n (n := 28) dJx4a65c_clear_da8c8_27 rfl rfl ?_
    refine zs_iload_n (n := 29) dJx4a65c_clear_da8c8_28 rfl rfl ?_
    by_cases hlt : i < c
    · refine zs_icmp_ge (tgt := 42) (n := 32) dJx4a65c_clear_da8c8_29 (by decide) rfl (fun h => absurd h (nI_ge hlt (by omega))) (fun _ => ?_)
    
      refine zs_aload_n (n := 33) dJx4a65c_clear_da8c8_32 rfl rfl ?_
      refine zs_iload_n (n := 34) dJx4a65c_clear_da8c8_33 rfl rfl ?_
      refine zs_null (n := 35) dJx4a65c_clear_da8c8_34 rfl ?_
      refine zs_aastN (n := 36) dJx4a65c_clear_da8c8_35 (by rcases hK with h | h; exact h; omega) (vp_in_nI (Nat.lt_of_lt_of_le hlt hN) (show mN M0 e < 2 ^ 31 by omega)) rfl ?_
      rw [nI_clamp (by omega), zclr_step]
      refine zs_iinc (v := nI (i + 1)) (n := 39) dJx4a65c_clear_da8c8_36 rfl (nI_1 i) (by decide) rfl ?_
      refine zs_goto (tgt := 27) dJx4a65c_clear_da8c8_39 (by decide) ?_
      refine zX.sub (L' := [(0, .ref p), (1, .ref e), (2, .int (nI c)), (3, .int (nI (i + 1)))]) ⟨rfl, rfl, rfl, rfl, trivial⟩ ?_
      exact ih (i + 1) hlt (by omega)
    · have hic : i = c := by omega
      subst hic
      refine zs_icmp_ge (tgt := 42) (n := 32) dJx4a65c_clear_da8c8_29 (by decide) rfl (fun _ => ?_) (fun h => absurd (nI_le (Nat.le_refl _) (by omega)) h)
      refine zs_return dJx4a65c_clear_da8c8_42 rfl ?_
      exact hx
theorem m_clear (h : zL Z M p e c f) : zD Z l 0 mth_Jx4a65c_clear_da8c8 [.ref p] M 0 0 none (zClr M p e c) := by
  intro Q hQ
  show zX Z l 0 mth_Jx4a65c_clear_da8c8 0 [(0, .ref p)] [] M 0 0 Q
  refine zs_aload_n (n := 1) dJx4a65c_clear_da8c8_0 rfl rfl ?_
  refine zs_dup (n := 2) dJx4a65c_clear_da8c8_1 rfl rfl ?_
  refine zs_geti (n := 5) dJx4a65c_clear_da8c8_2 gf_Jx4a65c_63 h.1 rfl ?_
  refine zs_iconst (v := 1) (n := 6) dJx4a65c_clear_da8c8_5 (by decide) rfl ?_
  refine zs_iadd (n := 7) dJx4a65c_clear_da8c8_6 rfl ?_
  refine zs_puti (n := 10) dJx4a65c_clear_da8c8_7 pf_Jx4a65c_clear_da8c8_63 h.1 ⟨rfl, rfl⟩ rfl ?_
  refine zs_aload_n (n := 11) dJx4a65c_clear_da8c8_10 rfl rfl ?_
  refine zs_getr (n := 14) dJx4a65c_clear_da8c8_11 gf_Jx4a65c_9 h.1 h.2.2.1 rfl ?_
  refine zs_astore_n (n := 15) dJx4a65c_clear_da8c8_14 (by decide) rfl ?_
  refine zs_aload_n (n := 16) dJx4a65c_clear_da8c8_15 rfl rfl ?_
  refine zs_geti (n := 19) dJx4a65c_clear_da8c8_16 gf_Jx4a65c_48 h.1 rfl ?_
  rw [show vI (sI M p 128 (vI M p 128 + 1)) p 130 = nI c from h.2.1]
  refine zs_istore_n (n := 20) dJx4a65c_clear_da8c8_19 (by decide) rfl ?_
  refine zs_aload_n (n := 21) dJx4a65c_clear_da8c8_20 rfl rfl ?_
  refine zs_iconst (v := 0) (n := 22) dJx4a65c_clear_da8c8_21 (by decide) rfl ?_
  refine zs_dup_x1 (n := 23) dJx4a65c_clear_da8c8_22 rfl rfl rfl ?_
  refine zs_puti (n := 26) dJx4a65c_clear_da8c8_23 pf_Jx4a65c_clear_da8c8_48 h.1 ⟨rfl, rfl⟩ rfl ?_
  refine zs_istore_n (n := 27) dJx4a65c_clear_da8c8_26 (by decide) rfl ?_
  refine zX.sub (L' := [(0, .ref p), (1, .ref e), (2, .int (nI c)), (3, .int (nI 0))]) ⟨rfl, rfl, rfl, rfl, trivial⟩ ?_
  have hlt := h.lt
  obtain ⟨h1, h2, h3, h4, h5⟩ := h
  rw [← zclr_0 (M := sI (sI M p 128 (vI M p 128 + 1)) p 130 0) (e := e)]
  refine clear_loop (M0 := sI (sI M p 128 (vI M p 128 + 1)) p 130 0) ?_ ?_ ?_ hlt ?_ (c + 1) 0 (Nat.zero_le _) (by omega)
  · rcases h4 with ⟨-, -, h, -⟩ | ⟨h, -⟩
    · exact Or.inr h
    · exact Or.inl h
  · rcases h4 with ⟨-, -, h, -⟩ | ⟨-, h, -⟩
    · show c ≤ mN M e
      omega
    · exact h
  · rcases h4 with ⟨-, h, -⟩ | ⟨-, -, h, -⟩
    · show mN M e < 1000
      omega
    · exact h
  exact hQ
theorem zc_clear (hd : decode (zMC mm) pc = .ok (.invokevirtual ix, 3)) (hw : zwd (.methodLink (zMY mm).cls ix yJx4a65c_clear_da8c8)) (hL : zL Z M p e c f) (hst : st.length ≤ 4) (hdd : 0 < d) (hn : pc + 3 = n) (kk : zX Z l d mm n L st (zClr M p e c) nc ns Q) : zX Z l d mm pc L (.ref p :: st) M nc ns Q :=
  zc_V (As := []) (ci := 4) (mc := 0) (ms := 0) hd ok_Jx4a65c_clear_da8c8 ⟨hw, im_Jx4a65c_clear_da8c8, sl_Jx4a65c_clear_da8c8⟩ rfl hL.1 rfl (Nat.le_of_ble_eq_true rfl) hst hdd (Nat.le_refl _) (Nat.le_refl _) rfl hn (m_clear hL) kk
/-- add, where there is room -/
abbrev zAdd (M : zMem) (p e c v : Nat) : zMem := sI (sAR (sI M p 128 (vI M p 128 + 1)) e c (some v)) p 130 (nI (c + 1))
/-- add to the empty list, whose row q is made -/
abbrev zAddG (M : zMem) (p q v g : Nat) : zMem := sI (sAR (sR (zNew (sI M p 128 (vI M p 128 + 1)) q 3 10 g) p 129 (some q)) q 0 (some v)) p 130 1
/-- a thing of ours that a list may hold -/
def zOb (M : zMem) (v : Nat) : Prop := (∃ (ci : Nat) (r : vw_C), mK M v = 10 + ci ∧ vwCl[ci]? = some r ∧ zwd (.castable r.1 "java/lang/Object")) ∨ mK M v = 8
theorem zOb.to {M M' : zMem} {v : Nat} (h : zOb M v) (hk : mK M' v = mK M v) : zOb M' v := by
  rcases h with ⟨ci, r, h1, h2, h3⟩ | h
  · exact Or.inl ⟨ci, r, hk.trans h1, h2, h3⟩
  · exact Or.inr (hk.trans h)
theorem zOb.ne {M : zMem} {v : Nat} (h : zOb M v) : mK M v ≠ 0 := by
  rcases h with ⟨ci, r, h1, h2, h3⟩ | h <;> omega
/-- a cached Integer into a row -/
theorem zs_aastJ {a v : Nat} {i : Int32} (hd : decode (zMC mm) pc = .ok (.aastore, 1)) (hK : mK M a = 3) (hi : vp_in i (mN M a)) (hv : mK M v = 8) (hn : pc + 1 = n) (k : zX Z l d mm n L st (sAR M a i.toNatClampNeg (some v)) nc ns Q) : zX Z l d mm pc L (.ref v :: .int i :: .ref a :: st) M nc ns Q := by
  subst hn
  intro p e R s m args below meth c H locs cells slots QF ls C hl hM hS hc hs hE
  obtain ⟨ws, hP, hD, hI, hC⟩ := hM
  obtain ⟨q0, hq0⟩ := hI a ⟨by omega, by omega, by omega⟩
  rw [zE3 hK] at hq0
  have hW := C.2.2.2.2.2.2.2.2.2.1
  have hB : vb_C (zPc9 Z) (zA Z) s s.heap := C.2.2.2.2.2.2.2.2.2.2.2.1.2.2.2.2.2.2.2.2.1
  obtain ⟨j, hj, rfl, -, -⟩ := hC.2 v hv
  obtain ⟨cell, b1, b2, b3, -⟩ := (hB.1 j hj).kept hS.2.1
  refine vb_astq C.1 C.2.1 C.2.2.2.2.2.2.2.2.2.2.1 hP hD hS q0 2 hq0 rfl ⟨cell, b1, b2, b3⟩ (vb_asgC (hW _ co_J6.1 co_J6.2)) hi hd (fun H1 locs1 hP1 hD1 hS1 => ?_)
  refine k p e R s m args below meth c H1 locs1 cells slots QF ls C hl ⟨_, hP1, hD1, zIn_set hq0 hI (fun b hb => hb) ?_ (fun b hb => zEnt_ne rfl rfl rfl rfl rfl (u2_ne hb) rfl rfl), zCo_row rfl rfl rfl hC⟩ hS1 hc hs hE
  rw [zE3 (show mK (sAR M a i.toNatClampNeg (some (zPc9 Z j))) a = 3 from hK), show aR (sAR M a i.toNatClampNeg (some (zPc9 Z j))) a = va_up (aR M a) i.toNatClampNeg (some (zPc9 Z j)) from u2_row]
theorem zs_aastB {a v : Nat} {i : Int32} (hd : decode (zMC mm) pc = .ok (.aastore, 1)) (hK : mK M a = 3) (hi : vp_in i (mN M a)) (hv : zOb M v) (hn : pc + 1 = n) (k : zX Z l d mm n L st (sAR M a i.toNatClampNeg (some v)) nc ns Q) : zX Z l d mm pc L (.ref v :: .int i :: .ref a :: st) M nc ns Q := by
  rcases hv with ⟨ci, r, h1, h2, h3⟩ | h
  · exact zs_aast hd hK hi h1 h2 h3 hn k
  · exact zs_aastJ hd hK hi h hn k
theorem w_max : zMath RJx4a65c 79 Lib.Math.max.name Lib.Math.max.code 2 := ⟨⟨tw_3 _ (List.mem_of_getElem? (i := 114) (by decide +kernel)), by decide +kernel⟩, ⟨tw_3 _ (List.mem_of_getElem? (i := 64) (by decide +kernel)), by decide +kernel⟩, ⟨tw_1 _ (List.mem_of_getElem? (i := 23) (by decide +kernel)), by decide +kernel⟩, ⟨tw_3 _ (List.mem_of_getElem? (i := 65) (by decide +kernel)), by decide +kernel⟩⟩
theorem zNew_K {M : zMem} {q kind len g a : Nat} (hq : mK M q = 0) (ha : mK M a ≠ 0) : mK (zNew M q kind len g) a = mK M a := u1_ne (fun h => ha (h ▸ hq))
theorem zNew_Kq {M : zMem} {q kind len g : Nat} : mK (zNew M q kind len g) q = kind := u1_at
theorem zNew_Nq {M : zMem} {q kind len g : Nat} : mN (zNew M q kind len g) q = len := u1_at
theorem zNew_I {M : zMem} {q kind len g a : Nat} (hq : mK M q = 0) (ha : mK M a ≠ 0) : vI (zNew M q kind len g) a = vI M a := u1_ne (fun h => ha (h ▸ hq))
theorem zNew_R {M : zMem} {q kind len g a : Nat} (hq : mK M q = 0) (ha : mK M a ≠ 0) : vR (zNew M q kind len g) a = vR M a := u1_ne (fun h => ha (h ▸ hq))
theorem zNew_AI {M : zMem} {q kind len g a : Nat} (hq : mK M q = 0) (ha : mK M a ≠ 0) : aI (zNew M q kind len g) a = aI M a := u1_ne (fun h => ha (h ▸ hq))
theorem zNew_AR {M : zMem} {q kind len g a : Nat} (hq : mK M q = 0) (ha : mK M a ≠ 0) : aR (zNew M q kind len g) a = aR M a := u1_ne (fun h => ha (h ▸ hq))
theorem zNew_N {M : zMem} {q kind len g a : Nat} (hq : mK M q = 0) (ha : mK M a ≠ 0) : mN (zNew M q kind len g) a = mN M a := u1_ne (fun h => ha (h ▸ hq))
theorem m_grow {g : Nat} (h1 : mK M p = 14) (h2 : vR M p 129 = some e) (h3 : mK M e = 7) (h4 : mN M e = 0) (h5 : e = zPe Z) (hQ : ∀ q, mK M q = 0 → Q (.inl (some (.ref q))) (sR (zNew M q 3 10 g) p 129 (some q))) : zX Z l 1 mth_Jx4a65c_grow_92f84 0 (lv_args 0 [.ref p, .int 1]) [] M 1 10 Q := by
  show zX Z l 1 mth_Jx4a65c_grow_92f84 0 [(0, .ref p), (1, .int 1)] [] M 1 10 Q
  refine zs_aload_n (n := 1) dJx4a65c_grow_92f84_0 rfl rfl ?_
  refine zs_getr (n := 4) dJx4a65c_grow_92f84_1 gf_Jx4a65c_9 h1 h2 rfl ?_
  refine zs_alen (n := 5) dJx4a65c_grow_92f84_4 (by omega) rfl ?_
  rw [h4]
  refine zs_istore_n (n := 6) dJx4a65c_grow_92f84_5 (by decide) rfl ?_
  refine zs_iload_n (n := 7) dJx4a65c_grow_92f84_6 rfl rfl ?_
  refine zs_if_gt (tgt := 20) (n := 10) dJx4a65c_grow_92f84_7 (by decide) rfl (fun h => absurd h (by decide)) (fun _ => ?_)
  refine zs_aload_n (n := 11) dJx4a65c_grow_92f84_10 rfl rfl ?_
  refine zs_getr (n := 14) dJx4a65c_grow_92f84_11 gf_Jx4a65c_9 h1 h2 rfl ?_
  refine zs_getsE (n := 17) dJx4a65c_grow_92f84_14 ⟨tw_1 _ (List.mem_of_getElem? (i := 71) (by decide +kernel)), by decide +kernel⟩ rfl ?_
  refine zs_acmp_eq (tgt := 45) (n := 20) dJx4a65c_grow_92f84_17 (by decide) rfl (fun _ => ?_) (fun h => absurd h5 h)
  refine zs_aload_n (n := 46) dJx4a65c_grow_92f84_45 rfl rfl ?_
  refine zs_bipush (v := 10) (n := 48) dJx4a65c_grow_92f84_46 (by decide) rfl ?_
  refine zs_iload_n (n := 49) dJx4a65c_grow_92f84_48 rfl rfl ?_
  refine zs_max (n := 52) dJx4a65c_grow_92f84_49 w_max (by simp) rfl ?_
  rw [if_neg (by decide)]
  refine zs_newQ (N := 10) g (nc1 := 0) (ns1 := 0) (n := 55) dJx4a65c_grow_92f84_52 cl_Jx4a65c_7 w_ao (by decide) (by decide) (by decide) rfl (by decide) (by decide) (fun q hq => ?_)
  refine zs_dup_x1 (n := 56) dJx4a65c_grow_92f84_55 rfl rfl rfl ?_
  refine zs_putr (n := 59) dJx4a65c_grow_92f84_56 pf_Jx4a65c_grow_92f84_9 ((zNew_K hq (by omega)).trans h1) ⟨rfl, rfl⟩ rfl ?_
  refine zs_areturn dJx4a65c_grow_92f84_59 ⟨_, rfl, Or.inr ⟨_, rfl⟩⟩ ?_
  exact hQ q hq
theorem m_grow0 {g : Nat} (h1 : mK M p = 14) (h0 : vI M p 130 = 0) (h2 : vR M p 129 = some e) (h3 : mK M e = 7) (h4 : mN M e = 0) (h5 : e = zPe Z) (hQ : ∀ q, mK M q = 0 → Q (.inl (some (.ref q))) (sR (zNew M q 3 10 g) p 129 (some q))) : zX Z l 2 mth_Jx4a65c_grow_d5877 0 (lv_args 0 [.ref p]) [] M 1 10 Q := by
  show zX Z l 2 mth_Jx4a65c_grow_d5877 0 [(0, .ref p)] [] M 1 10 Q
  refine zs_aload_n (n := 1) dJx4a65c_grow_d5877_0 rfl rfl ?_
  refine zs_aload_n (n := 2) dJx4a65c_grow_d5877_1 rfl rfl ?_
  refine zs_geti (n := 5) dJx4a65c_grow_d5877_2 gf_Jx4a65c_48 h1 rfl ?_
  rw [h0]
  refine zs_iconst (v := 1) (n := 6) dJx4a65c_grow_d5877_5 (by decide) rfl ?_
  refine zs_iadd (n := 7) dJx4a65c_grow_d5877_6 rfl ?_
  refine zs_invV (d' := 1) (nc1 := 0) (ns1 := 0) (n := 10) (As := [.int 1]) (ci := 4) (mc := 1) (ms := 10) (Post := fun o M' => ∃ q, mK M q = 0 ∧ o = .inl (some (.ref q)) ∧ M' = sR (zNew M q 3 10 g) p 129 (some q)) dJx4a65c_grow_d5877_7 ok_Jx4a65c_grow_92f84 ⟨ml_Jx4a65c_69, im_Jx4a65c_grow_92f84, sl_Jx4a65c_grow_92f84⟩ rfl h1 rfl (Nat.le_of_ble_eq_true rfl) (by simp) rfl (by omega) (by omega) rfl rfl (m_grow h1 h2 h3 h4 h5 (fun q hq => ⟨q, hq, rfl, rfl⟩)) (fun k M' h => by obtain ⟨q, _, h, _⟩ := h; cases h) (fun v M' h => ?_)
  obtain ⟨q, hq, h, rfl⟩ := h
  cases h
  refine zs_areturn dJx4a65c_grow_d5877_10 ⟨_, rfl, Or.inr ⟨_, rfl⟩⟩ ?_
  exact hQ q hq
/-- the private add: no room is wanted -/
theorem m_add3 {v : Nat} (h1 : mK M p = 14) (h3 : mK M e = 3) (hc : c < mN M e) (hN : mN M e < 1000) (hv : zOb M v) : zD Z l 0 mth_Jx4a65c_add_72be8 [.ref p, .ref v, .ref e, .int (nI c)] M 0 0 none (sI (sAR M e c (some v)) p 130 (nI (c + 1))) := by
  intro Q hQ
  show zX Z l 0 mth_Jx4a65c_add_72be8 0 [(0, .ref p), (1, .ref v), (2, .ref e), (3, .int (nI c))] [] M 0 0 Q
  refine zs_iload_n (n := 1) dJx4a65c_add_72be8_0 rfl rfl ?_
  refine zs_aload_n (n := 2) dJx4a65c_add_72be8_1 rfl rfl ?_
  refine zs_alen (n := 3) dJx4a65c_add_72be8_2 (by omega) rfl ?_
  refine zs_icmp_ne (tgt := 11) (n := 6) dJx4a65c_add_72be8_3 (by decide) rfl (fun _ => ?_) (fun h => absurd h (fun h => absurd ((nI_eq (a := c) (b := mN M e) (by omega) (by omega)).mp h) (by omega)))
  refine zs_aload_n (n := 12) dJx4a65c_add_72be8_11 rfl rfl ?_
  refine zs_iload_n (n := 13) dJx4a65c_add_72be8_12 rfl rfl ?_
  refine zs_aload_n (n := 14) dJx4a65c_add_72be8_13 rfl rfl ?_
  refine zs_aastB (n := 15) dJx4a65c_add_72be8_14 h3 (vp_in_nI hc (by omega)) hv rfl ?_
  rw [nI_clamp (by omega)]
  refine zs_aload_n (n := 16) dJx4a65c_add_72be8_15 rfl rfl ?_
  refine zs_iload_n (n := 17) dJx4a65c_add_72be8_16 rfl rfl ?_
  refine zs_iconst (v := 1) (n := 18) dJx4a65c_add_72be8_17 (by decide) rfl ?_
  refine zs_iadd (n := 19) dJx4a65c_add_72be8_18 rfl ?_
  rw [nI_1]
  refine zs_puti (n := 22) dJx4a65c_add_72be8_19 pf_Jx4a65c_add_72be8_48 h1 ⟨rfl, rfl⟩ rfl ?_
  refine zs_return dJx4a65c_add_72be8_22 rfl ?_
  exact hQ
theorem m_add3g {g v : Nat} (h1 : mK M p = 14) (h0 : vI M p 130 = 0) (h2 : vR M p 129 = some e) (h3 : mK M e = 7) (h4 : mN M e = 0) (h5 : e = zPe Z) (hv : zOb M v) (hQ : ∀ q, mK M q = 0 → Q (.inl none) (sI (sAR (sR (zNew M q 3 10 g) p 129 (some q)) q 0 (some v)) p 130 1)) : zX Z l 3 mth_Jx4a65c_add_72be8 0 (lv_args 0 [.ref p, .ref v, .ref e, .int 0]) [] M 1 10 Q := by
  show zX Z l 3 mth_Jx4a65c_add_72be8 0 [(0, .ref p), (1, .ref v), (2, .ref e), (3, .int 0)] [] M 1 10 Q
  refine zs_iload_n (n := 1) dJx4a65c_add_72be8_0 rfl rfl ?_
  refine zs_aload_n (n := 2) dJx4a65c_add_72be8_1 rfl rfl ?_
  refine zs_alen (n := 3) dJx4a65c_add_72be8_2 (by omega) rfl ?_
  rw [h4]
  refine zs_icmp_ne (tgt := 11) (n := 6) dJx4a65c_add_72be8_3 (by decide) rfl (fun h => absurd h (fun h => h rfl)) (fun _ => ?_)
  refine zs_aload_n (n := 7) dJx4a65c_add_72be8_6 rfl rfl ?_
  refine zs_invV (d' := 2) (nc1 := 0) (ns1 := 0) (n := 10) (As := []) (ci := 4) (mc := 1) (ms := 10) (Post := fun o M' => ∃ q, mK M q = 0 ∧ o = .inl (some (.ref q)) ∧ M' = sR (zNew M q 3 10 g) p 129 (some q)) dJx4a65c_add_72be8_7 ok_Jx4a65c_grow_d5877 ⟨ml_Jx4a65c_129, im_Jx4a65c_grow_d5877, sl_Jx4a65c_grow_d5877⟩ rfl h1 rfl (Nat.le_of_ble_eq_true rfl) (by simp) rfl (by omega) (by omega) rfl rfl (m_grow0 h1 h0 h2 h3 h4 h5 (fun q hq => ⟨q, hq, rfl, rfl⟩)) (fun k M' h => by obtain ⟨q, _, h, _⟩ := h; cases h) (fun v M' h => ?_)
  obtain ⟨q, hq, h, rfl⟩ := h
  cases h
  have hKp : mK (zNew M q 3 10 g) p = 14 := (zNew_K hq (by omega)).trans h1
  refine zs_astore_n (n := 11) dJx4a65c_add_72be8_10 (by decide) rfl ?_
  refine zs_aload_n (n := 12) dJx4a65c_add_72be8_11 rfl rfl ?_
  refine zs_iload_n (n := 13) dJx4a65c_add_72be8_12 rfl rfl ?_
  refine zs_aload_n (n := 14) dJx4a65c_add_72be8_13 rfl rfl ?_
  refine zs_aastB (n := 15) dJx4a65c_add_72be8_14 (zNew_Kq (M := M) (q := q) (kind := 3) (len := 10) (g := g)) (by rw [show mN (sR (zNew M q 3 10 g) p 129 (some q)) q = 10 from zNew_Nq (M := M) (q := q) (kind := 3) (len := 10) (g := g)]; unfold vp_in; decide) (hv.to (zNew_K (kind := 3) (len := 10) (g := g) hq hv.ne)) rfl ?_
  refine zs_aload_n (n := 16) dJx4a65c_add_72be8_15 rfl rfl ?_
  refine zs_iload_n (n := 17) dJx4a65c_add_72be8_16 rfl rfl ?_
  refine zs_iconst (v := 1) (n := 18) dJx4a65c_add_72be8_17 (by decide) rfl ?_
  refine zs_iadd (n := 19) dJx4a65c_add_72be8_18 rfl ?_
  refine zs_puti (n := 22) dJx4a65c_add_72be8_19 pf_Jx4a65c_add_72be8_48 hKp ⟨rfl, rfl⟩ rfl ?_
  refine zs_return dJx4a65c_add_72be8_22 rfl ?_
  exact hQ q hq
/-- list.add(v): with room, or the first one -/
theorem m_add {g v : Nat} (hL : zL Z M p e c f) (hv : zOb M v) (hr : c < mN M e ∨ c = 0) (hQ1 : mK M e = 3 → c < mN M e → Q (.inl (some (.int 1))) (zAdd M p e c v)) (hQ2 : c = 0 → mK M e = 7 → ∀ q, mK M q = 0 → Q (.inl (some (.int 1))) (zAddG M p q v g)) : zX Z l 4 mth_Jx4a65c_add_9ea2d 0 (lv_args 0 [.ref p, .ref v]) [] M 1 10 Q := by
  show zX Z l 4 mth_Jx4a65c_add_9ea2d 0 [(0, .ref p), (1, .ref v)] [] M 1 10 Q
  have hc := hL.lt
  obtain ⟨h1, h2, h3, h4, h5⟩ := hL
  refine zs_aload_n (n := 1) dJx4a65c_add_9ea2d_0 rfl rfl ?_
  refine zs_dup (n := 2) dJx4a65c_add_9ea2d_1 rfl rfl ?_
  refine zs_geti (n := 5) dJx4a65c_add_9ea2d_2 gf_Jx4a65c_63 h1 rfl ?_
  refine zs_iconst (v := 1) (n := 6) dJx4a65c_add_9ea2d_5 (by decide) rfl ?_
  refine zs_iadd (n := 7) dJx4a65c_add_9ea2d_6 rfl ?_
  refine zs_puti (n := 10) dJx4a65c_add_9ea2d_7 pf_Jx4a65c_add_9ea2d_63 h1 ⟨rfl, rfl⟩ rfl ?_
  refine zs_aload_n (n := 11) dJx4a65c_add_9ea2d_10 rfl rfl ?_
  refine zs_aload_n (n := 12) dJx4a65c_add_9ea2d_11 rfl rfl ?_
  refine zs_aload_n (n := 13) dJx4a65c_add_9ea2d_12 rfl rfl ?_
  refine zs_getr (n := 16) dJx4a65c_add_9ea2d_13 gf_Jx4a65c_9 h1 h3 rfl ?_
  refine zs_aload_n (n := 17) dJx4a65c_add_9ea2d_16 rfl rfl ?_
  refine zs_geti (n := 20) dJx4a65c_add_9ea2d_17 gf_Jx4a65c_48 h1 rfl ?_
  rw [show vI (sI M p 128 (vI M p 128 + 1)) p 130 = nI c from h2]
  rcases h4 with ⟨k1, k2, k3, k4⟩ | ⟨k1, k2, k3, k4⟩
  · subst k3
    refine zs_invV (d' := 3) (nc1 := 0) (ns1 := 0) (n := 23) (As := [.ref v, .ref e, .int 0]) (ci := 4) (mc := 1) (ms := 10) (Post := fun o M' => ∃ q, mK M q = 0 ∧ o = .inl none ∧ M' = zAddG M p q v g) dJx4a65c_add_9ea2d_20 ok_Jx4a65c_add_72be8 ⟨ml_Jx4a65c_131, im_Jx4a65c_add_72be8, sl_Jx4a65c_add_72be8⟩ rfl h1 rfl (Nat.le_of_ble_eq_true rfl) (by simp) rfl (by omega) (by omega) rfl rfl (m_add3g h1 h2 h3 k1 k2 k4 hv (fun q hq => ⟨q, hq, rfl, rfl⟩)) (fun k M' h => by obtain ⟨q, _, h, _⟩ := h; cases h) (fun v M' h => ?_)
    obtain ⟨q, hq, h, rfl⟩ := h
    cases h
    refine zs_iconst (v := 1) (n := 24) dJx4a65c_add_9ea2d_23 (by decide) rfl ?_
    refine zs_ireturn dJx4a65c_add_9ea2d_24 ⟨_, rfl, rfl⟩ ?_
    exact hQ2 rfl k1 q hq
  · have hr' : c < mN M e := by omega
    refine zc_V (n := 23) (As := [.ref v, .ref e, .int (nI c)]) (ci := 4) (mc := 0) (ms := 0) (d' := 0) dJx4a65c_add_9ea2d_20 ok_Jx4a65c_add_72be8 ⟨ml_Jx4a65c_131, im_Jx4a65c_add_72be8, sl_Jx4a65c_add_72be8⟩ rfl h1 rfl (Nat.le_of_ble_eq_true rfl) (by simp) (by omega) (Nat.le_refl _) (Nat.le_refl _) rfl rfl (m_add3 h1 k1 hr' k3 hv) ?_
    refine zs_iconst (v := 1) (n := 24) dJx4a65c_add_9ea2d_23 (by decide) rfl ?_
    refine zs_ireturn dJx4a65c_add_9ea2d_24 ⟨_, rfl, rfl⟩ ?_
    exact hQ1 k1 hr'
theorem zc_add {v nc1 ns1 : Nat} (g : Nat) (hd : decode (zMC mm) pc = .ok (.invokevirtual ix, 3)) (hw : zwd (.methodLink (zMY mm).cls ix yJx4a65c_add_9ea2d)) (hL : zL Z M p e c f) (hv : zOb M v) (hr : c < mN M e ∨ c = 0) (hst : st.length ≤ 4) (hdd : 4 < d) (hc1 : nc1 + 1 ≤ nc) (hs1 : ns1 + 10 ≤ ns) (hn : pc + 3 = n) (k1 : mK M e = 3 → c < mN M e → zX Z l d mm n L (.int 1 :: st) (zAdd M p e c v) nc1 ns1 Q) (k2 : c = 0 → mK M e = 7 → ∀ q, mK M q = 0 → zX Z l d mm n L (.int 1 :: st) (zAddG M p q v g) nc1 ns1 Q) : zX Z l d mm pc L (.ref v :: .ref p :: st) M nc ns Q :=
  zs_invV (d' := d - 1) (As := [.ref v]) (ci := 4) (mc := 1) (ms := 10) (Post := fun o M' => o = .inl (some (.int 1)) ∧ ((mK M e = 3 ∧ c < mN M e ∧ M' = zAdd M p e c v) ∨ (c = 0 ∧ mK M e = 7 ∧ ∃ q, mK M q = 0 ∧ M' = zAddG M p q v g))) hd ok_Jx4a65c_add_9ea2d ⟨hw, im_Jx4a65c_add_9ea2d, sl_Jx4a65c_add_9ea2d⟩ rfl hL.1 rfl (Nat.le_of_ble_eq_true rfl) hst (by omega) hc1 hs1 rfl hn ((m_add hL hv hr (fun h1 h2 => ⟨rfl, Or.inl ⟨h1, h2, rfl⟩⟩) (fun h1 h2 q hq => ⟨rfl, Or.inr ⟨h1, h2, q, hq, rfl⟩⟩)).deep (by omega)) (fun k M1 h => nomatch h.1) (fun v1 M1 h => by
    obtain ⟨h1, h2⟩ := h
    cases h1
    rcases h2 with ⟨a1, a2, rfl⟩ | ⟨a1, a2, q, hq, rfl⟩
    · exact k1 a1 a2
    · exact k2 a1 a2 q hq)
end ZLISTS
