/-! THE MODEL: lots, the diary -/
section ZMOD7
variable {Z : zPar} {l : Launch} {Λ : Nat → Nat} {S : zSt} {M M0 : zMem} {d d' : Nat} {mm : zMeth} {pc n nc ns ix nc1 ns1 : Nat} {L : List (Nat × Value)} {st : List Value} {Q : zO → zMem → Prop}
theorem zw_clrL (hd : decode (zMC mm) pc = .ok (.invokevirtual ix, 3)) (hw : zwd (.methodLink (zMY mm).cls ix yJx4a65c_clear_da8c8)) (hR : zRp Z Λ S M) (h4 : sc S 4 = 1) (hst : st.length ≤ 4) (hdd : 0 < d) (hn : pc + 3 = n) (kk : ∀ M', zRp Z Λ (cset (sc S) 1003 0, sV S, sW S, sT S, sP S) M' → zX Z l d mm n L st M' nc ns Q) : zX Z l d mm pc L (.ref (Λ 1021) :: st) M nc ns Q := zc_clear hd hw (hR.lL' h4) hst hdd hn (kk _ (hR.clrL' h4))
theorem zw_clrV' (hd : decode (zMC mm) pc = .ok (.invokevirtual ix, 3)) (hw : zwd (.methodLink (zMY mm).cls ix yJx4a65c_clear_da8c8)) (hR : zRp Z Λ S M) (h4 : sc S 4 = 1) (hst : st.length ≤ 4) (hdd : 0 < d) (hn : pc + 3 = n) (kk : ∀ M', zRp Z Λ (cset (sc S) 1002 0, sV S, sW S, sT S, sP S) M' → zX Z l d mm n L st M' nc ns Q) : zX Z l d mm pc L (.ref (Λ 1019) :: st) M nc ns Q := zc_clear hd hw (hR.lV' h4) hst hdd hn (kk _ (hR.clrV' h4))
theorem zw_clrT' {i : Nat} (hd : decode (zMC mm) pc = .ok (.invokevirtual ix, 3)) (hw : zwd (.methodLink (zMY mm).cls ix yJx4a65c_clear_da8c8)) (hR : zRp Z Λ S M) (hi : i < sc S 1000) (hst : st.length ≤ 4) (hdd : 0 < d) (hn : pc + 3 = n) (kk : ∀ M', zRp Z Λ (cset (sc S) (1010 + i) 0, sV S, sW S, sT S, sP S) M' → zX Z l d mm n L st M' nc ns Q) : zX Z l d mm pc L (.ref (Λ (1120 + i)) :: st) M nc ns Q := zc_clear hd hw (hR.lT' hi) hst hdd hn (kk _ (hR.clrT' hi))
theorem nI_c8 {j : Nat} (h : j < 8) : ¬ nI j < -128 ∧ ¬ (127 : Int32) < nI j := (by decide : ∀ j : Fin 8, ¬ nI j.1 < -128 ∧ ¬ (127 : Int32) < nI j.1) ⟨j, h⟩
/-- Integer.valueOf of a small number -/
theorem zc_valueOf8 {x : Int32} (hd : decode (zMC mm) pc = .ok (.invokestatic ix, 3)) (hw : zwd (.methodLink (zMY mm).cls ix yJ6_valueOf_2dffe)) (h9 : ∀ j, j < 256 → mK M (zPc9 Z j) = 8) (h1 : ¬ x < -128) (h2 : ¬ 127 < x) (hst : st.length ≤ 4) (hdd : 2 < d) (hn : pc + 3 = n)
    (k8 : ∀ v, mK M v = 8 → vI M v 32 = x → zX Z l d mm n L (.ref v :: st) M nc ns Q) : zX Z l d mm pc L (.int x :: st) M nc ns Q := by
  refine zs_invS (d' := d - 1) (As := [.int x]) (mc := 0) (ms := 0) (nc1 := nc) (ns1 := ns) (Post := fun o M1 => ∃ v, o = .inl (some (.ref v)) ∧ mK M v = 8 ∧ vI M v 32 = x ∧ M1 = M) hd ok_J6_valueOf_2dffe ⟨hw, st_J6_valueOf_2dffe⟩ rfl (Nat.le_of_ble_eq_true rfl) hst (by omega) (Nat.le_refl _) (Nat.le_refl _) rfl hn (zX.deep (d' := 0) (d := d - 1) ?_ (by omega)) (fun k M1 h => by obtain ⟨v, h, -⟩ := h; cases h) (fun v1 M1 h => by
    obtain ⟨v, h, a1, a2, rfl⟩ := h
    cases h
    exact k8 v a1 a2)
  show zX Z l 0 mth_J6_valueOf_2dffe 0 [(0, .int x)] [] M 0 0 _
  refine zs_iload_n (n := 1) dJ6_valueOf_2dffe_0 rfl rfl ?_
  refine zs_bipush (v := (-128)) (n := 3) dJ6_valueOf_2dffe_1 (by decide) rfl ?_
  refine zs_icmp_lt (tgt := 23) (n := 6) dJ6_valueOf_2dffe_3 (by decide) rfl (fun h => absurd h h1) (fun _ => ?_)
  refine zs_iload_n (n := 7) dJ6_valueOf_2dffe_6 rfl rfl ?_
  refine zs_getsH (n := 10) dJ6_valueOf_2dffe_7 w_J6h rfl ?_
  refine zs_icmp_gt (tgt := 23) (n := 13) dJ6_valueOf_2dffe_10 (by decide) rfl (fun h => absurd h h2) (fun _ => ?_)
  refine zs_getsC (n := 16) dJ6_valueOf_2dffe_13 w_J6c rfl ?_
  refine zs_iload_n (n := 17) dJ6_valueOf_2dffe_16 rfl rfl ?_
  refine zs_sipush (v := 128) (n := 20) dJ6_valueOf_2dffe_17 (by decide) rfl ?_
  refine zs_iadd (n := 21) dJ6_valueOf_2dffe_20 rfl ?_
  obtain ⟨e1, e2, e3⟩ := vb_c_of h1 h2
  refine zs_aaldC (n := 22) dJ6_valueOf_2dffe_21 e1 rfl rfl ?_
  refine zX.c9 e2 (h9 _ e2) (fun hv => ?_)
  refine zs_areturn dJ6_valueOf_2dffe_22 ⟨_, rfl, Or.inl ⟨_, rfl⟩⟩ ?_
  exact ⟨_, rfl, h9 _ e2, hv.trans e3, rfl⟩
/-- how many of the first j acts are free, and who they are -/
def dK (S : zSt) (F : Int32) (j : Nat) : Nat := zit (fun a c => if fFrm S a F (sc S 1001) = true then c + 1 else c) j 0
def dRow (S : zSt) (F : Int32) (j : Nat) : Nat → Int32 := zit (fun a W => if fFrm S a F (sc S 1001) = true then u1 W (dK S F a) (nI a) else W) j (fun _ => 0)
theorem dK_le {S : zSt} {F : Int32} : ∀ j, dK S F j ≤ j
  | 0 => Nat.le_refl _
  | j + 1 => by
    have := dK_le (S := S) (F := F) j
    show (if fFrm S j F (sc S 1001) = true then dK S F j + 1 else dK S F j) ≤ j + 1
    split <;> omega
/-- the list of those that are free, of the moment -/
def dTl (Z : zPar) (M : zMem) (S : zSt) (F : Int32) (p j : Nat) : Prop := ∃ f, zTl Z M p 3000 (dK S F j) f ∧ ∀ i, i < dK S F j → mK M (f i) = 8 ∧ vI M (f i) 32 = dRow S F j i
theorem dTl.no {F : Int32} {p j : Nat} (h : dTl Z M S F p j) (hf : fFrm S j F (sc S 1001) = false) : dTl Z M S F p (j + 1) := by
  have e1 : dK S F (j + 1) = dK S F j := by
    show (if fFrm S j F (sc S 1001) = true then dK S F j + 1 else dK S F j) = _
    rw [hf]
    rfl
  have e2 : dRow S F (j + 1) = dRow S F j := by
    show (if fFrm S j F (sc S 1001) = true then u1 (dRow S F j) (dK S F j) (nI j) else dRow S F j) = _
    rw [hf]
    rfl
  unfold dTl
  rw [e1, e2]
  exact h
theorem dTl.sI {F : Int32} {p j a k : Nat} {v : Int32} (h : dTl Z M S F p j) (hne : a ≠ p) (h8 : mK M a ≠ 8) : dTl Z (sI M a k v) S F p j := by
  obtain ⟨f, hT, hf⟩ := h
  refine ⟨f, hT.sI hne, fun i hi => ⟨(hf i hi).1, ?_⟩⟩
  exact (congrFun (u2_ne (f := vI M) (fun e => h8 (by have h1 := (hf i hi).1; rw [e] at h1; exact h1))) 32).trans (hf i hi).2
theorem zt_dadd {F : Int32} {p j v : Nat} (hd : decode (zMC mm) pc = .ok (.invokevirtual ix, 3)) (hw : zwd (.methodLink (zMY mm).cls ix yJx4a65c_add_9ea2d)) (hR : zRp Z Λ S M) (hT : dTl Z M S F p j) (hf : fFrm S j F (sc S 1001) = true) (hj : j < 8) (hv : mK M v = 8) (hx : vI M v 32 = nI j) (hst : st.length ≤ 4) (hdd : 4 < d) (hc1 : nc1 + 1 ≤ nc) (hs1 : ns1 + 10 ≤ ns) (hn : pc + 3 = n)
    (kk : ∀ M', zRp Z Λ S M' → dTl Z M' S F p (j + 1) → zX Z l d mm n L (.int 1 :: st) M' nc1 ns1 Q) : zX Z l d mm pc L (.ref v :: .ref p :: st) M nc ns Q := by
  obtain ⟨f, hT, hF⟩ := hT
  have hle := dK_le (S := S) (F := F) j
  have e1 : dK S F (j + 1) = dK S F j + 1 := by
    show (if fFrm S j F (sc S 1001) = true then dK S F j + 1 else dK S F j) = _
    rw [hf]
    rfl
  have e2 : dRow S F (j + 1) = u1 (dRow S F j) (dK S F j) (nI j) := by
    show (if fFrm S j F (sc S 1001) = true then u1 (dRow S F j) (dK S F j) (nI j) else dRow S F j) = _
    rw [hf]
    rfl
  have hp := hT.2.1
  refine zt_add hd hw hR hT (Or.inr hv) (by omega) hst hdd hc1 hs1 hn (fun M' hR' hT' hag => ?_)
  have h8 : ∀ a, mK M a = 8 → zAg M M' a := fun a ha => hag a (by omega) (fun e => by rw [e, hp] at ha; exact absurd ha (by decide)) (fun h3 => by rw [ha] at h3; exact absurd h3 (by decide))
  refine kk M' hR' ⟨_, e1 ▸ hT', fun i hi => ?_⟩
  rw [e1] at hi
  rw [e2]
  show mK M' (if i = dK S F j then v else f i) = 8 ∧ vI M' (if i = dK S F j then v else f i) 32 = u1 (dRow S F j) (dK S F j) (nI j) i
  by_cases ei : i = dK S F j
  · subst ei
    rw [if_pos rfl, u1_at]
    exact ⟨(h8 v hv).1.trans hv, (congrFun (h8 v hv).2.2.2.1 32).trans hx⟩
  · rw [if_neg ei, u1_ne ei]
    obtain ⟨b1, b2⟩ := hF i (by omega)
    exact ⟨(h8 _ b1).1.trans b1, (congrFun (h8 _ b1).2.2.2.1 32).trans b2⟩
theorem k_lotAt_1 {p : Int32} (hR : zRp Z Λ S M) (h4 : sc S 4 = 1) (hx9 : ¬ (¬ p < 0 ∧ ¬ nI (sc S 1003) ≤ p)) : zG Z l 3 mth_X16_lotAt [.ref (Λ 1001), .int p] M 0 0 (some (.int 0)) ((zRp Z Λ (mT S 1))) := by
  intro Q hQ
  have hb3 := hR.bnd.2.1.2.2.2.1
  show zX Z l 3 mth_X16_lotAt 0 [(0, .ref (Λ 1001)), (1, .int p)] [] M 0 0 Q
  refine zs_aload_n (n := 1) dX16_lotAt_0 rfl rfl ?_
  refine zs_iload_n (n := 2) dX16_lotAt_1 rfl rfl ?_
  refine zs_i2l (n := 3) dX16_lotAt_2 rfl ?_
  refine zs_lconst (v := 0) (n := 4) dX16_lotAt_3 (by decide) rfl ?_
  refine zs_aload_n (n := 5) dX16_lotAt_4 rfl rfl ?_
  refine zs_getr (b := (Λ 1021)) (n := 8) dX16_lotAt_5 gf_X16_22 (hR.kd (lvM h4 (by omega))) (hR.pt (lvM h4 (by omega)) rfl (by decide)) rfl ?_
  refine zc_size (c := sc S 1003) (n := 11) dX16_lotAt_8 ml_X16_46 (hR.lL' h4) (by simp) (by omega) rfl ?_
  refine zs_iconst (v := 1) (n := 12) dX16_lotAt_11 (by decide) rfl ?_
  refine zs_isub (n := 13) dX16_lotAt_12 rfl ?_
  refine zs_i2l (n := 14) dX16_lotAt_13 rfl ?_
  refine zc_S (n := 17) (As := [.long p.toInt64, .long (0 : Int64), .long ((nI (sc S 1003)) - (1 : Int32)).toInt64]) (mc := 0) (ms := 0) dX16_lotAt_14 ok_X16_in ⟨ml_X16_50, st_X16_in⟩ rfl (Nat.le_of_ble_eq_true rfl) (by simp) (by omega) (Nat.le_refl _) (Nat.le_refl _) rfl rfl (m_in (x := p) (lo := (0 : Int32)) (hi := ((nI (sc S 1003)) - (1 : Int32))) rfl (by first | rfl | decide) (by first | rfl | decide)) ?_
  refine zs_if_eq (tgt := 24) (n := 20) dX16_lotAt_17 (by decide) rfl (fun _ => ?_) (fun h => absurd (zb0.mpr (fIn_no (by omega) hx9)) h)
  refine zs_iconst (v := 1) (n := 25) dX16_lotAt_24 (by decide) rfl ?_
  refine zw_i (r := 1001) (n := 28) dX16_lotAt_25 pf_X16_lotAt_43 hR (lvM h4 (by omega)) (hR.kd (lvM h4 (by omega))) ⟨rfl, rfl⟩ (by decide) rfl ?_
  intro M hR hv
  refine zs_aload_n (n := 29) dX16_lotAt_28 rfl rfl ?_
  refine zs_getv (x := (1 : Int32)) (n := 32) dX16_lotAt_29 gf_X16_43 (hR.kd (lvM h4 (by omega))) (hR.iv (lvM h4 (by omega)) (by decide) (by decide)) rfl ?_
  refine zs_if_le (tgt := 39) (n := 35) dX16_lotAt_32 (by decide) rfl (fun h => absurd h (by decide)) (fun _ => ?_)
  refine zs_iconst (v := 0) (n := 36) dX16_lotAt_35 (by decide) rfl ?_
  refine zs_goto (tgt := 53) dX16_lotAt_36 (by decide) ?_
  refine zs_ireturn dX16_lotAt_53 ⟨_, rfl, rfl⟩ ?_
  exact hQ _ hR
theorem k_lotAt {i : Nat} (hR : zRp Z Λ S M) (h4 : sc S 4 = 1) (hi : i < sc S 1003) : zG Z l 3 mth_X16_lotAt [.ref (Λ 1001), .int (nI i)] M 0 0 (some (.int (sV S (1300 + i) 32))) ((zRp Z Λ (mT S 0))) := by
  intro Q hQ
  have hb3 := hR.bnd.2.1.2.2.2.1
  show zX Z l 3 mth_X16_lotAt 0 [(0, .ref (Λ 1001)), (1, .int (nI i))] [] M 0 0 Q
  refine zs_aload_n (n := 1) dX16_lotAt_0 rfl rfl ?_
  refine zs_iload_n (n := 2) dX16_lotAt_1 rfl rfl ?_
  refine zs_i2l (n := 3) dX16_lotAt_2 rfl ?_
  refine zs_lconst (v := 0) (n := 4) dX16_lotAt_3 (by decide) rfl ?_
  refine zs_aload_n (n := 5) dX16_lotAt_4 rfl rfl ?_
  refine zs_getr (b := (Λ 1021)) (n := 8) dX16_lotAt_5 gf_X16_22 (hR.kd (lvM h4 (by omega))) (hR.pt (lvM h4 (by omega)) rfl (by decide)) rfl ?_
  refine zc_size (c := sc S 1003) (n := 11) dX16_lotAt_8 ml_X16_46 (hR.lL' h4) (by simp) (by omega) rfl ?_
  refine zs_iconst (v := 1) (n := 12) dX16_lotAt_11 (by decide) rfl ?_
  refine zs_isub (n := 13) dX16_lotAt_12 rfl ?_
  refine zs_i2l (n := 14) dX16_lotAt_13 rfl ?_
  refine zc_S (n := 17) (As := [.long (nI i).toInt64, .long (0 : Int64), .long ((nI (sc S 1003)) - (1 : Int32)).toInt64]) (mc := 0) (ms := 0) dX16_lotAt_14 ok_X16_in ⟨ml_X16_50, st_X16_in⟩ rfl (Nat.le_of_ble_eq_true rfl) (by simp) (by omega) (Nat.le_refl _) (Nat.le_refl _) rfl rfl (m_in (x := (nI i)) (lo := (0 : Int32)) (hi := ((nI (sc S 1003)) - (1 : Int32))) rfl (by first | rfl | decide) (by first | rfl | decide)) ?_
  refine zs_if_eq (tgt := 24) (n := 20) dX16_lotAt_17 (by decide) rfl (fun h => absurd h (zb1.mpr (fIn_ix hi (by omega)))) (fun _ => ?_)
  refine zs_iconst (v := 0) (n := 21) dX16_lotAt_20 (by decide) rfl ?_
  refine zs_goto (tgt := 25) dX16_lotAt_21 (by decide) ?_
  refine zw_i (r := 1001) (n := 28) dX16_lotAt_25 pf_X16_lotAt_43 hR (lvM h4 (by omega)) (hR.kd (lvM h4 (by omega))) ⟨rfl, rfl⟩ (by decide) rfl ?_
  intro M hR hv
  refine zs_aload_n (n := 29) dX16_lotAt_28 rfl rfl ?_
  refine zs_getv (x := (0 : Int32)) (n := 32) dX16_lotAt_29 gf_X16_43 (hR.kd (lvM h4 (by omega))) (hR.iv (lvM h4 (by omega)) (by decide) (by decide)) rfl ?_
  refine zs_if_le (tgt := 39) (n := 35) dX16_lotAt_32 (by decide) rfl (fun _ => ?_) (fun h => absurd (by decide) h)
  refine zs_aload_n (n := 40) dX16_lotAt_39 rfl rfl ?_
  refine zs_getr (b := (Λ 1021)) (n := 43) dX16_lotAt_40 gf_X16_22 (hR.kd (lvM h4 (by omega))) (hR.pt (lvM h4 (by omega)) rfl (by decide)) rfl ?_
  refine zs_iload_n (n := 44) dX16_lotAt_43 rfl rfl ?_
  refine zc_getb (c := sc S 1003) (b := (Λ (1300 + i))) (n := 47) dX16_lotAt_44 ml_X16_94 (hR.lL' h4) hi rfl (by simp) (by omega) rfl ?_
  refine zs_castJ (n := 50) dX16_lotAt_47 cl_X16_147 (hR.lotJ hi) rfl ?_
  refine zc_intValue (n := 53) dX16_lotAt_50 ml_X16_156 (hR.lotJ hi) (by simp) (by omega) rfl ?_
  rw [(hR.lotV hi)]
  refine zs_ireturn dX16_lotAt_53 ⟨_, rfl, rfl⟩ ?_
  exact hQ _ hR
theorem k_diary_1 {p : Int32} (hR : zRp Z Λ S M) (h4 : sc S 4 = 1) (hx9 : p < 1 ∨ ¬ p ≤ nI (sc S 6)) : zG Z l 3 mth_X16_diary [.ref (Λ 1001), .int p] M 0 0 (some (.int 0)) ((zRp Z Λ (mT S 1))) := by
  intro Q hQ
  have hb3 := hR.bnd.2.1.2.2.2.2
  show zX Z l 3 mth_X16_diary 0 [(0, .ref (Λ 1001)), (1, .int p)] [] M 0 0 Q
  refine zs_aload_n (n := 1) dX16_diary_0 rfl rfl ?_
  refine zs_iload_n (n := 2) dX16_diary_1 rfl rfl ?_
  refine zs_i2l (n := 3) dX16_diary_2 rfl ?_
  refine zs_lconst (v := 1) (n := 4) dX16_diary_3 (by decide) rfl ?_
  refine zs_aload_n (n := 5) dX16_diary_4 rfl rfl ?_
  refine zs_getr (b := (Λ 1023)) (n := 8) dX16_diary_5 gf_X16_25 (hR.kd (lvM h4 (by omega))) (hR.pt (lvM h4 (by omega)) rfl (by decide)) rfl ?_
  refine zc_size (c := sc S 6) (n := 11) dX16_diary_8 ml_X16_46 (hR.lD' h4) (by simp) (by omega) rfl ?_
  refine zs_i2l (n := 12) dX16_diary_11 rfl ?_
  refine zc_S (n := 15) (As := [.long p.toInt64, .long (1 : Int64), .long (nI (sc S 6)).toInt64]) (mc := 0) (ms := 0) dX16_diary_12 ok_X16_in ⟨ml_X16_50, st_X16_in⟩ rfl (Nat.le_of_ble_eq_true rfl) (by simp) (by omega) (Nat.le_refl _) (Nat.le_refl _) rfl rfl (m_in (x := p) (lo := (1 : Int32)) (hi := (nI (sc S 6))) rfl (by first | rfl | decide) (by first | rfl | decide)) ?_
  refine zs_if_eq (tgt := 22) (n := 18) dX16_diary_15 (by decide) rfl (fun _ => ?_) (fun h => absurd (zb0.mpr (fIn_f hx9)) h)
  refine zs_iconst (v := 1) (n := 23) dX16_diary_22 (by decide) rfl ?_
  refine zw_i (r := 1001) (n := 26) dX16_diary_23 pf_X16_diary_43 hR (lvM h4 (by omega)) (hR.kd (lvM h4 (by omega))) ⟨rfl, rfl⟩ (by decide) rfl ?_
  intro M hR hv
  refine zs_aload_n (n := 27) dX16_diary_26 rfl rfl ?_
  refine zs_getv (x := (1 : Int32)) (n := 30) dX16_diary_27 gf_X16_43 (hR.kd (lvM h4 (by omega))) (hR.iv (lvM h4 (by omega)) (by decide) (by decide)) rfl ?_
  refine zs_if_le (tgt := 37) (n := 33) dX16_diary_30 (by decide) rfl (fun h => absurd h (by decide)) (fun _ => ?_)
  refine zs_iconst (v := 0) (n := 34) dX16_diary_33 (by decide) rfl ?_
  refine zs_goto (tgt := 59) dX16_diary_34 (by decide) ?_
  refine zs_ireturn dX16_diary_59 ⟨_, rfl, rfl⟩ ?_
  exact hQ _ hR
theorem k_diary {a : Nat} (hR : zRp Z Λ S M) (h4 : sc S 4 = 1) (ha1 : 1 ≤ a) (ha : a ≤ sc S 6) : zG Z l 3 mth_X16_diary [.ref (Λ 1001), .int (nI a)] M 0 0 (some (.int (sV S (1320 + (sc S 6 - a)) 32))) ((zRp Z Λ (mT S 0))) := by
  intro Q hQ
  have hb3 := hR.bnd.2.1.2.2.2.2
  show zX Z l 3 mth_X16_diary 0 [(0, .ref (Λ 1001)), (1, .int (nI a))] [] M 0 0 Q
  refine zs_aload_n (n := 1) dX16_diary_0 rfl rfl ?_
  refine zs_iload_n (n := 2) dX16_diary_1 rfl rfl ?_
  refine zs_i2l (n := 3) dX16_diary_2 rfl ?_
  refine zs_lconst (v := 1) (n := 4) dX16_diary_3 (by decide) rfl ?_
  refine zs_aload_n (n := 5) dX16_diary_4 rfl rfl ?_
  refine zs_getr (b := (Λ 1023)) (n := 8) dX16_diary_5 gf_X16_25 (hR.kd (lvM h4 (by omega))) (hR.pt (lvM h4 (by omega)) rfl (by decide)) rfl ?_
  refine zc_size (c := sc S 6) (n := 11) dX16_diary_8 ml_X16_46 (hR.lD' h4) (by simp) (by omega) rfl ?_
  refine zs_i2l (n := 12) dX16_diary_11 rfl ?_
  refine zc_S (n := 15) (As := [.long (nI a).toInt64, .long (1 : Int64), .long (nI (sc S 6)).toInt64]) (mc := 0) (ms := 0) dX16_diary_12 ok_X16_in ⟨ml_X16_50, st_X16_in⟩ rfl (Nat.le_of_ble_eq_true rfl) (by simp) (by omega) (Nat.le_refl _) (Nat.le_refl _) rfl rfl (m_in (x := (nI a)) (lo := (1 : Int32)) (hi := (nI (sc S 6))) rfl (by first | rfl | decide) (by first | rfl | decide)) ?_
  refine zs_if_eq (tgt := 22) (n := 18) dX16_diary_15 (by decide) rfl (fun h => absurd h (zb1.mpr (fIn_t (nI_nlt (b := 1) ha1 (by omega)) (nI_le ha (by omega))))) (fun _ => ?_)
  refine zs_iconst (v := 0) (n := 19) dX16_diary_18 (by decide) rfl ?_
  refine zs_goto (tgt := 23) dX16_diary_19 (by decide) ?_
  refine zw_i (r := 1001) (n := 26) dX16_diary_23 pf_X16_diary_43 hR (lvM h4 (by omega)) (hR.kd (lvM h4 (by omega))) ⟨rfl, rfl⟩ (by decide) rfl ?_
  intro M hR hv
  refine zs_aload_n (n := 27) dX16_diary_26 rfl rfl ?_
  refine zs_getv (x := (0 : Int32)) (n := 30) dX16_diary_27 gf_X16_43 (hR.kd (lvM h4 (by omega))) (hR.iv (lvM h4 (by omega)) (by decide) (by decide)) rfl ?_
  refine zs_if_le (tgt := 37) (n := 33) dX16_diary_30 (by decide) rfl (fun _ => ?_) (fun h => absurd (by decide) h)
  refine zs_aload_n (n := 38) dX16_diary_37 rfl rfl ?_
  refine zs_getr (b := (Λ 1023)) (n := 41) dX16_diary_38 gf_X16_25 (hR.kd (lvM h4 (by omega))) (hR.pt (lvM h4 (by omega)) rfl (by decide)) rfl ?_
  refine zs_aload_n (n := 42) dX16_diary_41 rfl rfl ?_
  refine zs_getr (b := (Λ 1023)) (n := 45) dX16_diary_42 gf_X16_25 (hR.kd (lvM h4 (by omega))) (hR.pt (lvM h4 (by omega)) rfl (by decide)) rfl ?_
  refine zc_size (c := sc S 6) (n := 48) dX16_diary_45 ml_X16_46 (hR.lD' h4) (by simp) (by omega) rfl ?_
  refine zs_iload_n (n := 49) dX16_diary_48 rfl rfl ?_
  refine zs_isub (n := 50) dX16_diary_49 rfl ?_
  rw [show nI (sc S 6) - nI a = nI (sc S 6 - a) from pk_sub ha]
  refine zc_getb (c := sc S 6) (b := (Λ (1320 + (sc S 6 - a)))) (n := 53) dX16_diary_50 ml_X16_94 (hR.lD' h4) (show sc S 6 - a < sc S 6 from by omega) rfl (by simp) (by omega) rfl ?_
  refine zs_castJ (n := 56) dX16_diary_53 cl_X16_147 (hR.dayJ (show sc S 6 - a < sc S 6 from by omega)) rfl ?_
  refine zc_intValue (n := 59) dX16_diary_56 ml_X16_156 (hR.dayJ (show sc S 6 - a < sc S 6 from by omega)) (by simp) (by omega) rfl ?_
  rw [(hR.dayV (show sc S 6 - a < sc S 6 from by omega))]
  refine zs_ireturn dX16_diary_59 ⟨_, rfl, rfl⟩ ?_
  exact hQ _ hR
theorem k_dStep {F : Int32} {k z m a : Nat} (hR : zRp Z Λ S M) (h4 : sc S 4 = 1) (hz : sV S 1001 681 = nI z) (hz2 : z < 2 ^ 31) (hm : dK S F (sc S 1001) = m) (hm0 : 0 < m) (ha : dRow S F (sc S 1001) (z * 48271 % 2147483647 % m) = nI a) (ha8 : a < 8) (hl8 : sc S 1003 < 8)
    (kk : ∀ Λ' M', zRp Z Λ' (cset (sc S) 1003 (sc S 1003 + 1), u2 (u2 (sV S) 1001 681 (nI (z * 48271 % 2147483647))) (1300 + sc S 1003) 32 (nI a), sW S, sT S, sP S) M' → zSame Λ Λ' → zX Z l 7 mth_X16_drawLots 21 [(0, .ref (Λ 1001)), (1, .int (F ||| ((1 : Int32) <<< (nI a &&& 31)))), (2, .int (nI (k + 1)))] [] M' nc1 ns1 Q) :
    zX Z l 7 mth_X16_drawLots 32 [(0, .ref (Λ 1001)), (1, .int F), (2, .int (nI k))] [] M (nc1 + 10) (ns1 + 93) Q := by
  have hb2 : sc S 1001 ≤ 8 := hR.bnd.2.1.2.1
  refine zt_lnew (g := 3000) (f := fun _ => 0) (nc1 := nc1 + 1 + (sc S 1001 - 0)) (ns1 := ns1 + 10 + 10 * (sc S 1001 - 0)) (n := 39) (by decide) dX16_drawLots_32 dX16_drawLots_35 dX16_drawLots_36 nc_X16_7 ml_X16_9 hR (by simp) (by omega) (by omega) (by omega) rfl (fun q M hR hT9 hag => ?_)
  have hT : dTl Z M S F q 0 := ⟨_, hT9, fun i hi => absurd hi (Nat.not_lt_zero i)⟩
  refine zs_astore_n (n := 40) dX16_drawLots_39 (by decide) rfl ?_
  refine zs_iconst (v := 0) (n := 41) dX16_drawLots_40 (by decide) rfl ?_
  refine zs_istore (n := 43) dX16_drawLots_41 (by decide) rfl ?_
  refine zX.sub (L' := [(0, .ref (Λ 1001)), (1, .int F), (2, .int (nI k)), (3, .ref q), (4, .int (nI 0))]) ⟨rfl, rfl, rfl, rfl, rfl, trivial⟩ ?_
  refine zloop (n := sc S 1001) (X := fun j => ∀ M, (zRp Z Λ S M ∧ dTl Z M S F q j) → zX Z l 7 mth_X16_drawLots 43 [(0, .ref (Λ 1001)), (1, .int F), (2, .int (nI k)), (3, .ref q), (4, .int (nI j))] [] M (nc1 + 1 + (sc S 1001 - j)) (ns1 + 10 + 10 * (sc S 1001 - j)) Q) (fun j hj ih => ?_) ?_ 0 (Nat.zero_le _) M ?_
  · intro M hR9
    obtain ⟨hR, hT⟩ := hR9
    refine zs_iload (n := 45) dX16_drawLots_43 rfl rfl ?_
    refine zs_aload_n (n := 46) dX16_drawLots_45 rfl rfl ?_
    refine zs_getr (b := (Λ 1017)) (n := 49) dX16_drawLots_46 gf_X16_16 (hR.kd (lvM h4 (by omega))) (hR.pt (lvM h4 (by omega)) rfl (by decide)) rfl ?_
    refine zc_size (c := sc S 1001) (n := 52) dX16_drawLots_49 ml_X16_46 (hR.lA' h4) (by simp) (by omega) rfl ?_
    refine zs_icmp_ge (tgt := 81) (n := 55) dX16_drawLots_52 (by decide) rfl (fun h => absurd h (nI_ge hj (by omega))) (fun _ => ?_)
    refine zs_aload_n (n := 56) dX16_drawLots_55 rfl rfl ?_
    refine zs_iload (n := 58) dX16_drawLots_56 rfl rfl ?_
    refine zs_iload_n (n := 59) dX16_drawLots_58 rfl rfl ?_
    refine zc_V (n := 62) (As := [.int (nI j), .int F]) (ci := 21) (mc := 0) (ms := 0) (nc1 := (nc1 + 1 + (sc S 1001 - j))) (ns1 := (ns1 + 10 + 10 * (sc S 1001 - j))) dX16_drawLots_59 ok_X16_isFree ⟨ml_X16_133, im_X16_isFree, sl_X16_isFree⟩ rfl (hR.kd (lvM h4 (by omega))) rfl (Nat.le_of_ble_eq_true rfl) (by simp) (by omega) (Nat.le_refl _) (Nat.le_refl _) rfl rfl (k_isFree hR h4 hj) ?_
    refine zs_if_eq (tgt := 75) (n := 65) dX16_drawLots_62 (by decide) rfl (fun h62 => ?_) (fun h62 => ?_)
    · refine zs_iinc (v := (nI (j + 1))) (n := 78) dX16_drawLots_75 rfl (nI_1 _) (by decide) rfl ?_
      refine zs_goto (tgt := 43) dX16_drawLots_78 (by decide) ?_
      refine zX.sub (L' := [(0, .ref (Λ 1001)), (1, .int F), (2, .int (nI k)), (3, .ref q), (4, .int (nI (j + 1)))]) ⟨rfl, rfl, rfl, rfl, rfl, trivial⟩ ?_
      first
      | exact zX.more (ih M ⟨hR, hT.no (zb0.mp h62)⟩) (by omega) (by omega)
      | exact ih M ⟨hR, hT⟩
    · refine zs_aload_n (n := 66) dX16_drawLots_65 rfl rfl ?_
      refine zs_iload (n := 68) dX16_drawLots_66 rfl rfl ?_
      refine zc_valueOf8 (n := 71) dX16_drawLots_68 ml_X16_146 hR.emp.2.2 (nI_c8 (by omega)).1 (nI_c8 (by omega)).2 (by simp) (by omega) rfl (fun v8 hv8 hx8 => ?_)
      refine zt_dadd (nc1 := nc1 + 1 + (sc S 1001 - (j + 1))) (ns1 := ns1 + 10 + 10 * (sc S 1001 - (j + 1))) (n := 74) dX16_drawLots_71 ml_X16_80 hR hT (zb1.mp h62) (by omega) hv8 hx8 (by simp) (by omega) (by omega) (by omega) rfl (fun M hR hT => ?_)
      refine zs_pop (n := 75) dX16_drawLots_74 rfl rfl ?_
      refine zs_iinc (v := (nI (j + 1))) (n := 78) dX16_drawLots_75 rfl (nI_1 _) (by decide) rfl ?_
      refine zs_goto (tgt := 43) dX16_drawLots_78 (by decide) ?_
      refine zX.sub (L' := [(0, .ref (Λ 1001)), (1, .int F), (2, .int (nI k)), (3, .ref q), (4, .int (nI (j + 1)))]) ⟨rfl, rfl, rfl, rfl, rfl, trivial⟩ ?_
      first
      | exact zX.more (ih M ⟨hR, hT.no (zb0.mp h62)⟩) (by omega) (by omega)
      | exact ih M ⟨hR, hT⟩
  · intro M hR9
    obtain ⟨hR, hT⟩ := hR9
    refine zs_iload (n := 45) dX16_drawLots_43 rfl rfl ?_
    refine zs_aload_n (n := 46) dX16_drawLots_45 rfl rfl ?_
    refine zs_getr (b := (Λ 1017)) (n := 49) dX16_drawLots_46 gf_X16_16 (hR.kd (lvM h4 (by omega))) (hR.pt (lvM h4 (by omega)) rfl (by decide)) rfl ?_
    refine zc_size (c := sc S 1001) (n := 52) dX16_drawLots_49 ml_X16_46 (hR.lA' h4) (by simp) (by omega) rfl ?_
    refine zs_icmp_ge (tgt := 81) (n := 55) dX16_drawLots_52 (by decide) rfl (fun _ => ?_) (fun h => absurd (nI_le (Nat.le_refl _) (by omega)) h)
    refine zs_aload_n (n := 82) dX16_drawLots_81 rfl rfl ?_
    refine zs_aload_n (n := 83) dX16_drawLots_82 rfl rfl ?_
    refine zs_getv (x := (sV S 1001 681)) (n := 86) dX16_drawLots_83 gf_X16_33 (hR.kd (lvM h4 (by omega))) (hR.iv (lvM h4 (by omega)) (by decide) (by decide)) rfl ?_
    rw [hz]
    refine zs_i2l (n := 87) dX16_drawLots_86 rfl ?_
    refine zs_ldc2 (n := 90) dX16_drawLots_87 ct_X16_152 rfl ?_
    refine zs_lmul (n := 91) dX16_drawLots_90 rfl ?_
    refine zs_ldc2 (n := 94) dX16_drawLots_91 ct_X16_154 rfl ?_
    refine zs_lrem (n := 95) dX16_drawLots_94 (by decide) rfl ?_
    refine zs_l2i (n := 96) dX16_drawLots_95 rfl ?_
    rw [show ((nI z).toInt64 * (48271 : Int64) - (nI z).toInt64 * (48271 : Int64) / (2147483647 : Int64) * (2147483647 : Int64)).toInt32 = nI (z * 48271 % 2147483647) from fZ_nI hz2]
    have hlM : zlv (sc S) 1001 := lvM h4 (by omega)
    refine zs_puti (n := 99) dX16_drawLots_96 pf_X16_drawLots_33 (hR.kd hlM) ⟨rfl, rfl⟩ rfl ?_
    have hT := hT.sI (k := 681) (v := nI (z * 48271 % 2147483647)) (by obtain ⟨f, hT, -⟩ := hT; exact hR.nt hT.tmp hlM) (by rw [show mK M (Λ 1001) = 31 from hR.kd hlM]; decide)
    have hR := hR.sI (s := 1001) (k := 681) (v := nI (z * 48271 % 2147483647)) hlM (by decide) (by decide) (by decide)
    revert hR hT
    generalize sI M (Λ 1001) 681 (nI (z * 48271 % 2147483647)) = M
    intro hT hR
    obtain ⟨f, hT, hf⟩ := hT
    rw [hm] at hT hf
    have hzm : z * 48271 % 2147483647 % m < m := Nat.mod_lt _ hm0
    have hz9 : z * 48271 % 2147483647 < 2147483647 := Nat.mod_lt _ (by decide)
    have hmle : m ≤ sc S 1001 := by rw [← hm]; exact dK_le _
    obtain ⟨hk8, hx8⟩ := hf _ hzm
    rw [ha] at hx8
    refine zs_aload_n (n := 100) dX16_drawLots_99 rfl rfl ?_
    refine zs_aload_n (n := 101) dX16_drawLots_100 rfl rfl ?_
    refine zs_getv (x := nI (z * 48271 % 2147483647)) (n := 104) dX16_drawLots_101 gf_X16_33 (hR.kd hlM) ((hR.iv hlM (by decide) (by decide)).trans (show u2 (sV S) 1001 681 (nI (z * 48271 % 2147483647)) 1001 681 = _ from u2_at)) rfl ?_
    refine zs_aload_n (n := 105) dX16_drawLots_104 rfl rfl ?_
    refine zt_size (n := 108) dX16_drawLots_105 ml_X16_46 hT (by simp) (by omega) rfl ?_
    refine zs_irem (n := 109) dX16_drawLots_108 (nI_ne0 hm0 (by omega)) rfl ?_
    rw [pk_rem (by omega) hm0 (by omega)]
    refine zt_get (n := 112) dX16_drawLots_109 ml_X16_94 hT hzm (by simp) (by omega) rfl ?_
    refine zs_castJ (n := 115) dX16_drawLots_112 cl_X16_147 (Or.inr hk8) rfl ?_
    refine zc_intValue (n := 118) dX16_drawLots_115 ml_X16_156 (Or.inr hk8) (by simp) (by omega) rfl ?_
    rw [hx8]
    refine zs_istore (n := 120) dX16_drawLots_118 (by decide) rfl ?_
    refine zs_iload_n (n := 121) dX16_drawLots_120 rfl rfl ?_
    refine zs_iconst (v := 1) (n := 122) dX16_drawLots_121 (by decide) rfl ?_
    refine zs_iload (n := 124) dX16_drawLots_122 rfl rfl ?_
    refine zs_ishl (n := 125) dX16_drawLots_124 rfl ?_
    refine zs_ior (n := 126) dX16_drawLots_125 rfl ?_
    refine zs_istore_n (n := 127) dX16_drawLots_126 (by decide) rfl ?_
    refine zs_aload_n (n := 128) dX16_drawLots_127 rfl rfl ?_
    refine zs_getr (b := (Λ 1021)) (n := 131) dX16_drawLots_128 gf_X16_22 (hR.kd (lvM h4 (by omega))) (hR.pt (lvM h4 (by omega)) rfl (by decide)) rfl ?_
    refine zs_iload (n := 133) dX16_drawLots_131 rfl rfl ?_
    refine zc_valueOf8 (n := 136) dX16_drawLots_133 ml_X16_146 hR.emp.2.2 (nI_c8 ha8).1 (nI_c8 ha8).2 (by simp) (by omega) rfl (fun v9 hv9 hx9 => ?_)
    refine zw_addL (S := (sc S, u2 (sV S) 1001 681 (nI (z * 48271 % 2147483647)), sW S, sT S, sP S)) (nc1 := nc1) (ns1 := ns1) (n := 139) rfl dX16_drawLots_136 ml_X16_80 hR h4 hl8 (Or.inr hv9) hx9 (by simp) (by omega) (by omega) (by omega) rfl (fun Λ' M' hR' hS' => ?_)
    refine zs_pop (n := 140) dX16_drawLots_139 rfl rfl ?_
    refine zs_iinc (v := nI (k + 1)) (n := 143) dX16_drawLots_140 rfl (nI_1 _) (by decide) rfl ?_
    refine zs_goto (tgt := 21) dX16_drawLots_143 (by decide) ?_
    refine zX.sub (L' := [(0, .ref (Λ 1001)), (1, .int (F ||| ((1 : Int32) <<< (nI a &&& 31)))), (2, .int (nI (k + 1)))]) ⟨rfl, rfl, rfl, trivial⟩ ?_
    exact kk Λ' M' hR' hS'
  · exact ⟨hR, hT⟩
def dN (A : Nat → Nat) (k : Nat) : Int32 := zit (fun i F => F ||| ((1 : Int32) <<< (nI (A i) &&& 31))) k 0
/-- the model's state behind k draws -/
def dSt (S : zSt) (A : Nat → Nat) (zn k : Nat) : zSt := zit (fun k T => (cset (sc T) 1003 (sc T 1003 + 1), u2 (u2 (sV T) 1001 681 (nI (zs zn k * 48271 % 2147483647))) (1300 + sc T 1003) 32 (nI (A k)), sW T, sT T, sP T)) k (cset (sc S) 1003 0, u2 (u2 (sV S) 1001 672 0) 1001 679 1, sW S, sT S, sP S)
theorem dSt_c {A : Nat → Nat} {zn q : Nat} (hq : q ≠ 1003) : ∀ j, sc (dSt S A zn j) q = sc S q
  | 0 => cset_ne hq
  | j + 1 => (cset_ne hq).trans (dSt_c hq j)
theorem dSt_n {A : Nat → Nat} {zn : Nat} : ∀ j, sc (dSt S A zn j) 1003 = j
  | 0 => (cset_at : cset (sc S) 1003 0 1003 = 0)
  | j + 1 => (cset_at : cset (sc (dSt S A zn j)) 1003 (sc (dSt S A zn j) 1003 + 1) 1003 = _).trans (by rw [dSt_n j])
theorem dSt_W {A : Nat → Nat} {zn : Nat} : ∀ j, sW (dSt S A zn j) = sW S
  | 0 => rfl
  | j + 1 => dSt_W j
theorem dSt_z {A : Nat → Nat} {zn : Nat} (hz : sV S 1001 681 = nI zn) : ∀ j, sV (dSt S A zn j) 1001 681 = nI (zs zn j)
  | 0 => by
    show u2 (u2 (sV S) 1001 672 0) 1001 679 1 1001 681 = nI zn
    rw [u2_k (by decide), u2_k (by decide)]
    exact hz
  | j + 1 => by
    show u2 (u2 (sV (dSt S A zn j)) 1001 681 (nI (zs zn j * 48271 % 2147483647))) (1300 + sc (dSt S A zn j) 1003) 32 (nI (A j)) 1001 681 = nI (zs zn j * 48271 % 2147483647)
    rw [u2_k (by decide)]
    exact u2_at
theorem fFrm_w {T : zSt} (hW : sW T = sW S) (a : Nat) (F : Int32) (j : Nat) : fFrm T a F j = fFrm S a F j := by
  unfold fFrm
  rw [hW]
theorem dK_w {T : zSt} (hW : sW T = sW S) (hc : sc T 1001 = sc S 1001) (F : Int32) (j : Nat) : dK T F j = dK S F j := by
  unfold dK
  rw [show (fun a c => if fFrm T a F (sc T 1001) = true then c + 1 else c) = (fun (a c : Nat) => if fFrm S a F (sc S 1001) = true then c + 1 else c) from funext (fun a => funext (fun c => by rw [hc, fFrm_w hW]))]
theorem dRow_w {T : zSt} (hW : sW T = sW S) (hc : sc T 1001 = sc S 1001) (F : Int32) (j : Nat) : dRow T F j = dRow S F j := by
  unfold dRow
  rw [show (fun a W => if fFrm T a F (sc T 1001) = true then u1 W (dK T F a) (nI a) else W) = (fun (a : Nat) (W : Nat → Int32) => if fFrm S a F (sc S 1001) = true then u1 W (dK S F a) (nI a) else W) from funext (fun a => funext (fun W => by rw [hc, fFrm_w hW, dK_w hW hc]))]
theorem k_drawLots {zn : Nat} {A : Nat → Nat} (hR : zRp Z Λ S M) (h4 : sc S 4 = 1) (hz : sV S 1001 681 = nI zn) (hz2 : zn < 2 ^ 31) (hA : ∀ k, k < sc S 1001 → 0 < dK S (dN A k) (sc S 1001) ∧ dRow S (dN A k) (sc S 1001) (zs zn k * 48271 % 2147483647 % dK S (dN A k) (sc S 1001)) = nI (A k) ∧ A k < 8)
    (hQ : ∀ Λ' M', zRp Z Λ' (dSt S A zn (sc S 1001)) M' → zSame Λ Λ' → Q (.inl (some (.int (nI (sc S 1001))))) M') : zX Z l 7 mth_X16_drawLots 0 (lv_args 0 [.ref (Λ 1001)]) [] M 80 744 Q := by
  show zX Z l 7 mth_X16_drawLots 0 [(0, .ref (Λ 1001))] [] M 80 744 Q
  have hb2 : sc S 1001 ≤ 8 := hR.bnd.2.1.2.1
  refine zs_aload_n (n := 1) dX16_drawLots_0 rfl rfl ?_
  refine zs_iconst (v := 0) (n := 2) dX16_drawLots_1 (by decide) rfl ?_
  refine zw_i (r := 1001) (n := 5) dX16_drawLots_2 pf_X16_drawLots_43 hR (lvM h4 (by omega)) (hR.kd (lvM h4 (by omega))) ⟨rfl, rfl⟩ (by decide) rfl ?_
  intro M hR hv
  refine zs_aload_n (n := 6) dX16_drawLots_5 rfl rfl ?_
  refine zs_getr (b := (Λ 1021)) (n := 9) dX16_drawLots_6 gf_X16_22 (hR.kd (lvM h4 (by omega))) (hR.pt (lvM h4 (by omega)) rfl (by decide)) rfl ?_
  refine zw_clrL (n := 12) dX16_drawLots_9 ml_X16_140 hR h4 (by simp) (by omega) rfl ?_
  intro M hR
  refine zs_aload_n (n := 13) dX16_drawLots_12 rfl rfl ?_
  refine zs_iconst (v := 1) (n := 14) dX16_drawLots_13 (by decide) rfl ?_
  refine zw_i (r := 1001) (n := 17) dX16_drawLots_14 pf_X16_drawLots_143 hR (lvM h4 (by omega)) (hR.kd (lvM h4 (by omega))) ⟨rfl, rfl⟩ (by decide) rfl ?_
  intro M hR hv
  refine zs_iconst (v := 0) (n := 18) dX16_drawLots_17 (by decide) rfl ?_
  refine zs_istore_n (n := 19) dX16_drawLots_18 (by decide) rfl ?_
  refine zs_iconst (v := 0) (n := 20) dX16_drawLots_19 (by decide) rfl ?_
  refine zs_istore_n (n := 21) dX16_drawLots_20 (by decide) rfl ?_
  refine zX.sub (L' := [(0, .ref (Λ 1001)), (1, .int (dN A 0)), (2, .int (nI 0))]) ⟨rfl, rfl, rfl, trivial⟩ ?_
  refine zX.more (nc' := 10 * (sc S 1001 - 0)) (ns' := 93 * (sc S 1001 - 0)) ?_ (by omega) (by omega)
  refine zloop (n := sc S 1001) (X := fun k => ∀ Λ2 M, zRp Z Λ2 (dSt S A zn k) M → zSame Λ Λ2 → zX Z l 7 mth_X16_drawLots 21 [(0, .ref (Λ2 1001)), (1, .int (dN A k)), (2, .int (nI k))] [] M (10 * (sc S 1001 - k)) (93 * (sc S 1001 - k)) Q) (fun k hk ih => ?_) ?_ 0 (Nat.zero_le _) Λ M hR ⟨rfl, rfl, rfl, rfl⟩
  · intro Λ2 M hR hS
    have h4a := h4
    have h4 : sc (dSt S A zn k) 4 = 1 := (dSt_c (by decide) k).trans h4a
    have hc1 : sc (dSt S A zn k) 1001 = sc S 1001 := dSt_c (by decide) k
    have hcL : sc (dSt S A zn k) 1003 = k := dSt_n k
    refine zs_iload_n (n := 22) dX16_drawLots_21 rfl rfl ?_
    refine zs_aload_n (n := 23) dX16_drawLots_22 rfl rfl ?_
    refine zs_getr (b := (Λ2 1017)) (n := 26) dX16_drawLots_23 gf_X16_16 (hR.kd (lvM h4 (by omega))) (hR.pt (lvM h4 (by omega)) rfl (by decide)) rfl ?_
    refine zc_size (c := sc (dSt S A zn k) 1001) (n := 29) dX16_drawLots_26 ml_X16_46 (hR.lA' h4) (by simp) (by omega) rfl ?_
    rw [hc1]
    refine zs_icmp_ge (tgt := 146) (n := 32) dX16_drawLots_29 (by decide) rfl (fun h => absurd h (nI_ge hk (by omega))) (fun _ => ?_)
    obtain ⟨q1, q2, q3⟩ := hA k hk
    have hz9 := zs_lt hz2 k
    refine zX.more (k_dStep (S := (dSt S A zn k)) (nc1 := 10 * (sc S 1001 - (k + 1))) (ns1 := 93 * (sc S 1001 - (k + 1))) (z := zs zn k) (m := dK S (dN A k) (sc S 1001)) (a := A k) hR h4 (dSt_z hz k) hz9 (by rw [hc1, dK_w (dSt_W k) hc1]) q1 (by rw [hc1, dRow_w (dSt_W k) hc1]; exact q2) q3 (by omega) (fun Λ3 M hR3 hS3 => ?_)) (by omega) (by omega)
    rw [← hS3.2.1]
    exact ih Λ3 M hR3 ⟨hS3.1.trans hS.1, hS3.2.1.trans hS.2.1, hS3.2.2.1.trans hS.2.2.1, hS3.2.2.2.trans hS.2.2.2⟩
  · intro Λ2 M hR hS
    have h4a := h4
    have h4 : sc (dSt S A zn (sc S 1001)) 4 = 1 := (dSt_c (by decide) (sc S 1001)).trans h4a
    have hc1 : sc (dSt S A zn (sc S 1001)) 1001 = sc S 1001 := dSt_c (by decide) (sc S 1001)
    have hcL : sc (dSt S A zn (sc S 1001)) 1003 = (sc S 1001) := dSt_n (sc S 1001)
    refine zs_iload_n (n := 22) dX16_drawLots_21 rfl rfl ?_
    refine zs_aload_n (n := 23) dX16_drawLots_22 rfl rfl ?_
    refine zs_getr (b := (Λ2 1017)) (n := 26) dX16_drawLots_23 gf_X16_16 (hR.kd (lvM h4 (by omega))) (hR.pt (lvM h4 (by omega)) rfl (by decide)) rfl ?_
    refine zc_size (c := sc (dSt S A zn (sc S 1001)) 1001) (n := 29) dX16_drawLots_26 ml_X16_46 (hR.lA' h4) (by simp) (by omega) rfl ?_
    rw [hc1]
    refine zs_icmp_ge (tgt := 146) (n := 32) dX16_drawLots_29 (by decide) rfl (fun _ => ?_) (fun h => absurd (nI_le (Nat.le_refl _) (by omega)) h)
    refine zs_aload_n (n := 147) dX16_drawLots_146 rfl rfl ?_
    refine zs_getr (b := (Λ2 1021)) (n := 150) dX16_drawLots_147 gf_X16_22 (hR.kd (lvM h4 (by omega))) (hR.pt (lvM h4 (by omega)) rfl (by decide)) rfl ?_
    refine zc_size (c := sc (dSt S A zn (sc S 1001)) 1003) (n := 153) dX16_drawLots_150 ml_X16_46 (hR.lL' h4) (by simp) (by omega) rfl ?_
    rw [hcL]
    refine zs_ireturn dX16_drawLots_153 ⟨_, rfl, rfl⟩ ?_
    exact hQ _ _ hR hS
end ZMOD7
