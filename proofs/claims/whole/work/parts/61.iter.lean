/-! THINGS OF THE MOMENT (marks from 3000 on) and the lists' iterators -/
section ZITER
variable {Z : zPar} {l : Launch} {d d' : Nat} {mm mm' : zMeth} {pc n nc ns ix nargs mc ms nc1 ns1 : Nat} {L : List (Nat × Value)} {st st0 As : List Value} {M M' : zMem} {Q : zO → zMem → Prop} {Λ : Nat → Nat} {S : zSt} {v : Option Value}
theorem zAg.rf {a : Nat} : zAg M M a := ⟨rfl, rfl, rfl, rfl, rfl, rfl, rfl, rfl, rfl⟩
theorem zAg.tr {M1 : zMem} {a : Nat} (h : zAg M M' a) (h2 : zAg M' M1 a) : zAg M M1 a := by
  obtain ⟨a1, a2, a3, a4, a5, a6, a7, a8, a9⟩ := h
  obtain ⟨b1, b2, b3, b4, b5, b6, b7, b8, b9⟩ := h2
  exact ⟨b1.trans a1, b2.trans a2, b3.trans a3, b4.trans a4, b5.trans a5, b6.trans a6, b7.trans a7, b8.trans a8, b9.trans a9⟩
theorem zlv.lt {c : Nat → Nat} {s : Nat} (hb : zBnd c) (h : zlv c s) : s < 1300 := by
  have b0 := hb.1.1
  have b1 := hb.1.2.1
  have b2 := hb.1.2.2.1
  have b3 := hb.2.1.1
  have b4 := hb.2.1.2.1
  have b5 := hb.2.1.2.2.1
  rcases h with h9 | h9
  · rcases h9 with ⟨-, h9⟩ | ⟨i2, hi2, h9⟩ | ⟨i2, hi2, h9⟩ | ⟨i2, hi2, h9⟩ | ⟨i2, k2, hi2, hk2, h9⟩
    · omega
    · omega
    · omega
    · omega
    · have := hb.1.2.2.2 i2
      omega
  · rcases h9 with ⟨-, h9⟩ | ⟨i2, hi2, h9⟩ | ⟨i2, hi2, h9⟩ | ⟨i2, hi2, h9⟩ | ⟨i2, k2, hi2, hk2, h9⟩
    · omega
    · omega
    · omega
    · omega
    · have := hb.2.2 i2
      omega
/-- q is a thing of the moment -/
def zTmp (M : zMem) (q g : Nat) : Prop := 3000 ≤ g ∧ mG M q = g ∧ (mK M q = 1 ∨ mK M q = 2 ∨ mK M q = 3 ∨ mK M q = 4 ∨ mK M q = 13 ∨ mK M q = 14)
theorem zRp.nt {q g r : Nat} (h : zRp Z Λ S M) (ht : zTmp M q g) (hl : zlv (sc S) r) : Λ r ≠ q := by
  intro e
  have h1 := h.mk hl
  have h2 := hl.lt h.bnd
  rw [e, ht.2.1] at h1
  have := ht.1
  omega
theorem zRp.ntr {q g r : Nat} (h : zRp Z Λ S M) (ht : zTmp M q g) (hl : zlv (sc S) r) (hk : zki r = 14) : Λ (zrw r) ≠ q := by
  intro e
  rcases (h.li hl hk).row with h9 | h9
  · rw [e] at h9
    have := ht.2.2
    omega
  · have h1 := (h.rw hl hk h9).1
    have h2 := zrw_out (zlr_of hk)
    rw [e, ht.2.1] at h1
    have := ht.1
    omega
/-- a thing of the moment may change as it likes -/
theorem zRp.tmp {q g : Nat} (h : zRp Z Λ S M) (ht : zTmp M q g) (hag : ∀ a, a ≠ q → zAg M M' a) : zRp Z Λ S M' := by
  have hb := h.bnd
  have hk := ht.2.2
  refine zRp.of hb (fun s hs => (h.one hs).keep hb hs (fun _ _ => rfl) (fun _ => rfl) (hag _ (h.nt ht hs)) (fun hk => hag _ (h.ntr ht hs hk)) (fun _ => rfl) (fun _ _ _ => rfl) (fun _ => rfl) (fun i k hi hk _ => ⟨hi, hk, rfl, Nat.le_refl _⟩) (fun j hj _ => ⟨hj, rfl, Nat.le_refl _⟩)) ⟨fun i hi => ?_, fun i hi => ?_⟩ ⟨h.outs.keep ⟨rfl, rfl⟩ rfl (fun _ => rfl) (fun a ha => hag a (fun e => by have g1 := ht.1; have g2 := ht.2.1; rw [e] at ha; omega)), h.emp.keep (fun a ha => hag a (fun e => by rw [e] at ha; omega))⟩
  · obtain ⟨q1, q2⟩ := h.ints.1 i hi
    have e := hag (Λ (1300 + i)) (fun e => by rw [e] at q1; omega)
    unfold zIok
    rw [e.1, e.2.2.2.1]
    exact ⟨q1, q2⟩
  · obtain ⟨q1, q2⟩ := h.ints.2 i hi
    have e := hag (Λ (1320 + i)) (fun e => by rw [e] at q1; omega)
    unfold zIok
    rw [e.1, e.2.2.2.1]
    exact ⟨q1, q2⟩
theorem zRp.new0 {q kind len g : Nat} (h : zRp Z Λ S M) (hq : mK M q = 0) : zRp Z Λ S (zNew M q kind len g) := h.grow (fun _ _ => rfl) ⟨rfl, rfl⟩ (fun _ _ _ => rfl) (zNew_ag hq)
theorem zTmp.keep {q g : Nat} (h : zTmp M q g) (hag : zAg M M' q) : zTmp M' q g := ⟨h.1, hag.2.2.1.trans h.2.1, by rw [hag.1]; exact h.2.2⟩
/-- a call by an interface, of a method that only looks or writes what it says -/
theorem zc_F {b ci cnt : Nat} {r : vw_C} {x : MethodName} (hd : decode (zMC mm) pc = .ok (.invokeinterface ix cnt, 5)) (hm : zMok mm' nargs) (hw : zwd (.methodLink (zMY mm).cls ix x) ∧ zwd (.declares x) ∧ zwd (.interfaceMethod x.cls x.cls x.name x.desc) ∧ zwd (.selects r.1 x (zMY mm')) ∧ zwd (.instanceMethod (zMY mm')) ∧ zwd (.publicMethod (zMY mm')) ∧ zwd (.unhidden r.1 x.name x.desc) ∧ zwd (.castable r.1 x.cls)) (hx : (x.cls ≠ "java/lang/invoke/MethodHandle" ∧ x.cls ≠ "java/lang/invoke/VarHandle") ∧ (parseMethodDescriptor x.desc).map (fun d => d.parameters.length) = some nargs) (hr : vwCl[ci]? = some r) (hK : mK M b = 10 + ci) (hAs : As.length = nargs) (hfit : (lg_sl (.ref b :: As)).length ≤ zML mm') (hst : st.length ≤ 4) (hdd : d' < d) (hc1 : nc1 + mc ≤ nc) (hs1 : ns1 + ms ≤ ns) (hstk : st0 = As.reverse ++ .ref b :: st) (hn : pc + 5 = n)
    (h : zD Z l d' mm' (.ref b :: As) M mc ms v M') (kk : zX Z l d mm n L (v.toList ++ st) M' nc1 ns1 Q) : zX Z l d mm pc L st0 M nc ns Q :=
  zs_invF (d' := d - 1) (Post := fun o M1 => o = .inl v ∧ M1 = M') hd hm hw hx hr hK hAs hfit hst (by omega) hc1 hs1 hstk hn ((h _ ⟨rfl, rfl⟩).deep (by omega)) (fun k M1 h => nomatch h.1) (fun v1 M1 h => by obtain ⟨h1, rfl⟩ := h; cases h1; exact kk)
abbrev mItrN (M : zMem) (q p : Nat) : zMem := sI (sI (sR M q 99 (some p)) q 97 (-1)) q 98 (vI M p 128)
theorem m_ItrInit {q p : Nat} (hq : mK M q = 13) (hp : mK M p = 14) : zD Z l 0 mth_Jx35411_init_45d68 [.ref q, .ref p] M 0 0 none (mItrN M q p) := by
  intro Q hQ
  show zX Z l 0 mth_Jx35411_init_45d68 0 [(0, .ref q), (1, .ref p)] [] M 0 0 Q
  refine zs_aload_n (n := 1) dJx35411_init_45d68_0 rfl rfl ?_
  refine zs_aload_n (n := 2) dJx35411_init_45d68_1 rfl rfl ?_
  refine zs_putr (n := 5) dJx35411_init_45d68_2 pf_Jx35411_init_45d68_1 hq ⟨rfl, rfl⟩ rfl ?_
  refine zs_aload_n (n := 6) dJx35411_init_45d68_5 rfl rfl ?_
  refine zs_objInit (n := 9) dJx35411_init_45d68_6 ml_Jx35411_7 w_oi w_oc (by simp) rfl ?_
  refine zs_aload_n (n := 10) dJx35411_init_45d68_9 rfl rfl ?_
  refine zs_iconst (v := -1) (n := 11) dJx35411_init_45d68_10 (by decide) rfl ?_
  refine zs_puti (n := 14) dJx35411_init_45d68_11 pf_Jx35411_init_45d68_13 hq ⟨rfl, rfl⟩ rfl ?_
  refine zs_aload_n (n := 15) dJx35411_init_45d68_14 rfl rfl ?_
  refine zs_aload_n (n := 16) dJx35411_init_45d68_15 rfl rfl ?_
  refine zs_getr (b := p) (n := 19) dJx35411_init_45d68_16 gf_Jx35411_1 hq u2_at rfl ?_
  refine zs_geti (n := 22) dJx35411_init_45d68_19 gf_Jx35411_17 hp rfl ?_
  refine zs_puti (n := 25) dJx35411_init_45d68_22 pf_Jx35411_init_45d68_22 hq ⟨rfl, rfl⟩ rfl ?_
  refine zs_return dJx35411_init_45d68_25 rfl ?_
  exact hQ
/-- an iterator q over the list at p stands before the j-th -/
def zIt (M : zMem) (q p j g : Nat) : Prop := zTmp M q g ∧ mK M q = 13 ∧ vR M q 99 = some p ∧ vI M q 96 = nI j ∧ vI M q 98 = vI M p 128
theorem zIt.keep {q p j g : Nat} (h : zIt M q p j g) (h1 : zAg M M' q) (h2 : vI M' p 128 = vI M p 128) : zIt M' q p j g := by
  obtain ⟨a1, a2, a3, a4, a5⟩ := h
  refine ⟨a1.keep h1, h1.1.trans a2, ?_, ?_, ?_⟩
  · rw [h1.2.2.2.2.1]
    exact a3
  · rw [h1.2.2.2.1]
    exact a4
  · rw [h1.2.2.2.1, h2]
    exact a5
theorem zIt.sI {q p j g a k : Nat} {v : Int32} (h : zIt M q p j g) (hne : a ≠ q) (hk : k ≠ 128) : zIt (sI M a k v) q p j g := by
  obtain ⟨a1, a2, a3, a4, a5⟩ := h
  refine ⟨a1, a2, a3, ?_, ?_⟩
  · exact (congrFun (u2_ne (Ne.symm hne)) 96).trans a4
  · exact (congrFun (u2_ne (Ne.symm hne)) 98).trans (a5.trans (u2_nk (Ne.symm hk)).symm)
theorem m_iterator {p g : Nat} (hp : mK M p = 14) (hg : 3000 ≤ g) (hQ : ∀ q M', mK M q = 0 → (∀ a, mK M a ≠ 0 → zAg M M' a) → zIt M' q p 0 g → Q (.inl (some (.ref q))) M') : zX Z l 1 mth_Jx4a65c_iterator_32c93 0 (lv_args 0 [.ref p]) [] M 1 4 Q := by
  show zX Z l 1 mth_Jx4a65c_iterator_32c93 0 [(0, .ref p)] [] M 1 4 Q
  refine zs_new (kind := 13) (N := 4) (nc1 := 0) (ns1 := 0) (n := 3) g dJx4a65c_iterator_32c93_0 nc_Jx4a65c_267 rfl (by omega) (by omega) (fun q hq => ?_)
  refine zs_dup (n := 4) dJx4a65c_iterator_32c93_3 rfl rfl ?_
  refine zs_aload_n (n := 5) dJx4a65c_iterator_32c93_4 rfl rfl ?_
  have hpq : p ≠ q := fun e => by rw [e, hq] at hp; exact absurd hp (by decide)
  refine zc_I (n := 8) (As := [.ref p]) (mc := 0) (ms := 0) dJx4a65c_iterator_32c93_5 ok_Jx35411_init_45d68 ⟨ml_Jx4a65c_269, im_Jx35411_init_45d68, rfl, rfl⟩ rfl (Nat.le_of_ble_eq_true rfl) (by simp) (by omega) (Nat.le_refl _) (Nat.le_refl _) rfl rfl (m_ItrInit (p := p) u1_at ((u1_ne hpq).trans hp)) ?_
  refine zs_areturn dJx4a65c_iterator_32c93_8 ⟨_, rfl, Or.inl ⟨_, rfl⟩⟩ ?_
  refine hQ q _ hq (fun a ha => ?_) ?_
  · have hqa : a ≠ q := fun e => ha (e ▸ hq)
    exact ⟨u1_ne hqa, u1_ne hqa, u1_ne hqa, (u2_ne hqa).trans ((u2_ne hqa).trans (u1_ne hqa)), (u2_ne hqa).trans (u1_ne hqa), u1_ne hqa, u1_ne hqa, u1_ne hqa, u1_ne hqa⟩
  · refine ⟨⟨hg, u1_at, ?_⟩, u1_at, u2_at, ?_, ?_⟩
    · rw [show mK (mItrN (zNew M q 13 0 g) q p) q = 13 from u1_at]
      omega
    · exact congrFun (u1_at : u1 (vI M) q (fun _ => 0) q = fun _ => 0) 96
    · exact (u2_at : u2 (u2 (vI (zNew M q 13 0 g)) q 97 (-1)) q 98 (vI (zNew M q 13 0 g) p 128) q 98 = vI (zNew M q 13 0 g) p 128)
theorem m_hasNext {q p j g cn e : Nat} {f : Nat → Nat} (hI : zIt M q p j g) (hL : zL Z M p e cn f) (hj : j < 1000) : zD Z l 0 mth_Jx35411_hasNext_aae02 [.ref q] M 0 0 (some (.int (zb (!decide (j = cn))))) M := by
  intro Q hQ
  have hc := hL.lt
  show zX Z l 0 mth_Jx35411_hasNext_aae02 0 [(0, .ref q)] [] M 0 0 Q
  refine zs_aload_n (n := 1) dJx35411_hasNext_aae02_0 rfl rfl ?_
  refine zs_getv (x := nI j) (n := 4) dJx35411_hasNext_aae02_1 gf_Jx35411_25 hI.2.1 hI.2.2.2.1 rfl ?_
  refine zs_aload_n (n := 5) dJx35411_hasNext_aae02_4 rfl rfl ?_
  refine zs_getr (b := p) (n := 8) dJx35411_hasNext_aae02_5 gf_Jx35411_1 hI.2.1 hI.2.2.1 rfl ?_
  refine zs_getv (x := nI cn) (n := 11) dJx35411_hasNext_aae02_8 gf_Jx35411_28 hL.1 hL.2.1 rfl ?_
  refine zs_icmp_eq (tgt := 18) (n := 14) dJx35411_hasNext_aae02_11 (by decide) rfl (fun h => ?_) (fun h => ?_)
  · refine zs_iconst (v := 0) (n := 19) dJx35411_hasNext_aae02_18 (by decide) rfl ?_
    refine zs_ireturn dJx35411_hasNext_aae02_19 ⟨_, rfl, rfl⟩ ?_
    rw [decide_eq_true ((nI_eq (by omega) (by omega)).mp h)] at hQ
    exact hQ
  · refine zs_iconst (v := 1) (n := 15) dJx35411_hasNext_aae02_14 (by decide) rfl ?_
    refine zs_goto (tgt := 19) dJx35411_hasNext_aae02_15 (by decide) ?_
    refine zs_ireturn dJx35411_hasNext_aae02_19 ⟨_, rfl, rfl⟩ ?_
    rw [decide_eq_false (fun e => h (by rw [e]))] at hQ
    exact hQ
theorem m_checkComod {q p j g e cn : Nat} {f : Nat → Nat} (hI : zIt M q p j g) (hL : zL Z M p e cn f) : zD Z l 0 mth_Jx35411_checkForComodification_da8c8 [.ref q] M 0 0 none M := by
  intro Q hQ
  show zX Z l 0 mth_Jx35411_checkForComodification_da8c8 0 [(0, .ref q)] [] M 0 0 Q
  refine zs_aload_n (n := 1) dJx35411_checkForComodification_da8c8_0 rfl rfl ?_
  refine zs_getr (b := p) (n := 4) dJx35411_checkForComodification_da8c8_1 gf_Jx35411_1 hI.2.1 hI.2.2.1 rfl ?_
  refine zs_geti (n := 7) dJx35411_checkForComodification_da8c8_4 gf_Jx35411_17 hL.1 rfl ?_
  refine zs_aload_n (n := 8) dJx35411_checkForComodification_da8c8_7 rfl rfl ?_
  refine zs_getv (x := vI M p 128) (n := 11) dJx35411_checkForComodification_da8c8_8 gf_Jx35411_22 hI.2.1 hI.2.2.2.2 rfl ?_
  refine zs_icmp_eq (tgt := 22) (n := 14) dJx35411_checkForComodification_da8c8_11 (by decide) rfl (fun _ => ?_) (fun h => absurd rfl h)
  refine zs_return dJx35411_checkForComodification_da8c8_22 rfl ?_
  exact hQ
abbrev mItrX (M : zMem) (q j : Nat) : zMem := sI (sI M q 96 (nI (j + 1))) q 97 (nI j)
theorem m_next {q p j g cn e : Nat} {f : Nat → Nat} (hI : zIt M q p j g) (hL : zL Z M p e cn f) (hj : j < cn) : zD Z l 1 mth_Jx35411_next_0502b [.ref q] M 0 0 (some (.ref (f j))) (mItrX M q j) := by
  intro Q hQ
  have hc := hL.lt
  have hrow : mK M e = 3 ∧ cn ≤ mN M e ∧ mN M e < 1000 := by
    rcases hL.2.2.2.1 with ⟨-, -, h9, -⟩ | ⟨h1, h2, h3, -⟩
    · omega
    · exact ⟨h1, h2, h3⟩
  show zX Z l 1 mth_Jx35411_next_0502b 0 [(0, .ref q)] [] M 0 0 Q
  refine zs_aload_n (n := 1) dJx35411_next_0502b_0 rfl rfl ?_
  refine zc_V (n := 4) (As := []) (ci := 3) (mc := 0) (ms := 0) dJx35411_next_0502b_1 ok_Jx35411_checkForComodification_da8c8 ⟨ml_Jx35411_31, im_Jx35411_checkForComodification_da8c8, sl_Jx35411_checkForComodification_da8c8⟩ rfl hI.2.1 rfl (Nat.le_of_ble_eq_true rfl) (by simp) (by omega) (Nat.le_refl _) (Nat.le_refl _) rfl rfl (m_checkComod hI hL) ?_
  refine zs_aload_n (n := 5) dJx35411_next_0502b_4 rfl rfl ?_
  refine zs_getv (x := nI j) (n := 8) dJx35411_next_0502b_5 gf_Jx35411_25 hI.2.1 hI.2.2.2.1 rfl ?_
  refine zs_istore_n (n := 9) dJx35411_next_0502b_8 (by decide) rfl ?_
  refine zs_iload_n (n := 10) dJx35411_next_0502b_9 rfl rfl ?_
  refine zs_aload_n (n := 11) dJx35411_next_0502b_10 rfl rfl ?_
  refine zs_getr (b := p) (n := 14) dJx35411_next_0502b_11 gf_Jx35411_1 hI.2.1 hI.2.2.1 rfl ?_
  refine zs_getv (x := nI cn) (n := 17) dJx35411_next_0502b_14 gf_Jx35411_28 hL.1 hL.2.1 rfl ?_
  refine zs_icmp_lt (tgt := 28) (n := 20) dJx35411_next_0502b_17 (by decide) rfl (fun _ => ?_) (fun h => absurd (nI_lt hj (by omega)) h)
  refine zs_aload_n (n := 29) dJx35411_next_0502b_28 rfl rfl ?_
  refine zs_getr (b := p) (n := 32) dJx35411_next_0502b_29 gf_Jx35411_1 hI.2.1 hI.2.2.1 rfl ?_
  refine zs_getr (b := e) (n := 35) dJx35411_next_0502b_32 gf_Jx35411_37 hL.1 hL.2.2.1 rfl ?_
  refine zs_astore_n (n := 36) dJx35411_next_0502b_35 (by decide) rfl ?_
  refine zs_iload_n (n := 37) dJx35411_next_0502b_36 rfl rfl ?_
  refine zs_aload_n (n := 38) dJx35411_next_0502b_37 rfl rfl ?_
  refine zs_alen (n := 39) dJx35411_next_0502b_38 (by omega) rfl ?_
  refine zs_icmp_lt (tgt := 50) (n := 42) dJx35411_next_0502b_39 (by decide) rfl (fun _ => ?_) (fun h => absurd (nI_lt (show j < mN M e by omega) (by omega)) h)
  refine zs_aload_n (n := 51) dJx35411_next_0502b_50 rfl rfl ?_
  refine zs_iload_n (n := 52) dJx35411_next_0502b_51 rfl rfl ?_
  refine zs_iconst (v := 1) (n := 53) dJx35411_next_0502b_52 (by decide) rfl ?_
  refine zs_iadd (n := 54) dJx35411_next_0502b_53 rfl ?_
  rw [nI_1]
  refine zs_puti (n := 57) dJx35411_next_0502b_54 pf_Jx35411_next_0502b_25 hI.2.1 ⟨rfl, rfl⟩ rfl ?_
  refine zs_aload_n (n := 58) dJx35411_next_0502b_57 rfl rfl ?_
  refine zs_aload_n (n := 59) dJx35411_next_0502b_58 rfl rfl ?_
  refine zs_iload_n (n := 60) dJx35411_next_0502b_59 rfl rfl ?_
  refine zs_dup_x1 (n := 61) dJx35411_next_0502b_60 rfl rfl rfl ?_
  refine zs_puti (n := 64) dJx35411_next_0502b_61 pf_Jx35411_next_0502b_13 hI.2.1 ⟨rfl, rfl⟩ rfl ?_
  refine zs_aald (b := f j) (n := 65) dJx35411_next_0502b_64 (Or.inl hrow.1) (vp_in_nI (show j < mN M e by omega) (show mN M e < 2 ^ 31 by omega)) ?_ rfl ?_
  · rw [nI_clamp (by omega)]
    exact hL.2.2.2.2 j hj
  refine zs_areturn dJx35411_next_0502b_65 ⟨_, rfl, Or.inl ⟨_, rfl⟩⟩ ?_
  exact hQ
abbrev xHN : MethodName := ⟨"java/util/Iterator", "hasNext", "()Z"⟩
abbrev xNX : MethodName := ⟨"java/util/Iterator", "next", "()Ljava/lang/Object;"⟩
/-- an iterator made -/
theorem zi_new {r : Nat} (g : Nat) (hd : decode (zMC mm) pc = .ok (.invokevirtual 54, 3)) (hc : (zMY mm).cls = RX16) (hR : zRp Z Λ S M) (hl : zlv (sc S) r) (hk : zki r = 14) (hg : 3000 ≤ g) (hst : st.length ≤ 4) (hdd : 1 < d) (hc1 : nc1 + 1 ≤ nc) (hs1 : ns1 + 4 ≤ ns) (hn : pc + 3 = n)
    (kk : ∀ q M', zRp Z Λ S M' → zIt M' q (Λ r) 0 g → mK M q = 0 → (∀ a, mK M a ≠ 0 → zAg M M' a) → zX Z l d mm n L (.ref q :: st) M' nc1 ns1 Q) : zX Z l d mm pc L (.ref (Λ r) :: st) M nc ns Q := by
  have hp := (hR.kd hl).trans hk
  refine zs_invV (d' := d - 1) (ci := 4) (As := []) (mc := 1) (ms := 4) (Post := fun o M1 => ∃ q, o = .inl (some (.ref q)) ∧ mK M q = 0 ∧ (∀ a, mK M a ≠ 0 → zAg M M1 a) ∧ zIt M1 q (Λ r) 0 g) hd ok_Jx4a65c_iterator_32c93 ⟨by rw [hc]; exact ml_X16_54, im_Jx4a65c_iterator_32c93, sl_Jx4a65c_iterator_32c93⟩ rfl hp rfl (Nat.le_of_ble_eq_true rfl) hst (by omega) hc1 hs1 rfl hn ((m_iterator hp hg (fun q M' h1 h2 h3 => ⟨q, rfl, h1, h2, h3⟩)).deep (by omega)) (fun k M1 h => ?_) (fun v1 M1 h => ?_)
  · obtain ⟨q, h1, -⟩ := h
    cases h1
  · obtain ⟨q, h1, h2, h3, h4⟩ := h
    cases h1
    exact kk q M1 (hR.grow (fun _ _ => rfl) ⟨rfl, rfl⟩ (fun _ _ _ => rfl) h3) h4 h2 h3
theorem zi_has {r q j g : Nat} {cnt : Nat} (hd : decode (zMC mm) pc = .ok (.invokeinterface 58 cnt, 5)) (hc : (zMY mm).cls = RX16) (hR : zRp Z Λ S M) (hl : zlv (sc S) r) (hk : zki r = 14) (hI : zIt M q (Λ r) j g) (hj : j ≤ zct (sc S) r) (hst : st.length ≤ 4) (hdd : 0 < d) (hn : pc + 5 = n)
    (kk : zX Z l d mm n L (.int (zb (!decide (j = zct (sc S) r))) :: st) M nc ns Q) : zX Z l d mm pc L (.ref q :: st) M nc ns Q := by
  have hL := hR.li hl hk
  have := hL.lt
  exact zc_F (x := xHN) (ci := 3) (As := []) (mc := 0) (ms := 0) hd ok_Jx35411_hasNext_aae02 ⟨by rw [hc]; exact ⟨tw_6 _ (List.mem_of_getElem? (i := 151) (by decide +kernel)), by decide +kernel⟩, ⟨tw_6 _ (List.mem_of_getElem? (i := 153) (by decide +kernel)), by decide +kernel⟩, ⟨tw_6 _ (List.mem_of_getElem? (i := 152) (by decide +kernel)), by decide +kernel⟩, ⟨tw_6 _ (List.mem_of_getElem? (i := 155) (by decide +kernel)), by decide +kernel⟩, ⟨tw_6 _ (List.mem_of_getElem? (i := 157) (by decide +kernel)), by decide +kernel⟩, ⟨tw_6 _ (List.mem_of_getElem? (i := 158) (by decide +kernel)), by decide +kernel⟩, ⟨tw_6 _ (List.mem_of_getElem? (i := 156) (by decide +kernel)), by decide +kernel⟩, ⟨tw_6 _ (List.mem_of_getElem? (i := 154) (by decide +kernel)), by decide +kernel⟩⟩ ⟨⟨by decide, by decide⟩, by decide +kernel⟩ rfl hI.2.1 rfl (Nat.le_of_ble_eq_true rfl) hst hdd (Nat.le_refl _) (Nat.le_refl _) rfl hn (m_hasNext hI hL (by omega)) kk
theorem zi_next {r q j g b : Nat} {cnt : Nat} (hd : decode (zMC mm) pc = .ok (.invokeinterface 64 cnt, 5)) (hc : (zMY mm).cls = RX16) (hR : zRp Z Λ S M) (hl : zlv (sc S) r) (hk : zki r = 14) (hI : zIt M q (Λ r) j g) (hj : j < zct (sc S) r) (hb : Λ (zbs r + j) = b) (hst : st.length ≤ 4) (hdd : 1 < d) (hn : pc + 5 = n)
    (kk : ∀ M', zRp Z Λ S M' → zIt M' q (Λ r) (j + 1) g → (∀ a, a ≠ q → zAg M M' a) → zX Z l d mm n L (.ref b :: st) M' nc ns Q) : zX Z l d mm pc L (.ref q :: st) M nc ns Q := by
  subst hb
  have hL := hR.li hl hk
  have hag : ∀ a, a ≠ q → zAg M (mItrX M q j) a := fun a h => ⟨rfl, rfl, rfl, (u2_ne h).trans (u2_ne h), rfl, rfl, rfl, rfl, rfl⟩
  refine zc_F (x := xNX) (ci := 3) (As := []) (mc := 0) (ms := 0) hd ok_Jx35411_next_0502b ⟨by rw [hc]; exact ⟨tw_6 _ (List.mem_of_getElem? (i := 161) (by decide +kernel)), by decide +kernel⟩, ⟨tw_6 _ (List.mem_of_getElem? (i := 163) (by decide +kernel)), by decide +kernel⟩, ⟨tw_6 _ (List.mem_of_getElem? (i := 162) (by decide +kernel)), by decide +kernel⟩, ⟨tw_6 _ (List.mem_of_getElem? (i := 164) (by decide +kernel)), by decide +kernel⟩, ⟨tw_6 _ (List.mem_of_getElem? (i := 166) (by decide +kernel)), by decide +kernel⟩, ⟨tw_6 _ (List.mem_of_getElem? (i := 167) (by decide +kernel)), by decide +kernel⟩, ⟨tw_6 _ (List.mem_of_getElem? (i := 165) (by decide +kernel)), by decide +kernel⟩, ⟨tw_6 _ (List.mem_of_getElem? (i := 154) (by decide +kernel)), by decide +kernel⟩⟩ ⟨⟨by decide, by decide⟩, by decide +kernel⟩ rfl hI.2.1 rfl (Nat.le_of_ble_eq_true rfl) hst hdd (Nat.le_refl _) (Nat.le_refl _) rfl hn (m_next hI hL hj) (kk _ (hR.tmp hI.1 hag) ⟨hI.1, hI.2.1, hI.2.2.1, ?_, ?_⟩ hag)
  · exact (u2_at : u2 (vI M) q 96 (nI (j + 1)) q 96 = nI (j + 1))
  · exact hI.2.2.2.2
end ZITER
