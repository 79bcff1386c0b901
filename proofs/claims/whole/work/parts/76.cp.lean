/-! COPIES OF LISTS: the copy constructor, set, addAll -/
section ZCP
variable {Z : zPar} {l : Launch} {Λ Λ' : Nat → Nat} {S : zSt} {M M' : zMem} {r s k i j a q p g : Nat} {c : Nat → Nat} {d : Nat} {mm : zMeth} {pc n nc ns ix nc1 ns1 e : Nat} {L : List (Nat × Value)} {st : List Value} {Q : zO → zMem → Prop} {f : Nat → Nat}
/-- a list of the moment whose row is just as long as need be -/
def zTt (Z : zPar) (M : zMem) (p g n : Nat) (f : Nat → Nat) : Prop := 3000 ≤ g ∧ mK M p = 14 ∧ mG M p = g ∧ ∃ e, zL Z M p e n f ∧ (mK M e = 3 → mG M e = g + 1)
theorem zTt.tmp (h : zTt Z M p g n f) : zTmp M p g := ⟨h.1, h.2.2.1, by rw [h.2.1]; decide⟩
theorem zTt.sI {v : Int32} (h : zTt Z M p g n f) (hne : a ≠ p) : zTt Z (sI M a k v) p g n f := by
  obtain ⟨h1, h2, h3, e, ⟨l1, l2, l3, l4, l5⟩, h5⟩ := h
  exact ⟨h1, h2, h3, e, ⟨l1, (congrFun (u2_ne (Ne.symm hne)) 130).trans l2, l3, l4, l5⟩, h5⟩
theorem zt_size2 (hd : decode (zMC mm) pc = .ok (.invokevirtual ix, 3)) (hw : zwd (.methodLink (zMY mm).cls ix yJx4a65c_size_8abf5)) (hT : zTt Z M p g k f) (hst : st.length ≤ 4) (hdd : 0 < d) (hn : pc + 3 = n) (kk : zX Z l d mm n L (.int (nI k) :: st) M nc ns Q) : zX Z l d mm pc L (.ref p :: st) M nc ns Q := by
  obtain ⟨-, -, -, e, hL, -⟩ := hT
  exact zc_size hd hw hL hst hdd hn kk
theorem zt_get2 (hd : decode (zMC mm) pc = .ok (.invokevirtual ix, 3)) (hw : zwd (.methodLink (zMY mm).cls ix yJx4a65c_get_915e3)) (hT : zTt Z M p g k f) (hi : i < k) (hst : st.length ≤ 4) (hdd : 2 < d) (hn : pc + 3 = n) (kk : zX Z l d mm n L (.ref (f i) :: st) M nc ns Q) : zX Z l d mm pc L (.int (nI i) :: .ref p :: st) M nc ns Q := by
  obtain ⟨-, -, -, e, hL, -⟩ := hT
  exact zc_get hd hw hL hi hst hdd hn kk
/-- set -/
theorem zt_set {v ci : Nat} {rc : vw_C} (hd : decode (zMC mm) pc = .ok (.invokevirtual ix, 3)) (hw : zwd (.methodLink (zMY mm).cls ix yJx4a65c_set_bcc79)) (hR : zRp Z Λ S M) (hT : zTt Z M p g k f) (hi : i < k) (hv : mK M v = 10 + ci) (hr : vwCl[ci]? = some rc) (hca : zwd (.castable rc.1 "java/lang/Object")) (hst : st.length ≤ 4) (hdd : 2 < d) (hn : pc + 3 = n)
    (kk : ∀ M', zRp Z Λ S M' → zTt Z M' p g k (fun x => if x = i then v else f x) → mK M' = mK M → zX Z l d mm n L (.ref (f i) :: st) M' nc ns Q) : zX Z l d mm pc L (.ref v :: .int (nI i) :: .ref p :: st) M nc ns Q := by
  obtain ⟨h1, h2, h3, e, hL, h5⟩ := hT
  refine zc_V (As := [.int (nI i), .ref v]) (ci := 4) (mc := 0) (ms := 0) hd ok_Jx4a65c_set_bcc79 ⟨hw, im_Jx4a65c_set_bcc79, sl_Jx4a65c_set_bcc79⟩ rfl hL.1 rfl (Nat.le_of_ble_eq_true rfl) hst hdd (Nat.le_refl _) (Nat.le_refl _) rfl hn (m_set hL hi hv hr hca) ?_
  have k3 : mK M e = 3 := by
    obtain ⟨-, -, -, l4, -⟩ := hL
    rcases l4 with ⟨-, -, l4, -⟩ | ⟨l4, -⟩
    · omega
    · exact l4
  refine kk _ (hR.tmp (q := e) (g := g + 1) ⟨by omega, h5 k3, by rw [k3]; decide⟩ (fun a ha => ⟨rfl, rfl, rfl, rfl, rfl, rfl, u2_ne ha, rfl, rfl⟩)) ⟨h1, h2, h3, e, ⟨hL.1, hL.2.1, hL.2.2.1, hL.2.2.2.1, fun x hx => ?_⟩, h5⟩ rfl
  show u2 (aR M) e i (some v) e x = some (if x = i then v else f x)
  by_cases ei : x = i
  · subst ei
    rw [if_pos rfl]
    exact u2_at
  · rw [if_neg ei]
    exact (u2_k ei e).trans (hL.2.2.2.2 x hx)
theorem zTl.ext {f' : Nat → Nat} (h : zTl Z M p g n f) (hf : ∀ i, i < n → f' i = f i) : zTl Z M p g n f' := by
  obtain ⟨a1, a2, a3, e, ⟨l1, l2, l3, l4, l5⟩, h5⟩ := h
  exact ⟨a1, a2, a3, e, ⟨l1, l2, l3, l4, fun i hi => by rw [hf i hi]; exact l5 i hi⟩, h5⟩
theorem zCop_ag {k w : Nat} (hq : mK M q = 0) (ha : mK M a ≠ 0) : zAg M (zCop M q e k g w) a := by
  have haq : a ≠ q := fun h => ha (h ▸ hq)
  exact ⟨u1_ne haq, u1_ne haq, u1_ne haq, u1_ne haq, u1_ne haq, u1_ne haq, (u1_ne haq).trans (u1_ne haq), u1_ne haq, u1_ne haq⟩
-- new ArrayList(c)
abbrev zCin (M : zMem) (p q e n g : Nat) : zMem := sR (sI (zCop (sI M p 128 0) q e n g n) p 130 (nI n)) p 129 (some q)
theorem m_cinit {cl ci : Nat} {r : vw_C} (g : Nat) (hp : mK M p = 14) (hne : cl ≠ p) (hL : zL Z M cl e n f) (h0 : 0 < n) (hr : vwCl[ci]? = some r) (hca : zwd (.castable r.1 "java/lang/Object")) (hel : ∀ i, i < n → zCi M ci (f i)) (hQ : ∀ q, mK M q = 0 → Q (.inl none) (zCin M p q e n g)) : zX Z l 3 mth_Jx4a65c_init_4bcb3 0 (lv_args 0 [.ref p, .ref cl]) [] M 1 n Q := by
  show zX Z l 3 mth_Jx4a65c_init_4bcb3 0 [(0, .ref p), (1, .ref cl)] [] M 1 n Q
  have hn := hL.lt
  have hL1 : zL Z (sI M p 128 0) cl e n f := by
    obtain ⟨l1, l2, l3, l4, l5⟩ := hL
    exact ⟨l1, (show u2 (vI M) p 128 0 cl 130 = nI n by rw [u2_ne hne]; exact l2), l3, l4, l5⟩
  refine zs_aload_n (n := 1) dJx4a65c_init_4bcb3_0 rfl rfl ?_
  refine zc_I (n := 4) (As := []) (mc := 0) (ms := 0) (d' := 1) dJx4a65c_init_4bcb3_1 ok_Jxc12de_init_da8c8 ⟨ml_Jx4a65c_1, im_Jxc12de_init_da8c8, rfl, rfl⟩ rfl (Nat.le_of_ble_eq_true rfl) (by simp) (by omega) (Nat.le_refl _) (Nat.le_refl _) rfl rfl (m_ALinit hp) ?_
  refine zs_aload_n (n := 5) dJx4a65c_init_4bcb3_4 rfl rfl ?_
  refine zc_toArrayF (ci := ci) g (nc1 := 0) (ns1 := 0) (n := 10) dJx4a65c_init_4bcb3_5 rfl hL1 h0 hr hca hel (by simp) (by omega) (by omega) (by omega) rfl (fun q hq => ?_)
  have hp0 : mK M p ≠ 0 := by rw [hp]; decide
  have hpq : p ≠ q := fun h => hp0 (h ▸ hq)
  have hc0 : mK M cl ≠ 0 := by rw [hL.1]; decide
  have hcq : cl ≠ q := fun h => hc0 (h ▸ hq)
  have hKq : mK (zCop (sI M p 128 0) q e n g n) q = 3 := u1_at
  have hKp : mK (zCop (sI M p 128 0) q e n g n) p = 14 := (u1_ne hpq).trans hp
  have hKc : mK (zCop (sI M p 128 0) q e n g n) cl = 14 := (u1_ne hcq).trans hL.1
  refine zs_astore_n (n := 11) dJx4a65c_init_4bcb3_10 (by decide) rfl ?_
  refine zs_aload_n (n := 12) dJx4a65c_init_4bcb3_11 rfl rfl ?_
  refine zs_aload_n (n := 13) dJx4a65c_init_4bcb3_12 rfl rfl ?_
  refine zs_alen (n := 14) dJx4a65c_init_4bcb3_13 (by omega) rfl ?_
  rw [show mN (zCop (sI M p 128 0) q e n g n) q = n from u1_at]
  refine zs_dup_x1 (n := 15) dJx4a65c_init_4bcb3_14 rfl rfl rfl ?_
  refine zs_puti (n := 18) dJx4a65c_init_4bcb3_15 pf_Jx4a65c_init_4bcb3_48 hKp ⟨rfl, rfl⟩ rfl ?_
  refine zs_if_eq (tgt := 57) (n := 21) dJx4a65c_init_4bcb3_18 (by decide) rfl (fun h => absurd h (nI_ne0 h0 (by omega))) (fun _ => ?_)
  refine zs_aload_n (n := 22) dJx4a65c_init_4bcb3_21 rfl rfl ?_
  refine zs_getClsF (n := 27) dJx4a65c_init_4bcb3_22 w_gc6 hKc (by simp) rfl ?_
  refine zs_ldcAL (n := 29) dJx4a65c_init_4bcb3_27 w_gc14 rfl ?_
  refine zs_acmp_ne (tgt := 40) (n := 32) dJx4a65c_init_4bcb3_29 (by decide) rfl (fun h => absurd h (fun h => h rfl)) (fun _ => ?_)
  refine zs_aload_n (n := 33) dJx4a65c_init_4bcb3_32 rfl rfl ?_
  refine zs_aload_n (n := 34) dJx4a65c_init_4bcb3_33 rfl rfl ?_
  refine zs_putr (n := 37) dJx4a65c_init_4bcb3_34 pf_Jx4a65c_init_4bcb3_9 hKp ⟨rfl, rfl⟩ rfl ?_
  refine zs_goto (tgt := 64) dJx4a65c_init_4bcb3_37 (by decide) ?_
  refine zs_return dJx4a65c_init_4bcb3_64 rfl ?_
  exact hQ q hq
/-- a list of the moment made as a copy of a list of ours -/
theorem zt_cinit {ci : Nat} {rc : vw_C} (hd : decode (zMC mm) pc = .ok (.invokespecial ix, 3)) (hw : zwd (.methodLink (zMY mm).cls ix yJx4a65c_init_4bcb3)) (hR : zRp Z Λ S M) (ht : zTmp M p g) (hp : mK M p = 14) (hL : zL Z M k e n f) (hne : k ≠ p) (h0 : 0 < n) (hr : vwCl[ci]? = some rc) (hca : zwd (.castable rc.1 "java/lang/Object")) (hel : ∀ i, i < n → mK M (f i) = 10 + ci) (h14 : ci ≠ 4) (hst : st.length ≤ 4) (hdd : 3 < d) (hc1 : nc1 + 1 ≤ nc) (hs1 : ns1 + n ≤ ns) (hn : pc + 3 = j)
    (kk : ∀ M', zRp Z Λ S M' → zTt Z M' p g n f → (∀ i, i < n → mK M' (f i) = 10 + ci) → zX Z l d mm j L st M' nc1 ns1 Q) : zX Z l d mm pc L (.ref k :: .ref p :: st) M nc ns Q := by
  refine zs_invI (d' := d - 1) (As := [.ref k]) (mc := 1) (ms := n) (nc1 := nc1) (ns1 := ns1) (Post := fun o M1 => ∃ q, mK M q = 0 ∧ o = .inl none ∧ M1 = zCin M p q e n (g + 1)) hd ok_Jx4a65c_init_4bcb3 ⟨hw, im_Jx4a65c_init_4bcb3, rfl, rfl⟩ rfl (Nat.le_of_ble_eq_true rfl) hst (by omega) hc1 hs1 rfl hn ((m_cinit (g + 1) hp hne hL h0 hr hca (fun i hi => Or.inl (hel i hi)) (fun q hq => ⟨q, hq, rfl, rfl⟩)).deep (by omega)) (fun k9 M1 h => by obtain ⟨q, _, h, _⟩ := h; cases h) (fun v M1 h => ?_)
  obtain ⟨q, hq, h, rfl⟩ := h
  cases h
  have hnl := hL.lt
  have hp0 : mK M p ≠ 0 := by rw [hp]; decide
  have hpq : p ≠ q := fun h => hp0 (h ▸ hq)
  have r1 : zRp Z Λ S (sI M p 128 0) := hR.tmp ht (fun a ha => ⟨rfl, rfl, rfl, u2_ne ha, rfl, rfl, rfl, rfl, rfl⟩)
  have r2 : zRp Z Λ S (zCop (sI M p 128 0) q e n (g + 1) n) := r1.grow (fun _ _ => rfl) ⟨rfl, rfl⟩ (fun _ _ _ => rfl) (fun a ha => zCop_ag hq ha)
  have ht2 : zTmp (zCop (sI M p 128 0) q e n (g + 1) n) p g := ⟨ht.1, (u1_ne hpq).trans ht.2.1, by rw [show mK (zCop (sI M p 128 0) q e n (g + 1) n) p = 14 from (u1_ne hpq).trans hp]; decide⟩
  have r3 : zRp Z Λ S (sI (zCop (sI M p 128 0) q e n (g + 1) n) p 130 (nI n)) := r2.tmp ht2 (fun a ha => ⟨rfl, rfl, rfl, u2_ne ha, rfl, rfl, rfl, rfl, rfl⟩)
  have r4 : zRp Z Λ S (zCin M p q e n (g + 1)) := r3.tmp (q := p) (g := g) ht2 (fun a ha => ⟨rfl, rfl, rfl, rfl, u2_ne ha, rfl, rfl, rfl, rfl⟩)
  refine kk _ r4 ⟨ht.1, (u1_ne hpq).trans hp, (u1_ne hpq).trans ht.2.1, q, ⟨(u1_ne hpq).trans hp, u2_at, u2_at, Or.inr ⟨u1_at, ?_, ?_, ?_⟩, fun i hi => ?_⟩, fun _ => u1_at⟩ (fun i hi => ?_)
  · show n ≤ u1 (mN M) q n q
    rw [u1_at]
    exact Nat.le_refl _
  · show u1 (mN M) q n q < 1000
    rw [u1_at]
    exact hnl
  · show 0 < u1 (mN M) q n q
    rw [u1_at]
    exact h0
  · show u1 (u1 (aR M) q (fun _ => none)) q (va_cpy (aR M e) (fun _ => none) 0 0 n) q i = some (f i)
    rw [u1_at]
    unfold va_cpy
    rw [if_pos ⟨Nat.zero_le _, by omega⟩, show 0 + (i - 0) = i from by omega]
    exact hL.2.2.2.2 i hi
  · have hk := hel i hi
    have : f i ≠ q := fun h => by rw [h, hq] at hk; omega
    exact (u1_ne this).trans hk
-- addAll over a list that is empty and has room
abbrev zAdA (M : zMem) (p q e e1 n g : Nat) : zMem := sI (sARr (sI (zCop M q e1 n g n) p 128 (vI M p 128 + 1)) e (va_cpy (va_cpy (aR M e1) (fun _ => none) 0 0 n) (aR M e) 0 0 n)) p 130 (nI n)
theorem m_addAll {cl ci e1 : Nat} {r : vw_C} (g : Nat) (hL0 : zL Z M p e 0 f) (h3 : mK M e = 3) (hr2 : n ≤ mN M e) {f1 : Nat → Nat} (hL : zL Z M cl e1 n f1) (h0 : 0 < n) (hr : vwCl[ci]? = some r) (hca : zwd (.castable r.1 "java/lang/Object")) (hel : ∀ i, i < n → mK M (f1 i) = 10 + ci) (hQ : ∀ q, mK M q = 0 → Q (.inl (some (.int 1))) (zAdA M p q e e1 n g)) : zX Z l 3 mth_Jx4a65c_addAll_f0b43 0 (lv_args 0 [.ref p, .ref cl]) [] M 1 n Q := by
  show zX Z l 3 mth_Jx4a65c_addAll_f0b43 0 [(0, .ref p), (1, .ref cl)] [] M 1 n Q
  have hn := hL.lt
  have hp : mK M p = 14 := hL0.1
  have hN : mN M e < 1000 := by
    obtain ⟨-, -, -, l4, -⟩ := hL0
    rcases l4 with ⟨l4, -⟩ | ⟨-, -, l5, -⟩
    · omega
    · exact l5
  refine zs_aload_n (n := 1) dJx4a65c_addAll_f0b43_0 rfl rfl ?_
  refine zc_toArrayF (ci := ci) g (nc1 := 0) (ns1 := 0) (n := 6) dJx4a65c_addAll_f0b43_1 rfl hL h0 hr hca (fun i hi => Or.inl (hel i hi)) (by simp) (by omega) (by omega) (by omega) rfl (fun q hq => ?_)
  have hp0 : mK M p ≠ 0 := by rw [hp]; decide
  have hpq : p ≠ q := fun h => hp0 (h ▸ hq)
  have he0 : mK M e ≠ 0 := by rw [h3]; decide
  have heq : e ≠ q := fun h => he0 (h ▸ hq)
  have hKq : mK (zCop M q e1 n g n) q = 3 := u1_at
  have hKp : mK (zCop M q e1 n g n) p = 14 := (u1_ne hpq).trans hp
  have hKe : mK (zCop M q e1 n g n) e = 3 := (u1_ne heq).trans h3
  have hNe : mN (zCop M q e1 n g n) e = mN M e := u1_ne heq
  have hVp : vI (zCop M q e1 n g n) p = vI M p := u1_ne hpq
  have hRp : vR (zCop M q e1 n g n) p = vR M p := u1_ne hpq
  have hAe : aR (zCop M q e1 n g n) e = aR M e := (u1_ne heq).trans (u1_ne heq)
  have hAq : aR (zCop M q e1 n g n) q = va_cpy (aR M e1) (fun _ => none) 0 0 n := u1_at
  have hNq : mN (zCop M q e1 n g n) q = n := u1_at
  refine zs_astore_n (n := 7) dJx4a65c_addAll_f0b43_6 (by decide) rfl ?_
  refine zs_aload_n (n := 8) dJx4a65c_addAll_f0b43_7 rfl rfl ?_
  refine zs_dup (n := 9) dJx4a65c_addAll_f0b43_8 rfl rfl ?_
  refine zs_geti (n := 12) dJx4a65c_addAll_f0b43_9 gf_Jx4a65c_63 hKp rfl ?_
  rw [hVp]
  refine zs_iconst (v := 1) (n := 13) dJx4a65c_addAll_f0b43_12 (by decide) rfl ?_
  refine zs_iadd (n := 14) dJx4a65c_addAll_f0b43_13 rfl ?_
  refine zs_puti (n := 17) dJx4a65c_addAll_f0b43_14 pf_Jx4a65c_addAll_f0b43_63 hKp ⟨rfl, rfl⟩ rfl ?_
  refine zs_aload_n (n := 18) dJx4a65c_addAll_f0b43_17 rfl rfl ?_
  refine zs_alen (n := 19) dJx4a65c_addAll_f0b43_18 (by rw [show mK (sI (zCop M q e1 n g n) p 128 (vI M p 128 + 1)) q = 3 from hKq]; decide) rfl ?_
  rw [hNq]
  refine zs_istore_n (n := 20) dJx4a65c_addAll_f0b43_19 (by decide) rfl ?_
  refine zs_iload_n (n := 21) dJx4a65c_addAll_f0b43_20 rfl rfl ?_
  refine zs_if_ne (tgt := 26) (n := 24) dJx4a65c_addAll_f0b43_21 (by decide) rfl (fun _ => ?_) (fun h => absurd h (nI_ne0 h0 (by omega)))
  refine zs_iload_n (n := 27) dJx4a65c_addAll_f0b43_26 rfl rfl ?_
  refine zs_aload_n (n := 28) dJx4a65c_addAll_f0b43_27 rfl rfl ?_
  refine zs_getr (b := e) (n := 31) dJx4a65c_addAll_f0b43_28 gf_Jx4a65c_9 hKp (by rw [hRp]; exact hL0.2.2.1) rfl ?_
  refine zs_dup (n := 32) dJx4a65c_addAll_f0b43_31 rfl rfl ?_
  refine zs_astore (n := 34) dJx4a65c_addAll_f0b43_32 (by decide) rfl ?_
  refine zs_alen (n := 35) dJx4a65c_addAll_f0b43_34 (by rw [show mK (sI (zCop M q e1 n g n) p 128 (vI M p 128 + 1)) e = 3 from hKe]; decide) rfl ?_
  rw [hNe]
  refine zs_aload_n (n := 36) dJx4a65c_addAll_f0b43_35 rfl rfl ?_
  refine zs_geti (n := 39) dJx4a65c_addAll_f0b43_36 gf_Jx4a65c_48 hKp rfl ?_
  rw [show vI (sI (zCop M q e1 n g n) p 128 (vI M p 128 + 1)) p 130 = nI 0 from (u2_k (f := vI (zCop M q e1 n g n)) (a := p) (v := vI M p 128 + 1) (k := 128) (j := 130) (by decide) p).trans ((congrFun hVp 130).trans hL0.2.1)]
  refine zs_dup (n := 40) dJx4a65c_addAll_f0b43_39 rfl rfl ?_
  refine zs_istore (n := 42) dJx4a65c_addAll_f0b43_40 (by decide) rfl ?_
  refine zs_isub (n := 43) dJx4a65c_addAll_f0b43_42 rfl ?_
  rw [pk_sub (Nat.zero_le _), Nat.sub_zero]
  refine zs_icmp_le (tgt := 56) (n := 46) dJx4a65c_addAll_f0b43_43 (by decide) rfl (fun _ => ?_) (fun h => absurd (nI_le hr2 (by omega)) h)
  refine zs_aload_n (n := 57) dJx4a65c_addAll_f0b43_56 rfl rfl ?_
  refine zs_iconst (v := 0) (n := 58) dJx4a65c_addAll_f0b43_57 (by decide) rfl ?_
  refine zs_aload (n := 60) dJx4a65c_addAll_f0b43_58 rfl rfl ?_
  refine zs_iload (n := 62) dJx4a65c_addAll_f0b43_60 rfl rfl ?_
  refine zs_iload_n (n := 63) dJx4a65c_addAll_f0b43_62 rfl rfl ?_
  refine zs_copyR (ci := ci) (n := 66) dJx4a65c_addAll_f0b43_63 w_cp2 hr hca hKq hKe (by decide) (by decide) (nI_pos (by omega)) (by rw [nI_clamp (by omega)]; show 0 + n ≤ mN (zCop M q e1 n g n) q; omega) (by rw [nI_clamp (n := n) (by omega)]; show 0 + n ≤ mN (zCop M q e1 n g n) e; omega) (fun i hi y hy => ?_) (by simp) rfl ?_
  · rw [nI_clamp (by omega)] at hi
    replace hy : va_cpy (aR M e1) (fun _ => none) 0 0 n (0 + i) = some y := hAq ▸ hy
    unfold va_cpy at hy
    rw [if_pos ⟨by omega, by omega⟩, show 0 + (0 + i - 0) = i from by omega, hL.2.2.2.2 i hi] at hy
    cases hy
    have hk := hel i hi
    have hne : f1 i ≠ q := fun h => by rw [h, hq] at hk; omega
    exact Or.inl ((u1_ne hne).trans hk)
  rw [nI_clamp (n := n) (by omega), show (0 : Int32).toNatClampNeg = 0 from rfl, show (nI 0).toNatClampNeg = 0 from rfl, show aR (sI (zCop M q e1 n g n) p 128 (vI M p 128 + 1)) q = va_cpy (aR M e1) (fun _ => none) 0 0 n from hAq, show aR (sI (zCop M q e1 n g n) p 128 (vI M p 128 + 1)) e = aR M e from hAe]
  refine zs_aload_n (n := 67) dJx4a65c_addAll_f0b43_66 rfl rfl ?_
  refine zs_iload (n := 69) dJx4a65c_addAll_f0b43_67 rfl rfl ?_
  refine zs_iload_n (n := 70) dJx4a65c_addAll_f0b43_69 rfl rfl ?_
  refine zs_iadd (n := 71) dJx4a65c_addAll_f0b43_70 rfl ?_
  rw [show nI 0 + nI n = nI n from by rw [show nI 0 = (0 : Int32) from rfl, Int32.zero_add]]
  refine zs_puti (n := 74) dJx4a65c_addAll_f0b43_71 pf_Jx4a65c_addAll_f0b43_48 hKp ⟨rfl, rfl⟩ rfl ?_
  refine zs_iconst (v := 1) (n := 75) dJx4a65c_addAll_f0b43_74 (by decide) rfl ?_
  refine zs_ireturn dJx4a65c_addAll_f0b43_75 ⟨_, rfl, rfl⟩ ?_
  exact hQ q hq
end ZCP
