/-! THE DAYS by roles; the next day -/
section ZDAYS2
variable {Z : zPar} {l : Launch} {Λ Λ2 : Nat → Nat} {S : zSt} {M M2 M0 : zMem} {r s k i j a q p g : Nat} {c : Nat → Nat} {d d' : Nat} {mm : zMeth} {pc n nc ns ix nc1 ns1 e v : Nat} {L : List (Nat × Value)} {st : List Value} {Q : zO → zMem → Prop} {f : Nat → Nat} {V2 : Nat → Nat → Int32} {x : Int32}
theorem zIok_add (h : zRp Z Λ S M) (h4 : sc S 4 = 1) (hag : ∀ a, mK M a ≠ 0 → a ≠ Λ 1023 → (mK M a = 3 → mG M a ≠ 1024) → zAg M M2 a) (hv : zJ M v) (hx : vI M v 32 = x) (h1 : ∀ i, i < sc S 6 → Λ2 (1320 + i) = Λ (1320 + i)) (h2 : Λ2 (1320 + sc S 6) = v) : ∀ i, i < sc S 6 + 1 → zIok Λ2 (u2 (sV S) (1320 + sc S 6) 32 x) M2 (1320 + i) := by
  have hK : mK M (Λ 1023) = 14 := h.kd (lvM h4 (by omega))
  have hod : ∀ a, zJ M a → zAg M M2 a := fun a ha => hag a (by unfold zJ at ha; omega) (fun e => by unfold zJ at ha; rw [e, hK] at ha; omega) (fun h3 => by unfold zJ at ha; omega)
  intro i hi
  unfold zIok
  by_cases e : i = sc S 6
  · subst e
    have ea := hod v hv
    rw [h2, u2_at, ea.1, ea.2.2.2.1]
    exact ⟨hv, hx⟩
  · obtain ⟨q1, q2⟩ := h.ints.2 i (by omega)
    have ea := hod _ q1
    rw [h1 i (by omega), ea.1, ea.2.2.2.1]
    exact ⟨q1, q2.trans (congrFun (u2_ne (f := sV S) (by omega)) 32).symm⟩
/-- an Integer told to the days -/
theorem zw_addD (hp : Λ 1023 = p) (hd : decode (zMC mm) pc = .ok (.invokevirtual ix, 3)) (hw : zwd (.methodLink (zMY mm).cls ix yJx4a65c_add_9ea2d)) (hR : zRp Z Λ S M) (h4 : sc S 4 = 1) (h10 : sc S 6 ≤ 10) (hv : zJ M v) (hx : vI M v 32 = x) (hst : st.length ≤ 4) (hdd : 5 < d) (hc1 : nc1 + 1 ≤ nc) (hs1 : ns1 + 15 ≤ ns) (hn : pc + 3 = n)
    (kk : ∀ Λ' M', zRp Z Λ' (cset (sc S) 6 (sc S 6 + 1), u2 (sV S) (1320 + sc S 6) 32 x, sW S, sT S, sP S) M' → zSame Λ Λ' → zX Z l d mm n L (.int 1 :: st) M' nc1 ns1 Q) : zX Z l d mm pc L (.ref v :: .ref p :: st) M nc ns Q := by
  subst hp
  have hl : zlv (sc S) 1023 := lvM h4 (by omega)
  have hK : mK M (Λ 1023) = 14 := hR.kd hl
  have hG : mG M (Λ 1023) = 1023 := hR.mk hl
  have hL := hR.lD' h4
  have hVs : ∀ s, s < 1320 → u2 (sV S) (1320 + sc S 6) 32 x s = sV S s := fun s hs => u2_ne (by omega)
  have hvz : mK M v ≠ 0 := by unfold zJ at hv; omega
  have same : ∀ Λ' : Nat → Nat, (∀ s, s < 1320 → s ≠ 1024 → Λ' s = Λ s) → zSame Λ Λ' := fun Λ' h => ⟨h _ (by decide) (by decide), h _ (by decide) (by decide), h _ (by decide) (by decide), h _ (by decide) (by decide)⟩
  have hL0 := hL
  obtain ⟨l1, l2, l3, l4, l5⟩ := hL
  by_cases hfull : mK M (Λ 1024) = 3 ∧ mN M (Λ 1024) ≤ sc S 6
  · obtain ⟨k3, hN⟩ := hfull
    obtain ⟨g1, g2⟩ := (hR.rw hl rfl) k3
    replace g1 : mG M (Λ 1024) = 1024 := g1
    replace g2 : 10 ≤ mN M (Λ 1024) := g2
    have e10 : sc S 6 = 10 := by omega
    have eN : mN M (Λ 1024) = 10 := by omega
    rw [e10] at hL0
    refine zs_invV (d' := d - 1) (As := [.ref v]) (ci := 4) (mc := 1) (ms := 15) (nc1 := nc1) (ns1 := ns1) (Post := fun o M1 => ∃ q, mK M q = 0 ∧ o = .inl (some (.int 1)) ∧ M1 = zAddF M (Λ 1023) (Λ 1024) q v 1024) hd ok_Jx4a65c_add_9ea2d ⟨hw, im_Jx4a65c_add_9ea2d, sl_Jx4a65c_add_9ea2d⟩ rfl hK rfl (Nat.le_of_ble_eq_true rfl) hst (by omega) hc1 hs1 rfl hn ((m_addF (g := 1024) hL0 k3 eN (fun i hi => by have := hR.dayJ (i := i) (by omega); unfold zJ at this; unfold zCi; omega) hv.ob (fun q hq => ⟨q, hq, rfl, rfl⟩)).deep (by omega)) (fun k9 M1 h => by obtain ⟨q, _, h, _⟩ := h; cases h) (fun v1 M1 h => ?_)
    obtain ⟨q, hq, h, rfl⟩ := h
    cases h
    have hpq : Λ 1023 ≠ q := fun h => by rw [h, hq] at hK; exact absurd hK (by decide)
    have hag : ∀ a, mK M a ≠ 0 → a ≠ Λ 1023 → (mK M a = 3 → mG M a ≠ 1024) → zAg M (zAddF M (Λ 1023) (Λ 1024) q v 1024) a := fun a ha hap _ => by
      have haq : a ≠ q := fun h => ha (h ▸ hq)
      exact ⟨u1_ne haq, u1_ne haq, u1_ne haq, (u2_ne hap).trans ((u1_ne haq).trans (u2_ne hap)), (u2_ne hap).trans (u1_ne haq), u1_ne haq, (u2_ne haq).trans ((u1_ne haq).trans (u1_ne haq)), u1_ne haq, u1_ne haq⟩
    have hΛ2 : ∀ s, s < 1320 → s ≠ 1024 → u1 (u1 Λ (1320 + sc S 6) v) 1024 q s = Λ s := fun s h1 h2 => (u1_ne h2).trans (u1_ne (by omega))
    refine kk (u1 (u1 Λ (1320 + sc S 6) v) 1024 q) _ (zRp_days hR h4 (by omega) hΛ2 hag ⟨(u1_ne hpq).trans hK, (u1_ne hpq).trans hG, u1_ne hpq, fun k h1 h2 => ?_⟩ ⟨(u1_ne hpq).trans hK, ?_, ?_, Or.inr ⟨?_, ?_, ?_, ?_⟩, fun i hi => ?_⟩ (fun _ => ⟨?_, ?_⟩) (zIok_add hR h4 hag hv hx (fun i hi => (u1_ne (by omega)).trans (u1_ne (by omega))) ((u1_ne (by omega)).trans u1_at)) hVs) (same _ hΛ2)
    · show u2 (u1 (u2 (vI M) (Λ 1023) 128 (vI M (Λ 1023) 128 + 1)) q (fun _ => 0)) (Λ 1023) 130 11 (Λ 1023) k = vI M (Λ 1023) k
      rw [u2_k h2, u1_ne hpq, u2_k h1]
    · show u2 (u1 (u2 (vI M) (Λ 1023) 128 (vI M (Λ 1023) 128 + 1)) q (fun _ => 0)) (Λ 1023) 130 11 (Λ 1023) 130 = nI (sc S 6 + 1)
      rw [u2_at, e10]
      rfl
    · show u2 (u1 (vR M) q (fun _ => none)) (Λ 1023) 129 (some q) (Λ 1023) 129 = some (u1 _ 1024 q 1024)
      rw [u2_at, u1_at]
    · rw [u1_at]
      exact u1_at
    · rw [u1_at, e10]
      show 10 + 1 ≤ u1 (mN M) q 15 q
      rw [u1_at]
      decide
    · rw [u1_at]
      show u1 (mN M) q 15 q < 1000
      rw [u1_at]
      decide
    · rw [u1_at]
      show 0 < u1 (mN M) q 15 q
      rw [u1_at]
      decide
    · show u2 (u1 (u1 (aR M) q (fun _ => none)) q (va_cpy (aR M (Λ 1024)) (fun _ => none) 0 0 10)) q 10 (some v) (u1 (u1 Λ (1320 + sc S 6) v) 1024 q 1024) i = some (u1 (u1 Λ (1320 + sc S 6) v) 1024 q (1320 + i))
      rw [show u1 (u1 Λ (1320 + sc S 6) v) 1024 q 1024 = q from u1_at, show u1 (u1 Λ (1320 + sc S 6) v) 1024 q (1320 + i) = u1 Λ (1320 + sc S 6) v (1320 + i) from u1_ne (by omega)]
      by_cases ei : i = 10
      · subst ei
        rw [u2_at, e10, u1_at]
      · rw [u2_k ei, u1_at, u1_ne (by omega)]
        unfold va_cpy
        rw [if_pos ⟨Nat.zero_le _, by omega⟩, show 0 + (i - 0) = i from by omega]
        exact l5 i (by omega)
    · rw [u1_at]
      exact u1_at
    · rw [u1_at]
      show 10 ≤ u1 (mN M) q 15 q
      rw [u1_at]
      decide
  · have hro : sc S 6 < mN M (Λ 1024) ∨ sc S 6 = 0 := by
      rcases l4 with ⟨-, -, l4, -⟩ | ⟨l4, -⟩
      · exact Or.inr l4
      · by_cases h : mN M (Λ 1024) ≤ sc S 6
        · exact absurd ⟨l4, h⟩ hfull
        · exact Or.inl (by omega)
    refine zc_add (nc1 := nc1) (ns1 := ns1) 1024 hd hw hL0 hv.ob hro hst (by omega) hc1 (by omega) hn (fun k3 hc => ?_) (fun h0 k7 q hq => ?_)
    · obtain ⟨g1, g2⟩ := (hR.rw hl rfl) k3
      replace g1 : mG M (Λ 1024) = 1024 := g1
      have hpe : Λ 1023 ≠ Λ 1024 := fun h => by rw [h, k3] at hK; exact absurd hK (by decide)
      have hag : ∀ a, mK M a ≠ 0 → a ≠ Λ 1023 → (mK M a = 3 → mG M a ≠ 1024) → zAg M (zAdd M (Λ 1023) (Λ 1024) (sc S 6) v) a := fun a ha hap har => by
        have hae : a ≠ Λ 1024 := fun h => har (by rw [h]; exact k3) (by rw [h]; exact g1)
        exact ⟨rfl, rfl, rfl, (u2_ne hap).trans (u2_ne hap), rfl, rfl, u2_ne hae, rfl, rfl⟩
      have hΛ2 : ∀ s, s < 1320 → s ≠ 1024 → u1 Λ (1320 + sc S 6) v s = Λ s := fun s h1 h2 => u1_ne (by omega)
      have e24 : u1 Λ (1320 + sc S 6) v 1024 = Λ 1024 := u1_ne (by omega)
      refine kk (u1 Λ (1320 + sc S 6) v) _ (zRp_days hR h4 (by omega) hΛ2 hag ⟨hK, hG, rfl, fun k h1 h2 => (u2_k h2 _).trans (u2_k h1 _)⟩ ⟨hK, u2_at, by rw [e24]; exact l3, Or.inr ⟨by rw [e24]; exact k3, by rw [e24]; exact hc, ?_, ?_⟩, fun i hi => ?_⟩ (fun _ => by rw [e24]; exact ⟨g1, g2⟩) (zIok_add hR h4 hag hv hx (fun i hi => u1_ne (by omega)) u1_at) hVs) (same _ hΛ2)
      · rw [e24]
        rcases l4 with ⟨l4, -⟩ | ⟨-, -, l4, -⟩
        · rw [l4] at k3
          exact absurd k3 (by decide)
        · exact l4
      · rw [e24]
        show 0 < mN M (Λ 1024)
        omega
      · show u2 (aR M) (Λ 1024) (sc S 6) (some v) (u1 Λ (1320 + sc S 6) v 1024) i = some (u1 Λ (1320 + sc S 6) v (1320 + i))
        rw [e24]
        by_cases ei : i = sc S 6
        · subst ei
          rw [u2_at, u1_at]
        · rw [u2_k ei, u1_ne (by omega)]
          exact l5 i (by omega)
    · have hpq : Λ 1023 ≠ q := fun h => by rw [h, hq] at hK; exact absurd hK (by decide)
      have hag : ∀ a, mK M a ≠ 0 → a ≠ Λ 1023 → (mK M a = 3 → mG M a ≠ 1024) → zAg M (zAddG M (Λ 1023) q v 1024) a := fun a ha hap _ => by
        have haq : a ≠ q := fun h => ha (h ▸ hq)
        exact ⟨u1_ne haq, u1_ne haq, u1_ne haq, (u2_ne hap).trans ((u1_ne haq).trans (u2_ne hap)), (u2_ne hap).trans (u1_ne haq), u1_ne haq, (u2_ne haq).trans (u1_ne haq), u1_ne haq, u1_ne haq⟩
      have hΛ2 : ∀ s, s < 1320 → s ≠ 1024 → u1 (u1 Λ (1320 + sc S 6) v) 1024 q s = Λ s := fun s h1 h2 => (u1_ne h2).trans (u1_ne (by omega))
      refine kk (u1 (u1 Λ (1320 + sc S 6) v) 1024 q) _ (zRp_days hR h4 (by omega) hΛ2 hag ⟨(u1_ne hpq).trans hK, (u1_ne hpq).trans hG, u1_ne hpq, fun k h1 h2 => ?_⟩ ⟨(u1_ne hpq).trans hK, ?_, ?_, Or.inr ⟨?_, ?_, ?_, ?_⟩, fun i hi => ?_⟩ (fun _ => ⟨?_, ?_⟩) (zIok_add hR h4 hag hv hx (fun i hi => (u1_ne (by omega)).trans (u1_ne (by omega))) ((u1_ne (by omega)).trans u1_at)) hVs) (same _ hΛ2)
      · show u2 (u1 (u2 (vI M) (Λ 1023) 128 (vI M (Λ 1023) 128 + 1)) q (fun _ => 0)) (Λ 1023) 130 1 (Λ 1023) k = vI M (Λ 1023) k
        rw [u2_k h2, u1_ne hpq, u2_k h1]
      · show u2 (u1 (u2 (vI M) (Λ 1023) 128 (vI M (Λ 1023) 128 + 1)) q (fun _ => 0)) (Λ 1023) 130 1 (Λ 1023) 130 = nI (sc S 6 + 1)
        rw [u2_at, h0]
        rfl
      · show u2 (u1 (vR M) q (fun _ => none)) (Λ 1023) 129 (some q) (Λ 1023) 129 = some (u1 _ 1024 q 1024)
        rw [u2_at, u1_at]
      · rw [u1_at]
        exact u1_at
      · rw [u1_at, h0]
        show 0 + 1 ≤ u1 (mN M) q 10 q
        rw [u1_at]
        decide
      · rw [u1_at]
        show u1 (mN M) q 10 q < 1000
        rw [u1_at]
        decide
      · rw [u1_at]
        show 0 < u1 (mN M) q 10 q
        rw [u1_at]
        decide
      · show u2 (u1 (aR M) q (fun _ => none)) q 0 (some v) (u1 (u1 Λ (1320 + sc S 6) v) 1024 q 1024) i = some (u1 (u1 Λ (1320 + sc S 6) v) 1024 q (1320 + i))
        rw [show u1 (u1 Λ (1320 + sc S 6) v) 1024 q 1024 = q from u1_at, show u1 (u1 Λ (1320 + sc S 6) v) 1024 q (1320 + i) = u1 Λ (1320 + sc S 6) v (1320 + i) from u1_ne (by omega)]
        obtain rfl : i = 0 := by omega
        rw [u2_at, h0, u1_at]
      · rw [u1_at]
        exact u1_at
      · rw [u1_at]
        show 10 ≤ u1 (mN M) q 10 q
        rw [u1_at]
        decide
-- remove(0) of eleven
abbrev zRem (M : zMem) (p e : Nat) : zMem := sAR (sI (sARr (sI M p 128 (vI M p 128 + 1)) e (va_cpy (aR M e) (aR M e) 1 0 10)) p 130 10) e 10 none
theorem m_fastRemove (hL : zL Z M p e 11 f) (h3 : mK M e = 3) (hN : 11 ≤ mN M e) (hN2 : mN M e < 1000) (hel : ∀ i, i < 11 → zCi M 1 (f i)) : zD Z l 0 mth_Jx4a65c_fastRemove_b59b0 [.ref p, .ref e, .int 0] M 0 0 none (zRem M p e) := by
  intro Q hQ
  show zX Z l 0 mth_Jx4a65c_fastRemove_b59b0 0 [(0, .ref p), (1, .ref e), (2, .int 0)] [] M 0 0 Q
  obtain ⟨h1, h2, h4, -, h5⟩ := hL
  refine zs_aload_n (n := 1) dJx4a65c_fastRemove_b59b0_0 rfl rfl ?_
  refine zs_dup (n := 2) dJx4a65c_fastRemove_b59b0_1 rfl rfl ?_
  refine zs_geti (n := 5) dJx4a65c_fastRemove_b59b0_2 gf_Jx4a65c_63 h1 rfl ?_
  refine zs_iconst (v := 1) (n := 6) dJx4a65c_fastRemove_b59b0_5 (by decide) rfl ?_
  refine zs_iadd (n := 7) dJx4a65c_fastRemove_b59b0_6 rfl ?_
  refine zs_puti (n := 10) dJx4a65c_fastRemove_b59b0_7 pf_Jx4a65c_fastRemove_b59b0_63 h1 ⟨rfl, rfl⟩ rfl ?_
  refine zs_aload_n (n := 11) dJx4a65c_fastRemove_b59b0_10 rfl rfl ?_
  refine zs_geti (n := 14) dJx4a65c_fastRemove_b59b0_11 gf_Jx4a65c_48 h1 rfl ?_
  rw [show vI (sI M p 128 (vI M p 128 + 1)) p 130 = nI 11 from (u2_k (f := vI M) (a := p) (v := vI M p 128 + 1) (k := 128) (j := 130) (by decide) p).trans h2]
  refine zs_iconst (v := 1) (n := 15) dJx4a65c_fastRemove_b59b0_14 (by decide) rfl ?_
  refine zs_isub (n := 16) dJx4a65c_fastRemove_b59b0_15 rfl ?_
  rw [show nI 11 - 1 = (10 : Int32) from by decide]
  refine zs_dup (n := 17) dJx4a65c_fastRemove_b59b0_16 rfl rfl ?_
  refine zs_istore_n (n := 18) dJx4a65c_fastRemove_b59b0_17 (by decide) rfl ?_
  refine zs_iload_n (n := 19) dJx4a65c_fastRemove_b59b0_18 rfl rfl ?_
  refine zs_icmp_le (tgt := 34) (n := 22) dJx4a65c_fastRemove_b59b0_19 (by decide) rfl (fun h => absurd h (by decide)) (fun _ => ?_)
  refine zs_aload_n (n := 23) dJx4a65c_fastRemove_b59b0_22 rfl rfl ?_
  refine zs_iload_n (n := 24) dJx4a65c_fastRemove_b59b0_23 rfl rfl ?_
  refine zs_iconst (v := 1) (n := 25) dJx4a65c_fastRemove_b59b0_24 (by decide) rfl ?_
  refine zs_iadd (n := 26) dJx4a65c_fastRemove_b59b0_25 rfl ?_
  refine zs_aload_n (n := 27) dJx4a65c_fastRemove_b59b0_26 rfl rfl ?_
  refine zs_iload_n (n := 28) dJx4a65c_fastRemove_b59b0_27 rfl rfl ?_
  refine zs_iload_n (n := 29) dJx4a65c_fastRemove_b59b0_28 rfl rfl ?_
  refine zs_iload_n (n := 30) dJx4a65c_fastRemove_b59b0_29 rfl rfl ?_
  refine zs_isub (n := 31) dJx4a65c_fastRemove_b59b0_30 rfl ?_
  refine zs_copyR (ci := 1) (n := 34) dJx4a65c_fastRemove_b59b0_31 w_cp2 rfl co_J6 h3 h3 (by decide) (by decide) (by decide) (by show 1 + 10 ≤ mN M e; omega) (by show 0 + 10 ≤ mN M e; omega) (fun i hi y hy => ?_) (by simp) rfl ?_
  · replace hi : i < 10 := hi
    replace hy : aR M e (1 + i) = some y := hy
    rw [h5 (1 + i) (by omega)] at hy
    cases hy
    exact hel (1 + i) (by omega)
  show zX Z l 0 mth_Jx4a65c_fastRemove_b59b0 34 _ _ (sARr (sI M p 128 (vI M p 128 + 1)) e (va_cpy (aR M e) (aR M e) 1 0 10)) _ _ _
  refine zs_aload_n (n := 35) dJx4a65c_fastRemove_b59b0_34 rfl rfl ?_
  refine zs_aload_n (n := 36) dJx4a65c_fastRemove_b59b0_35 rfl rfl ?_
  refine zs_iload_n (n := 37) dJx4a65c_fastRemove_b59b0_36 rfl rfl ?_
  refine zs_dup_x1 (n := 38) dJx4a65c_fastRemove_b59b0_37 rfl rfl rfl ?_
  refine zs_puti (n := 41) dJx4a65c_fastRemove_b59b0_38 pf_Jx4a65c_fastRemove_b59b0_48 h1 ⟨rfl, rfl⟩ rfl ?_
  refine zs_null (n := 42) dJx4a65c_fastRemove_b59b0_41 rfl ?_
  refine zs_aastN (n := 43) dJx4a65c_fastRemove_b59b0_42 h3 (vp_in_nI (n := 10) (by show 10 < mN M e; omega) (by show mN M e < 2 ^ 31; omega)) rfl ?_
  rw [show (10 : Int32).toNatClampNeg = 10 from rfl]
  refine zs_return dJx4a65c_fastRemove_b59b0_43 rfl ?_
  exact hQ
theorem m_remove0 (hL : zL Z M p e 11 f) (h3 : mK M e = 3) (hN : 11 ≤ mN M e) (hN2 : mN M e < 1000) (hel : ∀ i, i < 11 → zCi M 1 (f i)) : zD Z l 2 mth_Jx4a65c_remove_915e3 [.ref p, .int 0] M 0 0 (some (.ref (f 0))) (zRem M p e) := by
  intro Q hQ
  show zX Z l 2 mth_Jx4a65c_remove_915e3 0 [(0, .ref p), (1, .int 0)] [] M 0 0 Q
  refine zs_iload_n (n := 1) dJx4a65c_remove_915e3_0 rfl rfl ?_
  refine zs_aload_n (n := 2) dJx4a65c_remove_915e3_1 rfl rfl ?_
  refine zs_geti (n := 5) dJx4a65c_remove_915e3_2 gf_Jx4a65c_48 hL.1 rfl ?_
  rw [hL.2.1]
  refine zc_S (n := 8) (As := [.int 0, .int (nI 11)]) (mc := 0) (ms := 0) (d' := 1) dJx4a65c_remove_915e3_5 ok_J15_checkIndex_7cf53 ⟨ml_Jx4a65c_118, st_J15_checkIndex_7cf53⟩ rfl (Nat.le_of_ble_eq_true rfl) (by simp) (by omega) (Nat.le_refl _) (Nat.le_refl _) rfl rfl (m_checkIndex1 (i := 0) (by decide) (by decide)) ?_
  refine zs_pop (n := 9) dJx4a65c_remove_915e3_8 rfl rfl ?_
  refine zs_aload_n (n := 10) dJx4a65c_remove_915e3_9 rfl rfl ?_
  refine zs_getr (n := 13) dJx4a65c_remove_915e3_10 gf_Jx4a65c_9 hL.1 hL.2.2.1 rfl ?_
  refine zs_astore_n (n := 14) dJx4a65c_remove_915e3_13 (by decide) rfl ?_
  refine zs_aload_n (n := 15) dJx4a65c_remove_915e3_14 rfl rfl ?_
  refine zs_iload_n (n := 16) dJx4a65c_remove_915e3_15 rfl rfl ?_
  refine zs_aald (b := f 0) (n := 17) dJx4a65c_remove_915e3_16 (Or.inl h3) (vp_in_nI (n := 0) (by omega) (by omega)) (hL.2.2.2.2 0 (by decide)) rfl ?_
  refine zs_astore_n (n := 18) dJx4a65c_remove_915e3_17 (by decide) rfl ?_
  refine zs_aload_n (n := 19) dJx4a65c_remove_915e3_18 rfl rfl ?_
  refine zs_aload_n (n := 20) dJx4a65c_remove_915e3_19 rfl rfl ?_
  refine zs_iload_n (n := 21) dJx4a65c_remove_915e3_20 rfl rfl ?_
  refine zc_V (n := 24) (As := [.ref e, .int 0]) (ci := 4) (mc := 0) (ms := 0) (d' := 0) dJx4a65c_remove_915e3_21 ok_Jx4a65c_fastRemove_b59b0 ⟨ml_Jx4a65c_144, im_Jx4a65c_fastRemove_b59b0, sl_Jx4a65c_fastRemove_b59b0⟩ rfl hL.1 rfl (Nat.le_of_ble_eq_true rfl) (by simp) (by omega) (Nat.le_refl _) (Nat.le_refl _) rfl rfl (m_fastRemove hL h3 hN hN2 hel) ?_
  refine zs_aload_n (n := 25) dJx4a65c_remove_915e3_24 rfl rfl ?_
  refine zs_areturn dJx4a65c_remove_915e3_25 ⟨_, rfl, Or.inl ⟨_, rfl⟩⟩ ?_
  exact hQ
def dSh (V : Nat → Nat → Int32) : Nat → Nat → Int32 := fun s => if 1320 ≤ s then V (s + 1) else V s
/-- the first of eleven days is taken away -/
theorem zw_remD (hp : Λ 1023 = p) (hd : decode (zMC mm) pc = .ok (.invokevirtual ix, 3)) (hw : zwd (.methodLink (zMY mm).cls ix yJx4a65c_remove_915e3)) (hR : zRp Z Λ S M) (h4 : sc S 4 = 1) (h11 : sc S 6 = 11) (hst : st.length ≤ 4) (hdd : 2 < d) (hn : pc + 3 = n)
    (kk : ∀ Λ' M' v, zRp Z Λ' (cset (sc S) 6 10, dSh (sV S), sW S, sT S, sP S) M' → zSame Λ Λ' → zJ M' v → zX Z l d mm n L (.ref v :: st) M' nc ns Q) : zX Z l d mm pc L (.int 0 :: .ref p :: st) M nc ns Q := by
  subst hp
  have hl : zlv (sc S) 1023 := lvM h4 (by omega)
  have hK : mK M (Λ 1023) = 14 := hR.kd hl
  have hG : mG M (Λ 1023) = 1023 := hR.mk hl
  have hL := hR.lD' h4
  rw [h11] at hL
  have hL0 := hL
  obtain ⟨l1, l2, l3, l4, l5⟩ := hL
  have l4' : mK M (Λ 1024) = 3 ∧ 11 ≤ mN M (Λ 1024) ∧ mN M (Λ 1024) < 1000 := by
    rcases l4 with ⟨-, -, l4, -⟩ | ⟨q1, q2, q3, -⟩
    · omega
    · exact ⟨q1, q2, q3⟩
  obtain ⟨k3, k4, k5⟩ := l4'
  obtain ⟨g1, g2⟩ := (hR.rw hl rfl) k3
  replace g1 : mG M (Λ 1024) = 1024 := g1
  have hel : ∀ i, i < 11 → zCi M 1 (Λ (1320 + i)) := fun i hi => by
    have := hR.dayJ (i := i) (by omega)
    unfold zJ at this
    unfold zCi
    omega
  refine zc_V (As := [.int 0]) (ci := 4) (mc := 0) (ms := 0) hd ok_Jx4a65c_remove_915e3 ⟨hw, im_Jx4a65c_remove_915e3, sl_Jx4a65c_remove_915e3⟩ rfl hK rfl (Nat.le_of_ble_eq_true rfl) hst hdd (Nat.le_refl _) (Nat.le_refl _) rfl hn (m_remove0 hL0 k3 k4 k5 hel) ?_
  have hpe : Λ 1023 ≠ Λ 1024 := fun h => by rw [h, k3] at hK; exact absurd hK (by decide)
  have hag : ∀ a, mK M a ≠ 0 → a ≠ Λ 1023 → (mK M a = 3 → mG M a ≠ 1024) → zAg M (zRem M (Λ 1023) (Λ 1024)) a := fun a ha hap har => by
    have hae : a ≠ Λ 1024 := fun h => har (by rw [h]; exact k3) (by rw [h]; exact g1)
    exact ⟨rfl, rfl, rfl, (u2_ne hap).trans (u2_ne hap), rfl, rfl, (u2_ne hae).trans (u1_ne hae), rfl, rfl⟩
  have hΛ2 : ∀ s, s < 1320 → s ≠ 1024 → (fun s => if 1320 ≤ s then Λ (s + 1) else Λ s) s = Λ s := fun s h1 _ => if_neg (by omega)
  refine kk (fun s => if 1320 ≤ s then Λ (s + 1) else Λ s) _ _ (zRp_days hR h4 (by omega) hΛ2 hag ⟨hK, hG, rfl, fun k h1 h2 => (u2_k h2 _).trans (u2_k h1 _)⟩ ⟨hK, u2_at, l3, Or.inr ⟨k3, ?_, k5, ?_⟩, fun i hi => ?_⟩ (fun _ => ⟨g1, g2⟩) (fun i hi => ?_) (fun s hs => if_neg (by omega))) ⟨rfl, rfl, rfl, rfl⟩ (hR.dayJ (i := 0) (by omega))
  · show 10 ≤ mN M (Λ 1024)
    omega
  · show 0 < mN M (Λ 1024)
    omega
  · show u2 (u1 (aR M) (Λ 1024) (va_cpy (aR M (Λ 1024)) (aR M (Λ 1024)) 1 0 10)) (Λ 1024) 10 none (Λ 1024) i = some (if 1320 ≤ 1320 + i then Λ (1320 + i + 1) else Λ (1320 + i))
    rw [u2_k (by omega), u1_at, if_pos (by omega)]
    unfold va_cpy
    rw [if_pos ⟨Nat.zero_le _, by omega⟩, show 1 + (i - 0) = i + 1 from by omega]
    exact l5 (i + 1) (by omega)
  · obtain ⟨q1, q2⟩ := hR.ints.2 (i + 1) (by omega)
    have e1 : (if 1320 ≤ 1320 + i then Λ (1320 + i + 1) else Λ (1320 + i)) = Λ (1320 + (i + 1)) := if_pos (by omega)
    have ea := hag (Λ (1320 + (i + 1))) (by omega) (fun e => by rw [e, hK] at q1; omega) (fun h3 => by omega)
    unfold zIok
    show (mK _ (if 1320 ≤ 1320 + i then Λ (1320 + i + 1) else Λ (1320 + i)) = 11 ∨ mK _ (if 1320 ≤ 1320 + i then Λ (1320 + i + 1) else Λ (1320 + i)) = 8) ∧ vI _ (if 1320 ≤ 1320 + i then Λ (1320 + i + 1) else Λ (1320 + i)) 32 = (if 1320 ≤ 1320 + i then sV S (1320 + i + 1) else sV S (1320 + i)) 32
    rw [e1, if_pos (show 1320 ≤ 1320 + i by omega), ea.1, ea.2.2.2.1]
    exact ⟨q1, q2⟩
theorem zw_valueOf (g : Nat) (hd : decode (zMC mm) pc = .ok (.invokestatic ix, 3)) (hw : zwd (.methodLink (zMY mm).cls ix yJ6_valueOf_2dffe)) (hR : zRp Z Λ S M) (hst : st.length ≤ 4) (hdd : 2 < d) (hc1 : nc1 + 1 ≤ nc) (hs1 : ns1 + 1 ≤ ns) (hn : pc + 3 = n)
    (kk : ∀ v M', zRp Z Λ S M' → zJ M' v → vI M' v 32 = x → zX Z l d mm n L (.ref v :: st) M' nc1 ns1 Q) : zX Z l d mm pc L (.int x :: st) M nc ns Q := by
  refine zc_valueOf (nc1 := nc1) (ns1 := ns1) g hd hw hR.emp.2.2 hst hdd hc1 hs1 hn (fun v h8 hx => kk v M hR (Or.inr h8) hx) (fun q hq => ?_)
  refine kk q _ (hR.grow (fun _ _ => rfl) ⟨rfl, rfl⟩ (fun _ _ _ => rfl) (fun a ha => ?_)) (Or.inl u1_at) u2_at
  have haq : a ≠ q := fun h => ha (h ▸ hq)
  exact (zNew_ag hq a ha).tr ⟨rfl, rfl, rfl, u2_ne haq, rfl, rfl, rfl, rfl, rfl⟩
theorem k_nextDay_1  (hR : zRp Z Λ S M) (h4 : sc S 4 = 1) (hp : sV S 1001 680 = 0) : zG Z l 2 mth_X16_nextDay [.ref (Λ 1001)] M 0 0 (some (.int 0)) ((zRp Z Λ (mT S 1))) := by
  intro Q hQ
  have hb1 : sc S 1000 ≤ 6 := hR.bnd.2.1.1
  show zX Z l 2 mth_X16_nextDay 0 [(0, .ref (Λ 1001))] [] M 0 0 Q
  refine zs_aload_n (n := 1) dX16_nextDay_0 rfl rfl ?_
  refine zs_aload_n (n := 2) dX16_nextDay_1 rfl rfl ?_
  refine zs_getv (x := (sV S 1001 680)) (n := 5) dX16_nextDay_2 gf_X16_161 (hR.kd (lvM h4 (by omega))) (hR.iv (lvM h4 (by omega)) (by decide) (by decide)) rfl ?_
  refine zs_if_eq (tgt := 12) (n := 8) dX16_nextDay_5 (by decide) rfl (fun _ => ?_) (fun h => absurd hp h)
  refine zs_iconst (v := 1) (n := 13) dX16_nextDay_12 (by decide) rfl ?_
  refine zw_i (r := 1001) (n := 16) dX16_nextDay_13 pf_X16_nextDay_43 hR (lvM h4 (by omega)) (hR.kd (lvM h4 (by omega))) ⟨rfl, rfl⟩ (by decide) rfl ?_
  intro M hR hv
  refine zs_aload_n (n := 17) dX16_nextDay_16 rfl rfl ?_
  refine zs_getv (x := (1 : Int32)) (n := 20) dX16_nextDay_17 gf_X16_43 (hR.kd (lvM h4 (by omega))) (hR.iv (lvM h4 (by omega)) (by decide) (by decide)) rfl ?_
  refine zs_if_le (tgt := 25) (n := 23) dX16_nextDay_20 (by decide) rfl (fun h => absurd h (by decide)) (fun _ => ?_)
  refine zs_iconst (v := 0) (n := 24) dX16_nextDay_23 (by decide) rfl ?_
  refine zs_ireturn dX16_nextDay_24 ⟨_, rfl, rfl⟩ ?_
  exact hQ _ hR
def dNx1 (S : zSt) : zSt := (cset (fClrM (sc S 1000) (sc S)) 1002 0, u2 (u2 (u2 (u2 (sV S) 1001 672 0) 1001 682 0) 1001 683 (-1)) 1001 680 0, sW S, sT S, sP S)
def dNx2 (S : zSt) : zSt := (cset (sc (dNx1 S)) 6 (sc S 6 + 1), u2 (sV (dNx1 S)) (1320 + sc S 6) 32 (sV S 1001 688), sW S, sT S, sP S)
def dNx3 (S : zSt) : zSt := (cset (sc (dNx2 S)) 6 10, dSh (sV (dNx2 S)), sW S, sT S, sP S)
theorem k_nxt0 (hR : zRp Z Λ S M) (h4 : sc S 4 = 1) (hle : sc S 6 ≤ 10) (hQ : ∀ Λ' M', zRp Z Λ' (sc S, u2 (sV S) 1001 687 (sV S 1001 687 + 1), sW S, sT S, sP S) M' → zSame Λ Λ' → Q (.inl (some (.int (sV S 1001 687 + 1)))) M') : zX Z l 6 mth_X16_nextDay 99 [(0, .ref (Λ 1001))] [] M 0 0 Q := by
  refine zs_aload_n (n := 100) dX16_nextDay_99 rfl rfl ?_
  refine zs_getr (b := (Λ 1023)) (n := 103) dX16_nextDay_100 gf_X16_25 (hR.kd (lvM h4 (by omega))) (hR.pt (lvM h4 (by omega)) rfl (by decide)) rfl ?_
  refine zc_size (c := sc S 6) (n := 106) dX16_nextDay_103 ml_X16_46 (hR.lD' h4) (by simp) (by omega) rfl ?_
  refine zs_bipush (v := 10) (n := 108) dX16_nextDay_106 (by decide) rfl ?_
  refine zs_icmp_le (tgt := 126) (n := 111) dX16_nextDay_108 (by decide) rfl (fun _ => ?_) (fun h => absurd (nI_le (b := 10) hle (by decide)) h)
  refine zs_aload_n (n := 127) dX16_nextDay_126 rfl rfl ?_
  refine zs_dup (n := 128) dX16_nextDay_127 rfl rfl ?_
  refine zs_getv (x := (sV S 1001 687)) (n := 131) dX16_nextDay_128 gf_X16_324 (hR.kd (lvM h4 (by omega))) (hR.iv (lvM h4 (by omega)) (by decide) (by decide)) rfl ?_
  refine zs_iconst (v := 1) (n := 132) dX16_nextDay_131 (by decide) rfl ?_
  refine zs_iadd (n := 133) dX16_nextDay_132 rfl ?_
  refine zw_i (r := 1001) (n := 136) dX16_nextDay_133 pf_X16_nextDay_324 hR (lvM h4 (by omega)) (hR.kd (lvM h4 (by omega))) ⟨rfl, rfl⟩ (by decide) rfl ?_
  intro M hR hv
  refine zs_aload_n (n := 137) dX16_nextDay_136 rfl rfl ?_
  refine zs_getv (x := ((sV S 1001 687) + (1 : Int32))) (n := 140) dX16_nextDay_137 gf_X16_324 (hR.kd (lvM h4 (by omega))) (hR.iv (lvM h4 (by omega)) (by decide) (by decide)) rfl ?_
  refine zs_ireturn dX16_nextDay_140 ⟨_, rfl, rfl⟩ ?_
  exact hQ _ _ hR ⟨rfl, rfl, rfl, rfl⟩
theorem k_nxt1 (hR : zRp Z Λ S M) (h4 : sc S 4 = 1) (h11 : sc S 6 = 11) (hQ : ∀ Λ' M', zRp Z Λ' (cset (sc S) 6 10, u2 (dSh (sV S)) 1001 687 (sV S 1001 687 + 1), sW S, sT S, sP S) M' → zSame Λ Λ' → Q (.inl (some (.int (sV S 1001 687 + 1)))) M') : zX Z l 6 mth_X16_nextDay 99 [(0, .ref (Λ 1001))] [] M 0 0 Q := by
  refine zs_aload_n (n := 100) dX16_nextDay_99 rfl rfl ?_
  refine zs_getr (b := (Λ 1023)) (n := 103) dX16_nextDay_100 gf_X16_25 (hR.kd (lvM h4 (by omega))) (hR.pt (lvM h4 (by omega)) rfl (by decide)) rfl ?_
  refine zc_size (c := sc S 6) (n := 106) dX16_nextDay_103 ml_X16_46 (hR.lD' h4) (by simp) (by omega) rfl ?_
  refine zs_bipush (v := 10) (n := 108) dX16_nextDay_106 (by decide) rfl ?_
  refine zs_icmp_le (tgt := 126) (n := 111) dX16_nextDay_108 (by decide) rfl (fun h => absurd h (by rw [h11]; decide)) (fun _ => ?_)
  refine zs_aload_n (n := 112) dX16_nextDay_111 rfl rfl ?_
  refine zs_getr (b := (Λ 1023)) (n := 115) dX16_nextDay_112 gf_X16_25 (hR.kd (lvM h4 (by omega))) (hR.pt (lvM h4 (by omega)) rfl (by decide)) rfl ?_
  refine zs_iconst (v := 0) (n := 116) dX16_nextDay_115 (by decide) rfl ?_
  refine zw_remD (n := 119) rfl dX16_nextDay_116 ml_X16_321 hR h4 h11 (by simp) (by omega) rfl ?_
  intro Λ M v9 hR hS hv9
  rw [← hS.2.1]
  refine zs_castJ (n := 122) dX16_nextDay_119 cl_X16_147 hv9 rfl ?_
  refine zc_intValue (n := 125) dX16_nextDay_122 ml_X16_156 hv9 (by simp) (by omega) rfl ?_
  refine zs_istore_n (n := 126) dX16_nextDay_125 (by decide) rfl ?_
  refine zs_aload_n (n := 127) dX16_nextDay_126 rfl rfl ?_
  refine zs_dup (n := 128) dX16_nextDay_127 rfl rfl ?_
  refine zs_getv (x := (sV (cset (sc S) 6 10, dSh (sV S), sW S, sT S, sP S) 1001 687)) (n := 131) dX16_nextDay_128 gf_X16_324 (hR.kd (lvM h4 (by omega))) (hR.iv (lvM h4 (by omega)) (by decide) (by decide)) rfl ?_
  refine zs_iconst (v := 1) (n := 132) dX16_nextDay_131 (by decide) rfl ?_
  refine zs_iadd (n := 133) dX16_nextDay_132 rfl ?_
  refine zw_i (r := 1001) (n := 136) dX16_nextDay_133 pf_X16_nextDay_324 hR (lvM h4 (by omega)) (hR.kd (lvM h4 (by omega))) ⟨rfl, rfl⟩ (by decide) rfl ?_
  intro M hR hv
  refine zs_aload_n (n := 137) dX16_nextDay_136 rfl rfl ?_
  refine zs_getv (x := ((sV (cset (sc S) 6 10, dSh (sV S), sW S, sT S, sP S) 1001 687) + (1 : Int32))) (n := 140) dX16_nextDay_137 gf_X16_324 (hR.kd (lvM h4 (by omega))) (hR.iv (lvM h4 (by omega)) (by decide) (by decide)) rfl ?_
  refine zs_ireturn dX16_nextDay_140 ⟨_, rfl, rfl⟩ ?_
  exact hQ _ _ hR hS
theorem k_nxtA (hR : zRp Z Λ S M) (h4 : sc S 4 = 1) (hp : ¬ sV S 1001 680 = 0) (h10 : sc S 6 ≤ 10) (kk : ∀ Λ' M', zRp Z Λ' (dNx2 S) M' → zSame Λ Λ' → zX Z l 6 mth_X16_nextDay 99 [(0, .ref (Λ' 1001))] [] M' 0 0 Q) : zX Z l 6 mth_X16_nextDay 0 (lv_args 0 [.ref (Λ 1001)]) [] M 3 20 Q := by
  show zX Z l 6 mth_X16_nextDay 0 [(0, .ref (Λ 1001))] [] M 3 20 Q
  have hb6 : sc S 1000 ≤ 6 := hR.bnd.2.1.1
  refine zs_aload_n (n := 1) dX16_nextDay_0 rfl rfl ?_
  refine zs_aload_n (n := 2) dX16_nextDay_1 rfl rfl ?_
  refine zs_getv (x := (sV S 1001 680)) (n := 5) dX16_nextDay_2 gf_X16_161 (hR.kd (lvM h4 (by omega))) (hR.iv (lvM h4 (by omega)) (by decide) (by decide)) rfl ?_
  refine zs_if_eq (tgt := 12) (n := 8) dX16_nextDay_5 (by decide) rfl (fun h => absurd h hp) (fun _ => ?_)
  refine zs_iconst (v := 0) (n := 9) dX16_nextDay_8 (by decide) rfl ?_
  refine zs_goto (tgt := 13) dX16_nextDay_9 (by decide) ?_
  refine zw_i (r := 1001) (n := 16) dX16_nextDay_13 pf_X16_nextDay_43 hR (lvM h4 (by omega)) (hR.kd (lvM h4 (by omega))) ⟨rfl, rfl⟩ (by decide) rfl ?_
  intro M hR hv
  refine zs_aload_n (n := 17) dX16_nextDay_16 rfl rfl ?_
  refine zs_getv (x := (0 : Int32)) (n := 20) dX16_nextDay_17 gf_X16_43 (hR.kd (lvM h4 (by omega))) (hR.iv (lvM h4 (by omega)) (by decide) (by decide)) rfl ?_
  refine zs_if_le (tgt := 25) (n := 23) dX16_nextDay_20 (by decide) rfl (fun _ => ?_) (fun h => absurd (by decide) h)
  refine zs_aload_n (n := 26) dX16_nextDay_25 rfl rfl ?_
  refine zs_getr (b := (Λ 1015)) (n := 29) dX16_nextDay_26 gf_X16_10 (hR.kd (lvM h4 (by omega))) (hR.pt (lvM h4 (by omega)) rfl (by decide)) rfl ?_
  refine zi_new (r := 1015) (nc1 := 2) (ns1 := 16) (n := 32) 3000 dX16_nextDay_29 rfl hR (lvM h4 (by omega)) rfl (by decide) (by simp) (by omega) (by omega) (by omega) rfl ?_
  intro q29 M hR1 hI29 hq29 hag29
  have hR := hR1
  refine zs_astore_n (n := 33) dX16_nextDay_32 (by decide) rfl ?_
  refine zX.sub (L' := [(0, .ref (Λ 1001)), (1, .ref q29)]) ⟨rfl, rfl, trivial⟩ ?_
  refine zloop (n := sc S 1000) (X := fun j => ∀ M, zRp Z Λ (wC (mT S 0) (fClrM j (sc (mT S 0)))) M ∧ zIt M q29 (Λ 1015) j 3000 → zX Z l 6 mth_X16_nextDay 33 [(0, .ref (Λ 1001)), (1, .ref q29)] [] M 2 16 Q) (fun j hj ih => ?_) ?_ 0 (Nat.zero_le _) M ?_
  · intro M hR9
    obtain ⟨hR, hI29⟩ := hR9
    have e0 : fClrM j (sc (mT S 0)) 1000 = sc S 1000 := fClrM_lo (Or.inl (by decide)) _ (by omega)
    have h4a := h4
    have h4 : sc (wC (mT S 0) (fClrM j (sc (mT S 0)))) 4 = 1 := (fClrM_lo (Or.inl (by decide)) _ (by omega)).trans h4a
    have hc0 : zct (sc (wC (mT S 0) (fClrM j (sc (mT S 0))))) 1015 = sc S 1000 := e0
    have hjx : j < sc (wC (mT S 0) (fClrM j (sc (mT S 0)))) 1000 := by rw [show sc (wC (mT S 0) (fClrM j (sc (mT S 0)))) 1000 = sc S 1000 from e0]; exact hj
    refine zs_aload_n (n := 34) dX16_nextDay_33 rfl rfl ?_
    refine zi_has (r := 1015) (j := j) (n := 39) dX16_nextDay_34 rfl hR (lvM h4 (by omega)) rfl hI29 (by rw [hc0]; omega) (by simp) (by omega) rfl ?_
    rw [hc0]
    refine zs_if_eq (tgt := 62) (n := 42) dX16_nextDay_39 (by decide) rfl (fun h => absurd h (zb1.mpr (by rw [decide_eq_false (by omega)]; rfl))) (fun _ => ?_)
    refine zs_aload_n (n := 43) dX16_nextDay_42 rfl rfl ?_
    refine zi_next (r := 1015) (j := j) (b := (Λ (1100 + j))) (n := 48) dX16_nextDay_43 rfl hR (lvM h4 (by omega)) rfl hI29 (by rw [hc0]; exact hj) rfl (by simp) (by omega) rfl ?_
    intro M hR1 hI29n hag43
    have hI29 := hI29n
    have hR := hR1
    refine zs_castS (ci := 18) (n := 51) dX16_nextDay_48 rfl cl_X16_68 (hR.kP' hjx) rfl ?_
    refine zs_astore_n (n := 52) dX16_nextDay_51 (by decide) rfl ?_
    refine zs_aload_n (n := 53) dX16_nextDay_52 rfl rfl ?_
    refine zs_getr (b := (Λ (1120 + j))) (n := 56) dX16_nextDay_53 gf_X16_164 (hR.kP' hjx) (hR.pT' hjx) rfl ?_
    refine zw_clrTi (n := 59) dX16_nextDay_56 ml_X16_140 hR h4 hjx hI29 (by simp) (by omega) rfl ?_
    intro M hR hI29
    refine zs_goto (tgt := 33) dX16_nextDay_59 (by decide) ?_
    refine zX.sub (L' := [(0, .ref (Λ 1001)), (1, .ref q29)]) ⟨rfl, rfl, trivial⟩ ?_
    exact ih M ⟨hR, hI29⟩
  · intro M hR9
    obtain ⟨hR, hI29⟩ := hR9
    have e0 : fClrM (sc S 1000) (sc (mT S 0)) 1000 = sc S 1000 := fClrM_lo (Or.inl (by decide)) _ (by omega)
    have h4a := h4
    have h4 : sc (wC (mT S 0) (fClrM (sc S 1000) (sc (mT S 0)))) 4 = 1 := (fClrM_lo (Or.inl (by decide)) _ (by omega)).trans h4a
    have hc0 : zct (sc (wC (mT S 0) (fClrM (sc S 1000) (sc (mT S 0))))) 1015 = sc S 1000 := e0
    refine zs_aload_n (n := 34) dX16_nextDay_33 rfl rfl ?_
    refine zi_has (r := 1015) (j := sc S 1000) (n := 39) dX16_nextDay_34 rfl hR (lvM h4 (by omega)) rfl hI29 (by rw [hc0]; omega) (by simp) (by omega) rfl ?_
    rw [hc0]
    refine zs_if_eq (tgt := 62) (n := 42) dX16_nextDay_39 (by decide) rfl (fun _ => ?_) (fun h => absurd (zb0.mpr (by rw [decide_eq_true rfl]; rfl)) h)
    refine zs_aload_n (n := 63) dX16_nextDay_62 rfl rfl ?_
    refine zs_getr (b := (Λ 1019)) (n := 66) dX16_nextDay_63 gf_X16_19 (hR.kd (lvM h4 (by omega))) (hR.pt (lvM h4 (by omega)) rfl (by decide)) rfl ?_
    refine zw_clrV' (n := 69) dX16_nextDay_66 ml_X16_140 hR h4 (by simp) (by omega) rfl ?_
    intro M hR
    have h6 : fClrM (sc S 1000) (sc S) 6 = sc S 6 := fClrM_lo (Or.inl (by decide)) _ (by omega)
    refine zs_aload_n (n := 70) dX16_nextDay_69 rfl rfl ?_
    refine zs_iconst (v := 0) (n := 71) dX16_nextDay_70 (by decide) rfl ?_
    refine zw_i (r := 1001) (n := 74) dX16_nextDay_71 pf_X16_nextDay_189 hR (lvM h4 (by omega)) (hR.kd (lvM h4 (by omega))) ⟨rfl, rfl⟩ (by decide) rfl ?_
    intro M hR hv
    refine zs_aload_n (n := 75) dX16_nextDay_74 rfl rfl ?_
    refine zs_iconst (v := -1) (n := 76) dX16_nextDay_75 (by decide) rfl ?_
    refine zw_i (r := 1001) (n := 79) dX16_nextDay_76 pf_X16_nextDay_37 hR (lvM h4 (by omega)) (hR.kd (lvM h4 (by omega))) ⟨rfl, rfl⟩ (by decide) rfl ?_
    intro M hR hv
    refine zs_aload_n (n := 80) dX16_nextDay_79 rfl rfl ?_
    refine zs_iconst (v := 0) (n := 81) dX16_nextDay_80 (by decide) rfl ?_
    refine zw_i (r := 1001) (n := 84) dX16_nextDay_81 pf_X16_nextDay_161 hR (lvM h4 (by omega)) (hR.kd (lvM h4 (by omega))) ⟨rfl, rfl⟩ (by decide) rfl ?_
    intro M hR hv
    refine zs_aload_n (n := 85) dX16_nextDay_84 rfl rfl ?_
    refine zs_getr (b := (Λ 1023)) (n := 88) dX16_nextDay_85 gf_X16_25 (hR.kd (lvM h4 (by omega))) (hR.pt (lvM h4 (by omega)) rfl (by decide)) rfl ?_
    refine zs_aload_n (n := 89) dX16_nextDay_88 rfl rfl ?_
    refine zs_getv (x := (sV (cset (sc (wC (mT S 0) (fClrM (sc S 1000) (sc (mT S 0))))) 1002 0, sV (wC (mT S 0) (fClrM (sc S 1000) (sc (mT S 0)))), sW (wC (mT S 0) (fClrM (sc S 1000) (sc (mT S 0)))), sT (wC (mT S 0) (fClrM (sc S 1000) (sc (mT S 0)))), sP (wC (mT S 0) (fClrM (sc S 1000) (sc (mT S 0))))) 1001 688)) (n := 92) dX16_nextDay_89 gf_X16_269 (hR.kd (lvM h4 (by omega))) (hR.iv (lvM h4 (by omega)) (by decide) (by decide)) rfl ?_
    refine zw_valueOf (nc1 := 1) (ns1 := 15) (n := 95) 0 dX16_nextDay_92 ml_X16_146 hR (by simp) (by omega) (by omega) (by omega) rfl (fun v8 M hR hv8 hx8 => ?_)
    have h6b : sc (sc (sc (sc (cset (sc (wC (mT S 0) (fClrM (sc S 1000) (sc (mT S 0))))) 1002 0, sV (wC (mT S 0) (fClrM (sc S 1000) (sc (mT S 0)))), sW (wC (mT S 0) (fClrM (sc S 1000) (sc (mT S 0)))), sT (wC (mT S 0) (fClrM (sc S 1000) (sc (mT S 0)))), sP (wC (mT S 0) (fClrM (sc S 1000) (sc (mT S 0))))), u2 (sV (cset (sc (wC (mT S 0) (fClrM (sc S 1000) (sc (mT S 0))))) 1002 0, sV (wC (mT S 0) (fClrM (sc S 1000) (sc (mT S 0)))), sW (wC (mT S 0) (fClrM (sc S 1000) (sc (mT S 0)))), sT (wC (mT S 0) (fClrM (sc S 1000) (sc (mT S 0)))), sP (wC (mT S 0) (fClrM (sc S 1000) (sc (mT S 0)))))) 1001 682 (0 : Int32), sW (cset (sc (wC (mT S 0) (fClrM (sc S 1000) (sc (mT S 0))))) 1002 0, sV (wC (mT S 0) (fClrM (sc S 1000) (sc (mT S 0)))), sW (wC (mT S 0) (fClrM (sc S 1000) (sc (mT S 0)))), sT (wC (mT S 0) (fClrM (sc S 1000) (sc (mT S 0)))), sP (wC (mT S 0) (fClrM (sc S 1000) (sc (mT S 0))))), sT (cset (sc (wC (mT S 0) (fClrM (sc S 1000) (sc (mT S 0))))) 1002 0, sV (wC (mT S 0) (fClrM (sc S 1000) (sc (mT S 0)))), sW (wC (mT S 0) (fClrM (sc S 1000) (sc (mT S 0)))), sT (wC (mT S 0) (fClrM (sc S 1000) (sc (mT S 0)))), sP (wC (mT S 0) (fClrM (sc S 1000) (sc (mT S 0))))), sP (cset (sc (wC (mT S 0) (fClrM (sc S 1000) (sc (mT S 0))))) 1002 0, sV (wC (mT S 0) (fClrM (sc S 1000) (sc (mT S 0)))), sW (wC (mT S 0) (fClrM (sc S 1000) (sc (mT S 0)))), sT (wC (mT S 0) (fClrM (sc S 1000) (sc (mT S 0)))), sP (wC (mT S 0) (fClrM (sc S 1000) (sc (mT S 0)))))), u2 (sV (sc (cset (sc (wC (mT S 0) (fClrM (sc S 1000) (sc (mT S 0))))) 1002 0, sV (wC (mT S 0) (fClrM (sc S 1000) (sc (mT S 0)))), sW (wC (mT S 0) (fClrM (sc S 1000) (sc (mT S 0)))), sT (wC (mT S 0) (fClrM (sc S 1000) (sc (mT S 0)))), sP (wC (mT S 0) (fClrM (sc S 1000) (sc (mT S 0))))), u2 (sV (cset (sc (wC (mT S 0) (fClrM (sc S 1000) (sc (mT S 0))))) 1002 0, sV (wC (mT S 0) (fClrM (sc S 1000) (sc (mT S 0)))), sW (wC (mT S 0) (fClrM (sc S 1000) (sc (mT S 0)))), sT (wC (mT S 0) (fClrM (sc S 1000) (sc (mT S 0)))), sP (wC (mT S 0) (fClrM (sc S 1000) (sc (mT S 0)))))) 1001 682 (0 : Int32), sW (cset (sc (wC (mT S 0) (fClrM (sc S 1000) (sc (mT S 0))))) 1002 0, sV (wC (mT S 0) (fClrM (sc S 1000) (sc (mT S 0)))), sW (wC (mT S 0) (fClrM (sc S 1000) (sc (mT S 0)))), sT (wC (mT S 0) (fClrM (sc S 1000) (sc (mT S 0)))), sP (wC (mT S 0) (fClrM (sc S 1000) (sc (mT S 0))))), sT (cset (sc (wC (mT S 0) (fClrM (sc S 1000) (sc (mT S 0))))) 1002 0, sV (wC (mT S 0) (fClrM (sc S 1000) (sc (mT S 0)))), sW (wC (mT S 0) (fClrM (sc S 1000) (sc (mT S 0)))), sT (wC (mT S 0) (fClrM (sc S 1000) (sc (mT S 0)))), sP (wC (mT S 0) (fClrM (sc S 1000) (sc (mT S 0))))), sP (cset (sc (wC (mT S 0) (fClrM (sc S 1000) (sc (mT S 0))))) 1002 0, sV (wC (mT S 0) (fClrM (sc S 1000) (sc (mT S 0)))), sW (wC (mT S 0) (fClrM (sc S 1000) (sc (mT S 0)))), sT (wC (mT S 0) (fClrM (sc S 1000) (sc (mT S 0)))), sP (wC (mT S 0) (fClrM (sc S 1000) (sc (mT S 0))))))) 1001 683 (-1 : Int32), sW (sc (cset (sc (wC (mT S 0) (fClrM (sc S 1000) (sc (mT S 0))))) 1002 0, sV (wC (mT S 0) (fClrM (sc S 1000) (sc (mT S 0)))), sW (wC (mT S 0) (fClrM (sc S 1000) (sc (mT S 0)))), sT (wC (mT S 0) (fClrM (sc S 1000) (sc (mT S 0)))), sP (wC (mT S 0) (fClrM (sc S 1000) (sc (mT S 0))))), u2 (sV (cset (sc (wC (mT S 0) (fClrM (sc S 1000) (sc (mT S 0))))) 1002 0, sV (wC (mT S 0) (fClrM (sc S 1000) (sc (mT S 0)))), sW (wC (mT S 0) (fClrM (sc S 1000) (sc (mT S 0)))), sT (wC (mT S 0) (fClrM (sc S 1000) (sc (mT S 0)))), sP (wC (mT S 0) (fClrM (sc S 1000) (sc (mT S 0)))))) 1001 682 (0 : Int32), sW (cset (sc (wC (mT S 0) (fClrM (sc S 1000) (sc (mT S 0))))) 1002 0, sV (wC (mT S 0) (fClrM (sc S 1000) (sc (mT S 0)))), sW (wC (mT S 0) (fClrM (sc S 1000) (sc (mT S 0)))), sT (wC (mT S 0) (fClrM (sc S 1000) (sc (mT S 0)))), sP (wC (mT S 0) (fClrM (sc S 1000) (sc (mT S 0))))), sT (cset (sc (wC (mT S 0) (fClrM (sc S 1000) (sc (mT S 0))))) 1002 0, sV (wC (mT S 0) (fClrM (sc S 1000) (sc (mT S 0)))), sW (wC (mT S 0) (fClrM (sc S 1000) (sc (mT S 0)))), sT (wC (mT S 0) (fClrM (sc S 1000) (sc (mT S 0)))), sP (wC (mT S 0) (fClrM (sc S 1000) (sc (mT S 0))))), sP (cset (sc (wC (mT S 0) (fClrM (sc S 1000) (sc (mT S 0))))) 1002 0, sV (wC (mT S 0) (fClrM (sc S 1000) (sc (mT S 0)))), sW (wC (mT S 0) (fClrM (sc S 1000) (sc (mT S 0)))), sT (wC (mT S 0) (fClrM (sc S 1000) (sc (mT S 0)))), sP (wC (mT S 0) (fClrM (sc S 1000) (sc (mT S 0)))))), sT (sc (cset (sc (wC (mT S 0) (fClrM (sc S 1000) (sc (mT S 0))))) 1002 0, sV (wC (mT S 0) (fClrM (sc S 1000) (sc (mT S 0)))), sW (wC (mT S 0) (fClrM (sc S 1000) (sc (mT S 0)))), sT (wC (mT S 0) (fClrM (sc S 1000) (sc (mT S 0)))), sP (wC (mT S 0) (fClrM (sc S 1000) (sc (mT S 0))))), u2 (sV (cset (sc (wC (mT S 0) (fClrM (sc S 1000) (sc (mT S 0))))) 1002 0, sV (wC (mT S 0) (fClrM (sc S 1000) (sc (mT S 0)))), sW (wC (mT S 0) (fClrM (sc S 1000) (sc (mT S 0)))), sT (wC (mT S 0) (fClrM (sc S 1000) (sc (mT S 0)))), sP (wC (mT S 0) (fClrM (sc S 1000) (sc (mT S 0)))))) 1001 682 (0 : Int32), sW (cset (sc (wC (mT S 0) (fClrM (sc S 1000) (sc (mT S 0))))) 1002 0, sV (wC (mT S 0) (fClrM (sc S 1000) (sc (mT S 0)))), sW (wC (mT S 0) (fClrM (sc S 1000) (sc (mT S 0)))), sT (wC (mT S 0) (fClrM (sc S 1000) (sc (mT S 0)))), sP (wC (mT S 0) (fClrM (sc S 1000) (sc (mT S 0))))), sT (cset (sc (wC (mT S 0) (fClrM (sc S 1000) (sc (mT S 0))))) 1002 0, sV (wC (mT S 0) (fClrM (sc S 1000) (sc (mT S 0)))), sW (wC (mT S 0) (fClrM (sc S 1000) (sc (mT S 0)))), sT (wC (mT S 0) (fClrM (sc S 1000) (sc (mT S 0)))), sP (wC (mT S 0) (fClrM (sc S 1000) (sc (mT S 0))))), sP (cset (sc (wC (mT S 0) (fClrM (sc S 1000) (sc (mT S 0))))) 1002 0, sV (wC (mT S 0) (fClrM (sc S 1000) (sc (mT S 0)))), sW (wC (mT S 0) (fClrM (sc S 1000) (sc (mT S 0)))), sT (wC (mT S 0) (fClrM (sc S 1000) (sc (mT S 0)))), sP (wC (mT S 0) (fClrM (sc S 1000) (sc (mT S 0)))))), sP (sc (cset (sc (wC (mT S 0) (fClrM (sc S 1000) (sc (mT S 0))))) 1002 0, sV (wC (mT S 0) (fClrM (sc S 1000) (sc (mT S 0)))), sW (wC (mT S 0) (fClrM (sc S 1000) (sc (mT S 0)))), sT (wC (mT S 0) (fClrM (sc S 1000) (sc (mT S 0)))), sP (wC (mT S 0) (fClrM (sc S 1000) (sc (mT S 0))))), u2 (sV (cset (sc (wC (mT S 0) (fClrM (sc S 1000) (sc (mT S 0))))) 1002 0, sV (wC (mT S 0) (fClrM (sc S 1000) (sc (mT S 0)))), sW (wC (mT S 0) (fClrM (sc S 1000) (sc (mT S 0)))), sT (wC (mT S 0) (fClrM (sc S 1000) (sc (mT S 0)))), sP (wC (mT S 0) (fClrM (sc S 1000) (sc (mT S 0)))))) 1001 682 (0 : Int32), sW (cset (sc (wC (mT S 0) (fClrM (sc S 1000) (sc (mT S 0))))) 1002 0, sV (wC (mT S 0) (fClrM (sc S 1000) (sc (mT S 0)))), sW (wC (mT S 0) (fClrM (sc S 1000) (sc (mT S 0)))), sT (wC (mT S 0) (fClrM (sc S 1000) (sc (mT S 0)))), sP (wC (mT S 0) (fClrM (sc S 1000) (sc (mT S 0))))), sT (cset (sc (wC (mT S 0) (fClrM (sc S 1000) (sc (mT S 0))))) 1002 0, sV (wC (mT S 0) (fClrM (sc S 1000) (sc (mT S 0)))), sW (wC (mT S 0) (fClrM (sc S 1000) (sc (mT S 0)))), sT (wC (mT S 0) (fClrM (sc S 1000) (sc (mT S 0)))), sP (wC (mT S 0) (fClrM (sc S 1000) (sc (mT S 0))))), sP (cset (sc (wC (mT S 0) (fClrM (sc S 1000) (sc (mT S 0))))) 1002 0, sV (wC (mT S 0) (fClrM (sc S 1000) (sc (mT S 0)))), sW (wC (mT S 0) (fClrM (sc S 1000) (sc (mT S 0)))), sT (wC (mT S 0) (fClrM (sc S 1000) (sc (mT S 0)))), sP (wC (mT S 0) (fClrM (sc S 1000) (sc (mT S 0))))))), u2 (sV (sc (sc (cset (sc (wC (mT S 0) (fClrM (sc S 1000) (sc (mT S 0))))) 1002 0, sV (wC (mT S 0) (fClrM (sc S 1000) (sc (mT S 0)))), sW (wC (mT S 0) (fClrM (sc S 1000) (sc (mT S 0)))), sT (wC (mT S 0) (fClrM (sc S 1000) (sc (mT S 0)))), sP (wC (mT S 0) (fClrM (sc S 1000) (sc (mT S 0))))), u2 (sV (cset (sc (wC (mT S 0) (fClrM (sc S 1000) (sc (mT S 0))))) 1002 0, sV (wC (mT S 0) (fClrM (sc S 1000) (sc (mT S 0)))), sW (wC (mT S 0) (fClrM (sc S 1000) (sc (mT S 0)))), sT (wC (mT S 0) (fClrM (sc S 1000) (sc (mT S 0)))), sP (wC (mT S 0) (fClrM (sc S 1000) (sc (mT S 0)))))) 1001 682 (0 : Int32), sW (cset (sc (wC (mT S 0) (fClrM (sc S 1000) (sc (mT S 0))))) 1002 0, sV (wC (mT S 0) (fClrM (sc S 1000) (sc (mT S 0)))), sW (wC (mT S 0) (fClrM (sc S 1000) (sc (mT S 0)))), sT (wC (mT S 0) (fClrM (sc S 1000) (sc (mT S 0)))), sP (wC (mT S 0) (fClrM (sc S 1000) (sc (mT S 0))))), sT (cset (sc (wC (mT S 0) (fClrM (sc S 1000) (sc (mT S 0))))) 1002 0, sV (wC (mT S 0) (fClrM (sc S 1000) (sc (mT S 0)))), sW (wC (mT S 0) (fClrM (sc S 1000) (sc (mT S 0)))), sT (wC (mT S 0) (fClrM (sc S 1000) (sc (mT S 0)))), sP (wC (mT S 0) (fClrM (sc S 1000) (sc (mT S 0))))), sP (cset (sc (wC (mT S 0) (fClrM (sc S 1000) (sc (mT S 0))))) 1002 0, sV (wC (mT S 0) (fClrM (sc S 1000) (sc (mT S 0)))), sW (wC (mT S 0) (fClrM (sc S 1000) (sc (mT S 0)))), sT (wC (mT S 0) (fClrM (sc S 1000) (sc (mT S 0)))), sP (wC (mT S 0) (fClrM (sc S 1000) (sc (mT S 0)))))), u2 (sV (sc (cset (sc (wC (mT S 0) (fClrM (sc S 1000) (sc (mT S 0))))) 1002 0, sV (wC (mT S 0) (fClrM (sc S 1000) (sc (mT S 0)))), sW (wC (mT S 0) (fClrM (sc S 1000) (sc (mT S 0)))), sT (wC (mT S 0) (fClrM (sc S 1000) (sc (mT S 0)))), sP (wC (mT S 0) (fClrM (sc S 1000) (sc (mT S 0))))), u2 (sV (cset (sc (wC (mT S 0) (fClrM (sc S 1000) (sc (mT S 0))))) 1002 0, sV (wC (mT S 0) (fClrM (sc S 1000) (sc (mT S 0)))), sW (wC (mT S 0) (fClrM (sc S 1000) (sc (mT S 0)))), sT (wC (mT S 0) (fClrM (sc S 1000) (sc (mT S 0)))), sP (wC (mT S 0) (fClrM (sc S 1000) (sc (mT S 0)))))) 1001 682 (0 : Int32), sW (cset (sc (wC (mT S 0) (fClrM (sc S 1000) (sc (mT S 0))))) 1002 0, sV (wC (mT S 0) (fClrM (sc S 1000) (sc (mT S 0)))), sW (wC (mT S 0) (fClrM (sc S 1000) (sc (mT S 0)))), sT (wC (mT S 0) (fClrM (sc S 1000) (sc (mT S 0)))), sP (wC (mT S 0) (fClrM (sc S 1000) (sc (mT S 0))))), sT (cset (sc (wC (mT S 0) (fClrM (sc S 1000) (sc (mT S 0))))) 1002 0, sV (wC (mT S 0) (fClrM (sc S 1000) (sc (mT S 0)))), sW (wC (mT S 0) (fClrM (sc S 1000) (sc (mT S 0)))), sT (wC (mT S 0) (fClrM (sc S 1000) (sc (mT S 0)))), sP (wC (mT S 0) (fClrM (sc S 1000) (sc (mT S 0))))), sP (cset (sc (wC (mT S 0) (fClrM (sc S 1000) (sc (mT S 0))))) 1002 0, sV (wC (mT S 0) (fClrM (sc S 1000) (sc (mT S 0)))), sW (wC (mT S 0) (fClrM (sc S 1000) (sc (mT S 0)))), sT (wC (mT S 0) (fClrM (sc S 1000) (sc (mT S 0)))), sP (wC (mT S 0) (fClrM (sc S 1000) (sc (mT S 0))))))) 1001 683 (-1 : Int32), sW (sc (cset (sc (wC (mT S 0) (fClrM (sc S 1000) (sc (mT S 0))))) 1002 0, sV (wC (mT S 0) (fClrM (sc S 1000) (sc (mT S 0)))), sW (wC (mT S 0) (fClrM (sc S 1000) (sc (mT S 0)))), sT (wC (mT S 0) (fClrM (sc S 1000) (sc (mT S 0)))), sP (wC (mT S 0) (fClrM (sc S 1000) (sc (mT S 0))))), u2 (sV (cset (sc (wC (mT S 0) (fClrM (sc S 1000) (sc (mT S 0))))) 1002 0, sV (wC (mT S 0) (fClrM (sc S 1000) (sc (mT S 0)))), sW (wC (mT S 0) (fClrM (sc S 1000) (sc (mT S 0)))), sT (wC (mT S 0) (fClrM (sc S 1000) (sc (mT S 0)))), sP (wC (mT S 0) (fClrM (sc S 1000) (sc (mT S 0)))))) 1001 682 (0 : Int32), sW (cset (sc (wC (mT S 0) (fClrM (sc S 1000) (sc (mT S 0))))) 1002 0, sV (wC (mT S 0) (fClrM (sc S 1000) (sc (mT S 0)))), sW (wC (mT S 0) (fClrM (sc S 1000) (sc (mT S 0)))), sT (wC (mT S 0) (fClrM (sc S 1000) (sc (mT S 0)))), sP (wC (mT S 0) (fClrM (sc S 1000) (sc (mT S 0))))), sT (cset (sc (wC (mT S 0) (fClrM (sc S 1000) (sc (mT S 0))))) 1002 0, sV (wC (mT S 0) (fClrM (sc S 1000) (sc (mT S 0)))), sW (wC (mT S 0) (fClrM (sc S 1000) (sc (mT S 0)))), sT (wC (mT S 0) (fClrM (sc S 1000) (sc (mT S 0)))), sP (wC (mT S 0) (fClrM (sc S 1000) (sc (mT S 0))))), sP (cset (sc (wC (mT S 0) (fClrM (sc S 1000) (sc (mT S 0))))) 1002 0, sV (wC (mT S 0) (fClrM (sc S 1000) (sc (mT S 0)))), sW (wC (mT S 0) (fClrM (sc S 1000) (sc (mT S 0)))), sT (wC (mT S 0) (fClrM (sc S 1000) (sc (mT S 0)))), sP (wC (mT S 0) (fClrM (sc S 1000) (sc (mT S 0)))))), sT (sc (cset (sc (wC (mT S 0) (fClrM (sc S 1000) (sc (mT S 0))))) 1002 0, sV (wC (mT S 0) (fClrM (sc S 1000) (sc (mT S 0)))), sW (wC (mT S 0) (fClrM (sc S 1000) (sc (mT S 0)))), sT (wC (mT S 0) (fClrM (sc S 1000) (sc (mT S 0)))), sP (wC (mT S 0) (fClrM (sc S 1000) (sc (mT S 0))))), u2 (sV (cset (sc (wC (mT S 0) (fClrM (sc S 1000) (sc (mT S 0))))) 1002 0, sV (wC (mT S 0) (fClrM (sc S 1000) (sc (mT S 0)))), sW (wC (mT S 0) (fClrM (sc S 1000) (sc (mT S 0)))), sT (wC (mT S 0) (fClrM (sc S 1000) (sc (mT S 0)))), sP (wC (mT S 0) (fClrM (sc S 1000) (sc (mT S 0)))))) 1001 682 (0 : Int32), sW (cset (sc (wC (mT S 0) (fClrM (sc S 1000) (sc (mT S 0))))) 1002 0, sV (wC (mT S 0) (fClrM (sc S 1000) (sc (mT S 0)))), sW (wC (mT S 0) (fClrM (sc S 1000) (sc (mT S 0)))), sT (wC (mT S 0) (fClrM (sc S 1000) (sc (mT S 0)))), sP (wC (mT S 0) (fClrM (sc S 1000) (sc (mT S 0))))), sT (cset (sc (wC (mT S 0) (fClrM (sc S 1000) (sc (mT S 0))))) 1002 0, sV (wC (mT S 0) (fClrM (sc S 1000) (sc (mT S 0)))), sW (wC (mT S 0) (fClrM (sc S 1000) (sc (mT S 0)))), sT (wC (mT S 0) (fClrM (sc S 1000) (sc (mT S 0)))), sP (wC (mT S 0) (fClrM (sc S 1000) (sc (mT S 0))))), sP (cset (sc (wC (mT S 0) (fClrM (sc S 1000) (sc (mT S 0))))) 1002 0, sV (wC (mT S 0) (fClrM (sc S 1000) (sc (mT S 0)))), sW (wC (mT S 0) (fClrM (sc S 1000) (sc (mT S 0)))), sT (wC (mT S 0) (fClrM (sc S 1000) (sc (mT S 0)))), sP (wC (mT S 0) (fClrM (sc S 1000) (sc (mT S 0)))))), sP (sc (cset (sc (wC (mT S 0) (fClrM (sc S 1000) (sc (mT S 0))))) 1002 0, sV (wC (mT S 0) (fClrM (sc S 1000) (sc (mT S 0)))), sW (wC (mT S 0) (fClrM (sc S 1000) (sc (mT S 0)))), sT (wC (mT S 0) (fClrM (sc S 1000) (sc (mT S 0)))), sP (wC (mT S 0) (fClrM (sc S 1000) (sc (mT S 0))))), u2 (sV (cset (sc (wC (mT S 0) (fClrM (sc S 1000) (sc (mT S 0))))) 1002 0, sV (wC (mT S 0) (fClrM (sc S 1000) (sc (mT S 0)))), sW (wC (mT S 0) (fClrM (sc S 1000) (sc (mT S 0)))), sT (wC (mT S 0) (fClrM (sc S 1000) (sc (mT S 0)))), sP (wC (mT S 0) (fClrM (sc S 1000) (sc (mT S 0)))))) 1001 682 (0 : Int32), sW (cset (sc (wC (mT S 0) (fClrM (sc S 1000) (sc (mT S 0))))) 1002 0, sV (wC (mT S 0) (fClrM (sc S 1000) (sc (mT S 0)))), sW (wC (mT S 0) (fClrM (sc S 1000) (sc (mT S 0)))), sT (wC (mT S 0) (fClrM (sc S 1000) (sc (mT S 0)))), sP (wC (mT S 0) (fClrM (sc S 1000) (sc (mT S 0))))), sT (cset (sc (wC (mT S 0) (fClrM (sc S 1000) (sc (mT S 0))))) 1002 0, sV (wC (mT S 0) (fClrM (sc S 1000) (sc (mT S 0)))), sW (wC (mT S 0) (fClrM (sc S 1000) (sc (mT S 0)))), sT (wC (mT S 0) (fClrM (sc S 1000) (sc (mT S 0)))), sP (wC (mT S 0) (fClrM (sc S 1000) (sc (mT S 0))))), sP (cset (sc (wC (mT S 0) (fClrM (sc S 1000) (sc (mT S 0))))) 1002 0, sV (wC (mT S 0) (fClrM (sc S 1000) (sc (mT S 0)))), sW (wC (mT S 0) (fClrM (sc S 1000) (sc (mT S 0)))), sT (wC (mT S 0) (fClrM (sc S 1000) (sc (mT S 0)))), sP (wC (mT S 0) (fClrM (sc S 1000) (sc (mT S 0)))))))) 1001 680 (0 : Int32), sW (sc (sc (cset (sc (wC (mT S 0) (fClrM (sc S 1000) (sc (mT S 0))))) 1002 0, sV (wC (mT S 0) (fClrM (sc S 1000) (sc (mT S 0)))), sW (wC (mT S 0) (fClrM (sc S 1000) (sc (mT S 0)))), sT (wC (mT S 0) (fClrM (sc S 1000) (sc (mT S 0)))), sP (wC (mT S 0) (fClrM (sc S 1000) (sc (mT S 0))))), u2 (sV (cset (sc (wC (mT S 0) (fClrM (sc S 1000) (sc (mT S 0))))) 1002 0, sV (wC (mT S 0) (fClrM (sc S 1000) (sc (mT S 0)))), sW (wC (mT S 0) (fClrM (sc S 1000) (sc (mT S 0)))), sT (wC (mT S 0) (fClrM (sc S 1000) (sc (mT S 0)))), sP (wC (mT S 0) (fClrM (sc S 1000) (sc (mT S 0)))))) 1001 682 (0 : Int32), sW (cset (sc (wC (mT S 0) (fClrM (sc S 1000) (sc (mT S 0))))) 1002 0, sV (wC (mT S 0) (fClrM (sc S 1000) (sc (mT S 0)))), sW (wC (mT S 0) (fClrM (sc S 1000) (sc (mT S 0)))), sT (wC (mT S 0) (fClrM (sc S 1000) (sc (mT S 0)))), sP (wC (mT S 0) (fClrM (sc S 1000) (sc (mT S 0))))), sT (cset (sc (wC (mT S 0) (fClrM (sc S 1000) (sc (mT S 0))))) 1002 0, sV (wC (mT S 0) (fClrM (sc S 1000) (sc (mT S 0)))), sW (wC (mT S 0) (fClrM (sc S 1000) (sc (mT S 0)))), sT (wC (mT S 0) (fClrM (sc S 1000) (sc (mT S 0)))), sP (wC (mT S 0) (fClrM (sc S 1000) (sc (mT S 0))))), sP (cset (sc (wC (mT S 0) (fClrM (sc S 1000) (sc (mT S 0))))) 1002 0, sV (wC (mT S 0) (fClrM (sc S 1000) (sc (mT S 0)))), sW (wC (mT S 0) (fClrM (sc S 1000) (sc (mT S 0)))), sT (wC (mT S 0) (fClrM (sc S 1000) (sc (mT S 0)))), sP (wC (mT S 0) (fClrM (sc S 1000) (sc (mT S 0)))))), u2 (sV (sc (cset (sc (wC (mT S 0) (fClrM (sc S 1000) (sc (mT S 0))))) 1002 0, sV (wC (mT S 0) (fClrM (sc S 1000) (sc (mT S 0)))), sW (wC (mT S 0) (fClrM (sc S 1000) (sc (mT S 0)))), sT (wC (mT S 0) (fClrM (sc S 1000) (sc (mT S 0)))), sP (wC (mT S 0) (fClrM (sc S 1000) (sc (mT S 0))))), u2 (sV (cset (sc (wC (mT S 0) (fClrM (sc S 1000) (sc (mT S 0))))) 1002 0, sV (wC (mT S 0) (fClrM (sc S 1000) (sc (mT S 0)))), sW (wC (mT S 0) (fClrM (sc S 1000) (sc (mT S 0)))), sT (wC (mT S 0) (fClrM (sc S 1000) (sc (mT S 0)))), sP (wC (mT S 0) (fClrM (sc S 1000) (sc (mT S 0)))))) 1001 682 (0 : Int32), sW (cset (sc (wC (mT S 0) (fClrM (sc S 1000) (sc (mT S 0))))) 1002 0, sV (wC (mT S 0) (fClrM (sc S 1000) (sc (mT S 0)))), sW (wC (mT S 0) (fClrM (sc S 1000) (sc (mT S 0)))), sT (wC (mT S 0) (fClrM (sc S 1000) (sc (mT S 0)))), sP (wC (mT S 0) (fClrM (sc S 1000) (sc (mT S 0))))), sT (cset (sc (wC (mT S 0) (fClrM (sc S 1000) (sc (mT S 0))))) 1002 0, sV (wC (mT S 0) (fClrM (sc S 1000) (sc (mT S 0)))), sW (wC (mT S 0) (fClrM (sc S 1000) (sc (mT S 0)))), sT (wC (mT S 0) (fClrM (sc S 1000) (sc (mT S 0)))), sP (wC (mT S 0) (fClrM (sc S 1000) (sc (mT S 0))))), sP (cset (sc (wC (mT S 0) (fClrM (sc S 1000) (sc (mT S 0))))) 1002 0, sV (wC (mT S 0) (fClrM (sc S 1000) (sc (mT S 0)))), sW (wC (mT S 0) (fClrM (sc S 1000) (sc (mT S 0)))), sT (wC (mT S 0) (fClrM (sc S 1000) (sc (mT S 0)))), sP (wC (mT S 0) (fClrM (sc S 1000) (sc (mT S 0))))))) 1001 683 (-1 : Int32), sW (sc (cset (sc (wC (mT S 0) (fClrM (sc S 1000) (sc (mT S 0))))) 1002 0, sV (wC (mT S 0) (fClrM (sc S 1000) (sc (mT S 0)))), sW (wC (mT S 0) (fClrM (sc S 1000) (sc (mT S 0)))), sT (wC (mT S 0) (fClrM (sc S 1000) (sc (mT S 0)))), sP (wC (mT S 0) (fClrM (sc S 1000) (sc (mT S 0))))), u2 (sV (cset (sc (wC (mT S 0) (fClrM (sc S 1000) (sc (mT S 0))))) 1002 0, sV (wC (mT S 0) (fClrM (sc S 1000) (sc (mT S 0)))), sW (wC (mT S 0) (fClrM (sc S 1000) (sc (mT S 0)))), sT (wC (mT S 0) (fClrM (sc S 1000) (sc (mT S 0)))), sP (wC (mT S 0) (fClrM (sc S 1000) (sc (mT S 0)))))) 1001 682 (0 : Int32), sW (cset (sc (wC (mT S 0) (fClrM (sc S 1000) (sc (mT S 0))))) 1002 0, sV (wC (mT S 0) (fClrM (sc S 1000) (sc (mT S 0)))), sW (wC (mT S 0) (fClrM (sc S 1000) (sc (mT S 0)))), sT (wC (mT S 0) (fClrM (sc S 1000) (sc (mT S 0)))), sP (wC (mT S 0) (fClrM (sc S 1000) (sc (mT S 0))))), sT (cset (sc (wC (mT S 0) (fClrM (sc S 1000) (sc (mT S 0))))) 1002 0, sV (wC (mT S 0) (fClrM (sc S 1000) (sc (mT S 0)))), sW (wC (mT S 0) (fClrM (sc S 1000) (sc (mT S 0)))), sT (wC (mT S 0) (fClrM (sc S 1000) (sc (mT S 0)))), sP (wC (mT S 0) (fClrM (sc S 1000) (sc (mT S 0))))), sP (cset (sc (wC (mT S 0) (fClrM (sc S 1000) (sc (mT S 0))))) 1002 0, sV (wC (mT S 0) (fClrM (sc S 1000) (sc (mT S 0)))), sW (wC (mT S 0) (fClrM (sc S 1000) (sc (mT S 0)))), sT (wC (mT S 0) (fClrM (sc S 1000) (sc (mT S 0)))), sP (wC (mT S 0) (fClrM (sc S 1000) (sc (mT S 0)))))), sT (sc (cset (sc (wC (mT S 0) (fClrM (sc S 1000) (sc (mT S 0))))) 1002 0, sV (wC (mT S 0) (fClrM (sc S 1000) (sc (mT S 0)))), sW (wC (mT S 0) (fClrM (sc S 1000) (sc (mT S 0)))), sT (wC (mT S 0) (fClrM (sc S 1000) (sc (mT S 0)))), sP (wC (mT S 0) (fClrM (sc S 1000) (sc (mT S 0))))), u2 (sV (cset (sc (wC (mT S 0) (fClrM (sc S 1000) (sc (mT S 0))))) 1002 0, sV (wC (mT S 0) (fClrM (sc S 1000) (sc (mT S 0)))), sW (wC (mT S 0) (fClrM (sc S 1000) (sc (mT S 0)))), sT (wC (mT S 0) (fClrM (sc S 1000) (sc (mT S 0)))), sP (wC (mT S 0) (fClrM (sc S 1000) (sc (mT S 0)))))) 1001 682 (0 : Int32), sW (cset (sc (wC (mT S 0) (fClrM (sc S 1000) (sc (mT S 0))))) 1002 0, sV (wC (mT S 0) (fClrM (sc S 1000) (sc (mT S 0)))), sW (wC (mT S 0) (fClrM (sc S 1000) (sc (mT S 0)))), sT (wC (mT S 0) (fClrM (sc S 1000) (sc (mT S 0)))), sP (wC (mT S 0) (fClrM (sc S 1000) (sc (mT S 0))))), sT (cset (sc (wC (mT S 0) (fClrM (sc S 1000) (sc (mT S 0))))) 1002 0, sV (wC (mT S 0) (fClrM (sc S 1000) (sc (mT S 0)))), sW (wC (mT S 0) (fClrM (sc S 1000) (sc (mT S 0)))), sT (wC (mT S 0) (fClrM (sc S 1000) (sc (mT S 0)))), sP (wC (mT S 0) (fClrM (sc S 1000) (sc (mT S 0))))), sP (cset (sc (wC (mT S 0) (fClrM (sc S 1000) (sc (mT S 0))))) 1002 0, sV (wC (mT S 0) (fClrM (sc S 1000) (sc (mT S 0)))), sW (wC (mT S 0) (fClrM (sc S 1000) (sc (mT S 0)))), sT (wC (mT S 0) (fClrM (sc S 1000) (sc (mT S 0)))), sP (wC (mT S 0) (fClrM (sc S 1000) (sc (mT S 0)))))), sP (sc (cset (sc (wC (mT S 0) (fClrM (sc S 1000) (sc (mT S 0))))) 1002 0, sV (wC (mT S 0) (fClrM (sc S 1000) (sc (mT S 0)))), sW (wC (mT S 0) (fClrM (sc S 1000) (sc (mT S 0)))), sT (wC (mT S 0) (fClrM (sc S 1000) (sc (mT S 0)))), sP (wC (mT S 0) (fClrM (sc S 1000) (sc (mT S 0))))), u2 (sV (cset (sc (wC (mT S 0) (fClrM (sc S 1000) (sc (mT S 0))))) 1002 0, sV (wC (mT S 0) (fClrM (sc S 1000) (sc (mT S 0)))), sW (wC (mT S 0) (fClrM (sc S 1000) (sc (mT S 0)))), sT (wC (mT S 0) (fClrM (sc S 1000) (sc (mT S 0)))), sP (wC (mT S 0) (fClrM (sc S 1000) (sc (mT S 0)))))) 1001 682 (0 : Int32), sW (cset (sc (wC (mT S 0) (fClrM (sc S 1000) (sc (mT S 0))))) 1002 0, sV (wC (mT S 0) (fClrM (sc S 1000) (sc (mT S 0)))), sW (wC (mT S 0) (fClrM (sc S 1000) (sc (mT S 0)))), sT (wC (mT S 0) (fClrM (sc S 1000) (sc (mT S 0)))), sP (wC (mT S 0) (fClrM (sc S 1000) (sc (mT S 0))))), sT (cset (sc (wC (mT S 0) (fClrM (sc S 1000) (sc (mT S 0))))) 1002 0, sV (wC (mT S 0) (fClrM (sc S 1000) (sc (mT S 0)))), sW (wC (mT S 0) (fClrM (sc S 1000) (sc (mT S 0)))), sT (wC (mT S 0) (fClrM (sc S 1000) (sc (mT S 0)))), sP (wC (mT S 0) (fClrM (sc S 1000) (sc (mT S 0))))), sP (cset (sc (wC (mT S 0) (fClrM (sc S 1000) (sc (mT S 0))))) 1002 0, sV (wC (mT S 0) (fClrM (sc S 1000) (sc (mT S 0)))), sW (wC (mT S 0) (fClrM (sc S 1000) (sc (mT S 0)))), sT (wC (mT S 0) (fClrM (sc S 1000) (sc (mT S 0)))), sP (wC (mT S 0) (fClrM (sc S 1000) (sc (mT S 0))))))), sT (sc (sc (cset (sc (wC (mT S 0) (fClrM (sc S 1000) (sc (mT S 0))))) 1002 0, sV (wC (mT S 0) (fClrM (sc S 1000) (sc (mT S 0)))), sW (wC (mT S 0) (fClrM (sc S 1000) (sc (mT S 0)))), sT (wC (mT S 0) (fClrM (sc S 1000) (sc (mT S 0)))), sP (wC (mT S 0) (fClrM (sc S 1000) (sc (mT S 0))))), u2 (sV (cset (sc (wC (mT S 0) (fClrM (sc S 1000) (sc (mT S 0))))) 1002 0, sV (wC (mT S 0) (fClrM (sc S 1000) (sc (mT S 0)))), sW (wC (mT S 0) (fClrM (sc S 1000) (sc (mT S 0)))), sT (wC (mT S 0) (fClrM (sc S 1000) (sc (mT S 0)))), sP (wC (mT S 0) (fClrM (sc S 1000) (sc (mT S 0)))))) 1001 682 (0 : Int32), sW (cset (sc (wC (mT S 0) (fClrM (sc S 1000) (sc (mT S 0))))) 1002 0, sV (wC (mT S 0) (fClrM (sc S 1000) (sc (mT S 0)))), sW (wC (mT S 0) (fClrM (sc S 1000) (sc (mT S 0)))), sT (wC (mT S 0) (fClrM (sc S 1000) (sc (mT S 0)))), sP (wC (mT S 0) (fClrM (sc S 1000) (sc (mT S 0))))), sT (cset (sc (wC (mT S 0) (fClrM (sc S 1000) (sc (mT S 0))))) 1002 0, sV (wC (mT S 0) (fClrM (sc S 1000) (sc (mT S 0)))), sW (wC (mT S 0) (fClrM (sc S 1000) (sc (mT S 0)))), sT (wC (mT S 0) (fClrM (sc S 1000) (sc (mT S 0)))), sP (wC (mT S 0) (fClrM (sc S 1000) (sc (mT S 0))))), sP (cset (sc (wC (mT S 0) (fClrM (sc S 1000) (sc (mT S 0))))) 1002 0, sV (wC (mT S 0) (fClrM (sc S 1000) (sc (mT S 0)))), sW (wC (mT S 0) (fClrM (sc S 1000) (sc (mT S 0)))), sT (wC (mT S 0) (fClrM (sc S 1000) (sc (mT S 0)))), sP (wC (mT S 0) (fClrM (sc S 1000) (sc (mT S 0)))))), u2 (sV (sc (cset (sc (wC (mT S 0) (fClrM (sc S 1000) (sc (mT S 0))))) 1002 0, sV (wC (mT S 0) (fClrM (sc S 1000) (sc (mT S 0)))), sW (wC (mT S 0) (fClrM (sc S 1000) (sc (mT S 0)))), sT (wC (mT S 0) (fClrM (sc S 1000) (sc (mT S 0)))), sP (wC (mT S 0) (fClrM (sc S 1000) (sc (mT S 0))))), u2 (sV (cset (sc (wC (mT S 0) (fClrM (sc S 1000) (sc (mT S 0))))) 1002 0, sV (wC (mT S 0) (fClrM (sc S 1000) (sc (mT S 0)))), sW (wC (mT S 0) (fClrM (sc S 1000) (sc (mT S 0)))), sT (wC (mT S 0) (fClrM (sc S 1000) (sc (mT S 0)))), sP (wC (mT S 0) (fClrM (sc S 1000) (sc (mT S 0)))))) 1001 682 (0 : Int32), sW (cset (sc (wC (mT S 0) (fClrM (sc S 1000) (sc (mT S 0))))) 1002 0, sV (wC (mT S 0) (fClrM (sc S 1000) (sc (mT S 0)))), sW (wC (mT S 0) (fClrM (sc S 1000) (sc (mT S 0)))), sT (wC (mT S 0) (fClrM (sc S 1000) (sc (mT S 0)))), sP (wC (mT S 0) (fClrM (sc S 1000) (sc (mT S 0))))), sT (cset (sc (wC (mT S 0) (fClrM (sc S 1000) (sc (mT S 0))))) 1002 0, sV (wC (mT S 0) (fClrM (sc S 1000) (sc (mT S 0)))), sW (wC (mT S 0) (fClrM (sc S 1000) (sc (mT S 0)))), sT (wC (mT S 0) (fClrM (sc S 1000) (sc (mT S 0)))), sP (wC (mT S 0) (fClrM (sc S 1000) (sc (mT S 0))))), sP (cset (sc (wC (mT S 0) (fClrM (sc S 1000) (sc (mT S 0))))) 1002 0, sV (wC (mT S 0) (fClrM (sc S 1000) (sc (mT S 0)))), sW (wC (mT S 0) (fClrM (sc S 1000) (sc (mT S 0)))), sT (wC (mT S 0) (fClrM (sc S 1000) (sc (mT S 0)))), sP (wC (mT S 0) (fClrM (sc S 1000) (sc (mT S 0))))))) 1001 683 (-1 : Int32), sW (sc (cset (sc (wC (mT S 0) (fClrM (sc S 1000) (sc (mT S 0))))) 1002 0, sV (wC (mT S 0) (fClrM (sc S 1000) (sc (mT S 0)))), sW (wC (mT S 0) (fClrM (sc S 1000) (sc (mT S 0)))), sT (wC (mT S 0) (fClrM (sc S 1000) (sc (mT S 0)))), sP (wC (mT S 0) (fClrM (sc S 1000) (sc (mT S 0))))), u2 (sV (cset (sc (wC (mT S 0) (fClrM (sc S 1000) (sc (mT S 0))))) 1002 0, sV (wC (mT S 0) (fClrM (sc S 1000) (sc (mT S 0)))), sW (wC (mT S 0) (fClrM (sc S 1000) (sc (mT S 0)))), sT (wC (mT S 0) (fClrM (sc S 1000) (sc (mT S 0)))), sP (wC (mT S 0) (fClrM (sc S 1000) (sc (mT S 0)))))) 1001 682 (0 : Int32), sW (cset (sc (wC (mT S 0) (fClrM (sc S 1000) (sc (mT S 0))))) 1002 0, sV (wC (mT S 0) (fClrM (sc S 1000) (sc (mT S 0)))), sW (wC (mT S 0) (fClrM (sc S 1000) (sc (mT S 0)))), sT (wC (mT S 0) (fClrM (sc S 1000) (sc (mT S 0)))), sP (wC (mT S 0) (fClrM (sc S 1000) (sc (mT S 0))))), sT (cset (sc (wC (mT S 0) (fClrM (sc S 1000) (sc (mT S 0))))) 1002 0, sV (wC (mT S 0) (fClrM (sc S 1000) (sc (mT S 0)))), sW (wC (mT S 0) (fClrM (sc S 1000) (sc (mT S 0)))), sT (wC (mT S 0) (fClrM (sc S 1000) (sc (mT S 0)))), sP (wC (mT S 0) (fClrM (sc S 1000) (sc (mT S 0))))), sP (cset (sc (wC (mT S 0) (fClrM (sc S 1000) (sc (mT S 0))))) 1002 0, sV (wC (mT S 0) (fClrM (sc S 1000) (sc (mT S 0)))), sW (wC (mT S 0) (fClrM (sc S 1000) (sc (mT S 0)))), sT (wC (mT S 0) (fClrM (sc S 1000) (sc (mT S 0)))), sP (wC (mT S 0) (fClrM (sc S 1000) (sc (mT S 0)))))), sT (sc (cset (sc (wC (mT S 0) (fClrM (sc S 1000) (sc (mT S 0))))) 1002 0, sV (wC (mT S 0) (fClrM (sc S 1000) (sc (mT S 0)))), sW (wC (mT S 0) (fClrM (sc S 1000) (sc (mT S 0)))), sT (wC (mT S 0) (fClrM (sc S 1000) (sc (mT S 0)))), sP (wC (mT S 0) (fClrM (sc S 1000) (sc (mT S 0))))), u2 (sV (cset (sc (wC (mT S 0) (fClrM (sc S 1000) (sc (mT S 0))))) 1002 0, sV (wC (mT S 0) (fClrM (sc S 1000) (sc (mT S 0)))), sW (wC (mT S 0) (fClrM (sc S 1000) (sc (mT S 0)))), sT (wC (mT S 0) (fClrM (sc S 1000) (sc (mT S 0)))), sP (wC (mT S 0) (fClrM (sc S 1000) (sc (mT S 0)))))) 1001 682 (0 : Int32), sW (cset (sc (wC (mT S 0) (fClrM (sc S 1000) (sc (mT S 0))))) 1002 0, sV (wC (mT S 0) (fClrM (sc S 1000) (sc (mT S 0)))), sW (wC (mT S 0) (fClrM (sc S 1000) (sc (mT S 0)))), sT (wC (mT S 0) (fClrM (sc S 1000) (sc (mT S 0)))), sP (wC (mT S 0) (fClrM (sc S 1000) (sc (mT S 0))))), sT (cset (sc (wC (mT S 0) (fClrM (sc S 1000) (sc (mT S 0))))) 1002 0, sV (wC (mT S 0) (fClrM (sc S 1000) (sc (mT S 0)))), sW (wC (mT S 0) (fClrM (sc S 1000) (sc (mT S 0)))), sT (wC (mT S 0) (fClrM (sc S 1000) (sc (mT S 0)))), sP (wC (mT S 0) (fClrM (sc S 1000) (sc (mT S 0))))), sP (cset (sc (wC (mT S 0) (fClrM (sc S 1000) (sc (mT S 0))))) 1002 0, sV (wC (mT S 0) (fClrM (sc S 1000) (sc (mT S 0)))), sW (wC (mT S 0) (fClrM (sc S 1000) (sc (mT S 0)))), sT (wC (mT S 0) (fClrM (sc S 1000) (sc (mT S 0)))), sP (wC (mT S 0) (fClrM (sc S 1000) (sc (mT S 0)))))), sP (sc (cset (sc (wC (mT S 0) (fClrM (sc S 1000) (sc (mT S 0))))) 1002 0, sV (wC (mT S 0) (fClrM (sc S 1000) (sc (mT S 0)))), sW (wC (mT S 0) (fClrM (sc S 1000) (sc (mT S 0)))), sT (wC (mT S 0) (fClrM (sc S 1000) (sc (mT S 0)))), sP (wC (mT S 0) (fClrM (sc S 1000) (sc (mT S 0))))), u2 (sV (cset (sc (wC (mT S 0) (fClrM (sc S 1000) (sc (mT S 0))))) 1002 0, sV (wC (mT S 0) (fClrM (sc S 1000) (sc (mT S 0)))), sW (wC (mT S 0) (fClrM (sc S 1000) (sc (mT S 0)))), sT (wC (mT S 0) (fClrM (sc S 1000) (sc (mT S 0)))), sP (wC (mT S 0) (fClrM (sc S 1000) (sc (mT S 0)))))) 1001 682 (0 : Int32), sW (cset (sc (wC (mT S 0) (fClrM (sc S 1000) (sc (mT S 0))))) 1002 0, sV (wC (mT S 0) (fClrM (sc S 1000) (sc (mT S 0)))), sW (wC (mT S 0) (fClrM (sc S 1000) (sc (mT S 0)))), sT (wC (mT S 0) (fClrM (sc S 1000) (sc (mT S 0)))), sP (wC (mT S 0) (fClrM (sc S 1000) (sc (mT S 0))))), sT (cset (sc (wC (mT S 0) (fClrM (sc S 1000) (sc (mT S 0))))) 1002 0, sV (wC (mT S 0) (fClrM (sc S 1000) (sc (mT S 0)))), sW (wC (mT S 0) (fClrM (sc S 1000) (sc (mT S 0)))), sT (wC (mT S 0) (fClrM (sc S 1000) (sc (mT S 0)))), sP (wC (mT S 0) (fClrM (sc S 1000) (sc (mT S 0))))), sP (cset (sc (wC (mT S 0) (fClrM (sc S 1000) (sc (mT S 0))))) 1002 0, sV (wC (mT S 0) (fClrM (sc S 1000) (sc (mT S 0)))), sW (wC (mT S 0) (fClrM (sc S 1000) (sc (mT S 0)))), sT (wC (mT S 0) (fClrM (sc S 1000) (sc (mT S 0)))), sP (wC (mT S 0) (fClrM (sc S 1000) (sc (mT S 0))))))), sP (sc (sc (cset (sc (wC (mT S 0) (fClrM (sc S 1000) (sc (mT S 0))))) 1002 0, sV (wC (mT S 0) (fClrM (sc S 1000) (sc (mT S 0)))), sW (wC (mT S 0) (fClrM (sc S 1000) (sc (mT S 0)))), sT (wC (mT S 0) (fClrM (sc S 1000) (sc (mT S 0)))), sP (wC (mT S 0) (fClrM (sc S 1000) (sc (mT S 0))))), u2 (sV (cset (sc (wC (mT S 0) (fClrM (sc S 1000) (sc (mT S 0))))) 1002 0, sV (wC (mT S 0) (fClrM (sc S 1000) (sc (mT S 0)))), sW (wC (mT S 0) (fClrM (sc S 1000) (sc (mT S 0)))), sT (wC (mT S 0) (fClrM (sc S 1000) (sc (mT S 0)))), sP (wC (mT S 0) (fClrM (sc S 1000) (sc (mT S 0)))))) 1001 682 (0 : Int32), sW (cset (sc (wC (mT S 0) (fClrM (sc S 1000) (sc (mT S 0))))) 1002 0, sV (wC (mT S 0) (fClrM (sc S 1000) (sc (mT S 0)))), sW (wC (mT S 0) (fClrM (sc S 1000) (sc (mT S 0)))), sT (wC (mT S 0) (fClrM (sc S 1000) (sc (mT S 0)))), sP (wC (mT S 0) (fClrM (sc S 1000) (sc (mT S 0))))), sT (cset (sc (wC (mT S 0) (fClrM (sc S 1000) (sc (mT S 0))))) 1002 0, sV (wC (mT S 0) (fClrM (sc S 1000) (sc (mT S 0)))), sW (wC (mT S 0) (fClrM (sc S 1000) (sc (mT S 0)))), sT (wC (mT S 0) (fClrM (sc S 1000) (sc (mT S 0)))), sP (wC (mT S 0) (fClrM (sc S 1000) (sc (mT S 0))))), sP (cset (sc (wC (mT S 0) (fClrM (sc S 1000) (sc (mT S 0))))) 1002 0, sV (wC (mT S 0) (fClrM (sc S 1000) (sc (mT S 0)))), sW (wC (mT S 0) (fClrM (sc S 1000) (sc (mT S 0)))), sT (wC (mT S 0) (fClrM (sc S 1000) (sc (mT S 0)))), sP (wC (mT S 0) (fClrM (sc S 1000) (sc (mT S 0)))))), u2 (sV (sc (cset (sc (wC (mT S 0) (fClrM (sc S 1000) (sc (mT S 0))))) 1002 0, sV (wC (mT S 0) (fClrM (sc S 1000) (sc (mT S 0)))), sW (wC (mT S 0) (fClrM (sc S 1000) (sc (mT S 0)))), sT (wC (mT S 0) (fClrM (sc S 1000) (sc (mT S 0)))), sP (wC (mT S 0) (fClrM (sc S 1000) (sc (mT S 0))))), u2 (sV (cset (sc (wC (mT S 0) (fClrM (sc S 1000) (sc (mT S 0))))) 1002 0, sV (wC (mT S 0) (fClrM (sc S 1000) (sc (mT S 0)))), sW (wC (mT S 0) (fClrM (sc S 1000) (sc (mT S 0)))), sT (wC (mT S 0) (fClrM (sc S 1000) (sc (mT S 0)))), sP (wC (mT S 0) (fClrM (sc S 1000) (sc (mT S 0)))))) 1001 682 (0 : Int32), sW (cset (sc (wC (mT S 0) (fClrM (sc S 1000) (sc (mT S 0))))) 1002 0, sV (wC (mT S 0) (fClrM (sc S 1000) (sc (mT S 0)))), sW (wC (mT S 0) (fClrM (sc S 1000) (sc (mT S 0)))), sT (wC (mT S 0) (fClrM (sc S 1000) (sc (mT S 0)))), sP (wC (mT S 0) (fClrM (sc S 1000) (sc (mT S 0))))), sT (cset (sc (wC (mT S 0) (fClrM (sc S 1000) (sc (mT S 0))))) 1002 0, sV (wC (mT S 0) (fClrM (sc S 1000) (sc (mT S 0)))), sW (wC (mT S 0) (fClrM (sc S 1000) (sc (mT S 0)))), sT (wC (mT S 0) (fClrM (sc S 1000) (sc (mT S 0)))), sP (wC (mT S 0) (fClrM (sc S 1000) (sc (mT S 0))))), sP (cset (sc (wC (mT S 0) (fClrM (sc S 1000) (sc (mT S 0))))) 1002 0, sV (wC (mT S 0) (fClrM (sc S 1000) (sc (mT S 0)))), sW (wC (mT S 0) (fClrM (sc S 1000) (sc (mT S 0)))), sT (wC (mT S 0) (fClrM (sc S 1000) (sc (mT S 0)))), sP (wC (mT S 0) (fClrM (sc S 1000) (sc (mT S 0))))))) 1001 683 (-1 : Int32), sW (sc (cset (sc (wC (mT S 0) (fClrM (sc S 1000) (sc (mT S 0))))) 1002 0, sV (wC (mT S 0) (fClrM (sc S 1000) (sc (mT S 0)))), sW (wC (mT S 0) (fClrM (sc S 1000) (sc (mT S 0)))), sT (wC (mT S 0) (fClrM (sc S 1000) (sc (mT S 0)))), sP (wC (mT S 0) (fClrM (sc S 1000) (sc (mT S 0))))), u2 (sV (cset (sc (wC (mT S 0) (fClrM (sc S 1000) (sc (mT S 0))))) 1002 0, sV (wC (mT S 0) (fClrM (sc S 1000) (sc (mT S 0)))), sW (wC (mT S 0) (fClrM (sc S 1000) (sc (mT S 0)))), sT (wC (mT S 0) (fClrM (sc S 1000) (sc (mT S 0)))), sP (wC (mT S 0) (fClrM (sc S 1000) (sc (mT S 0)))))) 1001 682 (0 : Int32), sW (cset (sc (wC (mT S 0) (fClrM (sc S 1000) (sc (mT S 0))))) 1002 0, sV (wC (mT S 0) (fClrM (sc S 1000) (sc (mT S 0)))), sW (wC (mT S 0) (fClrM (sc S 1000) (sc (mT S 0)))), sT (wC (mT S 0) (fClrM (sc S 1000) (sc (mT S 0)))), sP (wC (mT S 0) (fClrM (sc S 1000) (sc (mT S 0))))), sT (cset (sc (wC (mT S 0) (fClrM (sc S 1000) (sc (mT S 0))))) 1002 0, sV (wC (mT S 0) (fClrM (sc S 1000) (sc (mT S 0)))), sW (wC (mT S 0) (fClrM (sc S 1000) (sc (mT S 0)))), sT (wC (mT S 0) (fClrM (sc S 1000) (sc (mT S 0)))), sP (wC (mT S 0) (fClrM (sc S 1000) (sc (mT S 0))))), sP (cset (sc (wC (mT S 0) (fClrM (sc S 1000) (sc (mT S 0))))) 1002 0, sV (wC (mT S 0) (fClrM (sc S 1000) (sc (mT S 0)))), sW (wC (mT S 0) (fClrM (sc S 1000) (sc (mT S 0)))), sT (wC (mT S 0) (fClrM (sc S 1000) (sc (mT S 0)))), sP (wC (mT S 0) (fClrM (sc S 1000) (sc (mT S 0)))))), sT (sc (cset (sc (wC (mT S 0) (fClrM (sc S 1000) (sc (mT S 0))))) 1002 0, sV (wC (mT S 0) (fClrM (sc S 1000) (sc (mT S 0)))), sW (wC (mT S 0) (fClrM (sc S 1000) (sc (mT S 0)))), sT (wC (mT S 0) (fClrM (sc S 1000) (sc (mT S 0)))), sP (wC (mT S 0) (fClrM (sc S 1000) (sc (mT S 0))))), u2 (sV (cset (sc (wC (mT S 0) (fClrM (sc S 1000) (sc (mT S 0))))) 1002 0, sV (wC (mT S 0) (fClrM (sc S 1000) (sc (mT S 0)))), sW (wC (mT S 0) (fClrM (sc S 1000) (sc (mT S 0)))), sT (wC (mT S 0) (fClrM (sc S 1000) (sc (mT S 0)))), sP (wC (mT S 0) (fClrM (sc S 1000) (sc (mT S 0)))))) 1001 682 (0 : Int32), sW (cset (sc (wC (mT S 0) (fClrM (sc S 1000) (sc (mT S 0))))) 1002 0, sV (wC (mT S 0) (fClrM (sc S 1000) (sc (mT S 0)))), sW (wC (mT S 0) (fClrM (sc S 1000) (sc (mT S 0)))), sT (wC (mT S 0) (fClrM (sc S 1000) (sc (mT S 0)))), sP (wC (mT S 0) (fClrM (sc S 1000) (sc (mT S 0))))), sT (cset (sc (wC (mT S 0) (fClrM (sc S 1000) (sc (mT S 0))))) 1002 0, sV (wC (mT S 0) (fClrM (sc S 1000) (sc (mT S 0)))), sW (wC (mT S 0) (fClrM (sc S 1000) (sc (mT S 0)))), sT (wC (mT S 0) (fClrM (sc S 1000) (sc (mT S 0)))), sP (wC (mT S 0) (fClrM (sc S 1000) (sc (mT S 0))))), sP (cset (sc (wC (mT S 0) (fClrM (sc S 1000) (sc (mT S 0))))) 1002 0, sV (wC (mT S 0) (fClrM (sc S 1000) (sc (mT S 0)))), sW (wC (mT S 0) (fClrM (sc S 1000) (sc (mT S 0)))), sT (wC (mT S 0) (fClrM (sc S 1000) (sc (mT S 0)))), sP (wC (mT S 0) (fClrM (sc S 1000) (sc (mT S 0)))))), sP (sc (cset (sc (wC (mT S 0) (fClrM (sc S 1000) (sc (mT S 0))))) 1002 0, sV (wC (mT S 0) (fClrM (sc S 1000) (sc (mT S 0)))), sW (wC (mT S 0) (fClrM (sc S 1000) (sc (mT S 0)))), sT (wC (mT S 0) (fClrM (sc S 1000) (sc (mT S 0)))), sP (wC (mT S 0) (fClrM (sc S 1000) (sc (mT S 0))))), u2 (sV (cset (sc (wC (mT S 0) (fClrM (sc S 1000) (sc (mT S 0))))) 1002 0, sV (wC (mT S 0) (fClrM (sc S 1000) (sc (mT S 0)))), sW (wC (mT S 0) (fClrM (sc S 1000) (sc (mT S 0)))), sT (wC (mT S 0) (fClrM (sc S 1000) (sc (mT S 0)))), sP (wC (mT S 0) (fClrM (sc S 1000) (sc (mT S 0)))))) 1001 682 (0 : Int32), sW (cset (sc (wC (mT S 0) (fClrM (sc S 1000) (sc (mT S 0))))) 1002 0, sV (wC (mT S 0) (fClrM (sc S 1000) (sc (mT S 0)))), sW (wC (mT S 0) (fClrM (sc S 1000) (sc (mT S 0)))), sT (wC (mT S 0) (fClrM (sc S 1000) (sc (mT S 0)))), sP (wC (mT S 0) (fClrM (sc S 1000) (sc (mT S 0))))), sT (cset (sc (wC (mT S 0) (fClrM (sc S 1000) (sc (mT S 0))))) 1002 0, sV (wC (mT S 0) (fClrM (sc S 1000) (sc (mT S 0)))), sW (wC (mT S 0) (fClrM (sc S 1000) (sc (mT S 0)))), sT (wC (mT S 0) (fClrM (sc S 1000) (sc (mT S 0)))), sP (wC (mT S 0) (fClrM (sc S 1000) (sc (mT S 0))))), sP (cset (sc (wC (mT S 0) (fClrM (sc S 1000) (sc (mT S 0))))) 1002 0, sV (wC (mT S 0) (fClrM (sc S 1000) (sc (mT S 0)))), sW (wC (mT S 0) (fClrM (sc S 1000) (sc (mT S 0)))), sT (wC (mT S 0) (fClrM (sc S 1000) (sc (mT S 0)))), sP (wC (mT S 0) (fClrM (sc S 1000) (sc (mT S 0)))))))) 6 = sc S 6 := h6
    refine zw_addD (nc1 := 0) (ns1 := 0) (n := 98) rfl dX16_nextDay_95 ml_X16_80 hR h4 (by omega) hv8 hx8 (by simp) (by omega) (by omega) (by omega) rfl (fun Λ9 M hR hS => ?_)
    rw [← hS.2.1]
    refine zs_pop (n := 99) dX16_nextDay_98 rfl rfl ?_
    refine zX.sub (L' := [(0, .ref (Λ9 1001))]) ⟨rfl, trivial⟩ ?_
    rw [h6b] at hR
    exact kk Λ9 M hR hS
  · exact ⟨hR, hI29⟩
theorem zSame_tr {Λ1 : Nat → Nat} (h : zSame Λ Λ1) (h2 : zSame Λ1 Λ2) : zSame Λ Λ2 := ⟨h2.1.trans h.1, h2.2.1.trans h.2.1, h2.2.2.1.trans h.2.2.1, h2.2.2.2.trans h.2.2.2⟩
def dNxA (S : zSt) : zSt := (sc (dNx2 S), u2 (sV (dNx2 S)) 1001 687 (sV (dNx2 S) 1001 687 + 1), sW S, sT S, sP S)
def dNxB (S : zSt) : zSt := (cset (sc (dNx2 S)) 6 10, u2 (dSh (sV (dNx2 S))) 1001 687 (sV (dNx2 S) 1001 687 + 1), sW S, sT S, sP S)
theorem dNx2_c (hb6 : sc S 1000 ≤ 6) {q : Nat} (h1 : q < 1010 ∨ 1200 ≤ q) (h2 : q ≠ 6) (h3 : q ≠ 1002) : sc (dNx2 S) q = sc S q := (cset_ne h2).trans ((cset_ne h3).trans (fClrM_lo h1 _ (by omega)))
theorem k_nextDay (hR : zRp Z Λ S M) (h4 : sc S 4 = 1) (hp : ¬ sV S 1001 680 = 0) (h10 : sc S 6 < 10) (hQ : ∀ Λ' M', zRp Z Λ' (dNxA S) M' → zSame Λ Λ' → Q (.inl (some (.int (sV (dNx2 S) 1001 687 + 1)))) M') : zX Z l 6 mth_X16_nextDay 0 (lv_args 0 [.ref (Λ 1001)]) [] M 3 20 Q := by
  have hb6 : sc S 1000 ≤ 6 := hR.bnd.2.1.1
  refine k_nxtA hR h4 hp (by omega) (fun Λ1 M1 hR1 hS1 => ?_)
  refine k_nxt0 (S := dNx2 S) hR1 ((dNx2_c hb6 (by omega) (by decide) (by decide)).trans h4) ?_ (fun Λ2 M2 hR2 hS2 => hQ Λ2 M2 hR2 (zSame_tr hS1 hS2))
  show cset (sc (dNx1 S)) 6 (sc S 6 + 1) 6 ≤ 10
  rw [cset_at]
  omega
theorem k_nextDay_f (hR : zRp Z Λ S M) (h4 : sc S 4 = 1) (hp : ¬ sV S 1001 680 = 0) (h10 : sc S 6 = 10) (hQ : ∀ Λ' M', zRp Z Λ' (dNxB S) M' → zSame Λ Λ' → Q (.inl (some (.int (sV (dNx2 S) 1001 687 + 1)))) M') : zX Z l 6 mth_X16_nextDay 0 (lv_args 0 [.ref (Λ 1001)]) [] M 3 20 Q := by
  have hb6 : sc S 1000 ≤ 6 := hR.bnd.2.1.1
  refine k_nxtA hR h4 hp (by omega) (fun Λ1 M1 hR1 hS1 => ?_)
  refine k_nxt1 (S := dNx2 S) hR1 ((dNx2_c hb6 (by omega) (by decide) (by decide)).trans h4) ?_ (fun Λ2 M2 hR2 hS2 => hQ Λ2 M2 hR2 (zSame_tr hS1 hS2))
  show cset (sc (dNx1 S)) 6 (sc S 6 + 1) 6 = 11
  rw [cset_at, h10]
end ZDAYS2
