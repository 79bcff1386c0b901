/-! LISTS OF THE MOMENT; Integers told to the lots and the days -/
section ZTL
variable {Z : zPar} {l : Launch} {Λ Λ' : Nat → Nat} {S : zSt} {M M' : zMem} {r s k i j a q p g : Nat} {c : Nat → Nat} {d : Nat} {mm : zMeth} {pc n nc ns ix nc1 ns1 : Nat} {L : List (Nat × Value)} {st : List Value} {Q : zO → zMem → Prop} {f : Nat → Nat}
theorem u2_k {α : Type} {f : Nat → Nat → α} {a k j : Nat} {v : α} (h : j ≠ k) (b : Nat) : u2 f a k v b j = f b j := by
  unfold u2
  rw [if_neg (fun e => h e.1)]
/-- a list of the moment: its row has the next mark -/
def zTl (Z : zPar) (M : zMem) (p g n : Nat) (f : Nat → Nat) : Prop := 3000 ≤ g ∧ mK M p = 14 ∧ mG M p = g ∧ ∃ e, zL Z M p e n f ∧ (mK M e = 3 → mG M e = g + 1 ∧ 10 ≤ mN M e)
theorem zTl.tmp (h : zTl Z M p g n f) : zTmp M p g := ⟨h.1, h.2.2.1, by rw [h.2.1]; decide⟩
theorem zTl.sI {v : Int32} (h : zTl Z M p g n f) (hne : a ≠ p) : zTl Z (sI M a k v) p g n f := by
  obtain ⟨h1, h2, h3, e, ⟨l1, l2, l3, l4, l5⟩, h5⟩ := h
  exact ⟨h1, h2, h3, e, ⟨l1, (congrFun (u2_ne (Ne.symm hne)) 130).trans l2, l3, l4, l5⟩, h5⟩
theorem zTl.keep (h : zTl Z M p g n f) (h1 : zAg M M' p) (h2 : ∀ e, (mK M e = 7 ∨ (mK M e = 3 ∧ mG M e = g + 1)) → zAg M M' e) : zTl Z M' p g n f := by
  obtain ⟨a1, a2, a3, e, hL, h5⟩ := h
  have he : zAg M M' e := by
    obtain ⟨-, -, -, l4, -⟩ := hL
    rcases l4 with ⟨l4, -⟩ | ⟨l4, -⟩
    · exact h2 e (Or.inl l4)
    · exact h2 e (Or.inr ⟨l4, (h5 l4).1⟩)
  exact ⟨a1, h1.1.trans a2, h1.2.2.1.trans a3, e, hL.keep rfl rfl (fun _ _ => rfl) h1 he, fun h3 => by
    rw [he.1] at h3
    rw [he.2.2.1, he.2.1]
    exact h5 h3⟩
theorem zt_size (hd : decode (zMC mm) pc = .ok (.invokevirtual ix, 3)) (hw : zwd (.methodLink (zMY mm).cls ix yJx4a65c_size_8abf5)) (hT : zTl Z M p g k f) (hst : st.length ≤ 4) (hdd : 0 < d) (hn : pc + 3 = n) (kk : zX Z l d mm n L (.int (nI k) :: st) M nc ns Q) : zX Z l d mm pc L (.ref p :: st) M nc ns Q := by
  obtain ⟨-, -, -, e, hL, -⟩ := hT
  exact zc_size hd hw hL hst hdd hn kk
theorem zt_get (hd : decode (zMC mm) pc = .ok (.invokevirtual ix, 3)) (hw : zwd (.methodLink (zMY mm).cls ix yJx4a65c_get_915e3)) (hT : zTl Z M p g k f) (hi : i < k) (hst : st.length ≤ 4) (hdd : 2 < d) (hn : pc + 3 = n) (kk : zX Z l d mm n L (.ref (f i) :: st) M nc ns Q) : zX Z l d mm pc L (.int (nI i) :: .ref p :: st) M nc ns Q := by
  obtain ⟨-, -, -, e, hL, -⟩ := hT
  exact zc_get hd hw hL hi hst hdd hn kk
/-- new ArrayList() -/
theorem zt_lnew {ix2 : Nat} (g : Nat) (f : Nat → Nat) (hg : 3000 ≤ g) (hd0 : decode (zMC mm) pc = .ok (.new ix, 3)) (hd1 : decode (zMC mm) (pc + 3) = .ok (.dup, 1)) (hd2 : decode (zMC mm) (pc + 4) = .ok (.invokespecial ix2, 3)) (hf : zNC (zMY mm).cls ix 14 3) (hw : zwd (.methodLink (zMY mm).cls ix2 yJx4a65c_init_da8c8)) (hR : zRp Z Λ S M) (hst : st.length ≤ 3) (hdd : 2 < d) (hc1 : nc1 + 1 ≤ nc) (hs1 : ns1 + 3 ≤ ns) (hn : pc + 7 = n)
    (kk : ∀ q M', zRp Z Λ S M' → zTl Z M' q g 0 f → (∀ a, mK M a ≠ 0 → zAg M M' a) → zX Z l d mm n L (.ref q :: st) M' nc1 ns1 Q) : zX Z l d mm pc L st M nc ns Q := by
  refine zs_new g (nc1 := nc1) (ns1 := ns1) (n := pc + 3) hd0 hf rfl hc1 hs1 (fun q hq => ?_)
  refine zs_dup (n := pc + 4) hd1 rfl rfl ?_
  refine zc_linit (n := n) hd2 hw zNew_Kq (by simp; omega) hdd (by omega) ?_
  have hE := hR.emp
  have hek : mK M (zPe Z) ≠ 0 := by rw [hE.1]; decide
  have ht : zTmp (zNew M q 14 0 g) q g := ⟨hg, u1_at, by rw [zNew_Kq]; decide⟩
  have hag : ∀ a, a ≠ q → zAg (zNew M q 14 0 g) (sR (sI (zNew M q 14 0 g) q 128 0) q 129 (some (zPe Z))) a := fun a ha => ⟨rfl, rfl, rfl, u2_ne ha, u2_ne ha, rfl, rfl, rfl, rfl⟩
  refine kk q _ ((hR.new0 hq).tmp ht hag) ?_ (fun a ha => (zNew_ag hq a ha).tr (hag a (fun e => ha (e ▸ hq))))
  have e7 : mK (zNew M q 14 0 g) (zPe Z) = 7 := (zNew_K hq hek).trans hE.1
  have eN : mN (zNew M q 14 0 g) (zPe Z) = 0 := (zNew_N hq hek).trans hE.2.1
  refine ⟨hg, u1_at, u1_at, zPe Z, ⟨u1_at, ?_, u2_at, Or.inl ⟨e7, eN, rfl, rfl⟩, fun i hi => absurd hi (Nat.not_lt_zero i)⟩, fun h3 => absurd (e7.symm.trans h3) (by decide)⟩
  show u2 (u1 (vI M) q (fun _ => 0)) q 128 0 q 130 = nI 0
  rw [u2_k (by decide) q, u1_at]
  rfl
/-- a thing added to a list of the moment -/
theorem zt_add {v : Nat} (hd : decode (zMC mm) pc = .ok (.invokevirtual ix, 3)) (hw : zwd (.methodLink (zMY mm).cls ix yJx4a65c_add_9ea2d)) (hR : zRp Z Λ S M) (hT : zTl Z M p g k f) (hv : zOb M v) (h10 : k < 10) (hst : st.length ≤ 4) (hdd : 4 < d) (hc1 : nc1 + 1 ≤ nc) (hs1 : ns1 + 10 ≤ ns) (hn : pc + 3 = n)
    (kk : ∀ M', zRp Z Λ S M' → zTl Z M' p g (k + 1) (fun i => if i = k then v else f i) → (∀ a, mK M a ≠ 0 → a ≠ p → (mK M a = 3 → mG M a ≠ g + 1) → zAg M M' a) → zX Z l d mm n L (.int 1 :: st) M' nc1 ns1 Q) : zX Z l d mm pc L (.ref v :: .ref p :: st) M nc ns Q := by
  have ht := hT.tmp
  obtain ⟨h1, h2, h3, e, hL, h5⟩ := hT
  have hro : k < mN M e ∨ k = 0 := by
    obtain ⟨-, -, -, l4, -⟩ := hL
    rcases l4 with ⟨-, -, l4, -⟩ | ⟨l4, -⟩
    · exact Or.inr l4
    · have := (h5 l4).2
      omega
  refine zc_add (g + 1) hd hw hL hv hro hst hdd hc1 hs1 hn (fun k3 hc => ?_) (fun h0 k7 q hq => ?_)
  · have hpe : p ≠ e := fun he => by rw [he, k3] at h2; exact absurd h2 (by decide)
    have hte : zTmp M e (g + 1) := ⟨by omega, (h5 k3).1, by rw [k3]; decide⟩
    have r1 : zRp Z Λ S (sI M p 128 (vI M p 128 + 1)) := hR.tmp ht (fun a ha => ⟨rfl, rfl, rfl, u2_ne ha, rfl, rfl, rfl, rfl, rfl⟩)
    have r2 : zRp Z Λ S (sAR (sI M p 128 (vI M p 128 + 1)) e k (some v)) := r1.tmp (q := e) (g := g + 1) hte (fun a ha => ⟨rfl, rfl, rfl, rfl, rfl, rfl, u2_ne ha, rfl, rfl⟩)
    have r3 : zRp Z Λ S (zAdd M p e k v) := r2.tmp (q := p) (g := g) ht (fun a ha => ⟨rfl, rfl, rfl, u2_ne ha, rfl, rfl, rfl, rfl, rfl⟩)
    refine kk _ r3 ⟨h1, h2, h3, e, ⟨h2, u2_at, hL.2.2.1, Or.inr ?_, fun i hi => ?_⟩, h5⟩ (fun a ha hap har => ⟨rfl, rfl, rfl, (u2_ne hap).trans (u2_ne hap), rfl, rfl, u2_ne (fun he => har (he ▸ k3) (he ▸ (h5 k3).1)), rfl, rfl⟩)
    · obtain ⟨-, -, -, l4, -⟩ := hL
      rcases l4 with ⟨l4, -⟩ | ⟨-, -, l5, l6⟩
      · rw [l4] at k3
        exact absurd k3 (by decide)
      · exact ⟨k3, hc, l5, l6⟩
    · show u2 (aR M) e k (some v) e i = some (if i = k then v else f i)
      by_cases ei : i = k
      · subst ei
        rw [if_pos rfl]
        exact u2_at
      · rw [if_neg ei]
        exact (u2_k ei e).trans (hL.2.2.2.2 i (by omega))
  · subst h0
    have hp0 : mK M p ≠ 0 := by rw [h2]; decide
    have hpq : p ≠ q := fun he => hp0 (he ▸ hq)
    have r1 : zRp Z Λ S (sI M p 128 (vI M p 128 + 1)) := hR.tmp ht (fun a ha => ⟨rfl, rfl, rfl, u2_ne ha, rfl, rfl, rfl, rfl, rfl⟩)
    have r2 : zRp Z Λ S (zNew (sI M p 128 (vI M p 128 + 1)) q 3 10 (g + 1)) := r1.new0 hq
    have ht2 : zTmp (zNew (sI M p 128 (vI M p 128 + 1)) q 3 10 (g + 1)) p g := ⟨h1, (u1_ne hpq).trans h3, by rw [show mK (zNew (sI M p 128 (vI M p 128 + 1)) q 3 10 (g + 1)) p = 14 from (u1_ne hpq).trans h2]; decide⟩
    have r3 : zRp Z Λ S (sR (zNew (sI M p 128 (vI M p 128 + 1)) q 3 10 (g + 1)) p 129 (some q)) := r2.tmp ht2 (fun a ha => ⟨rfl, rfl, rfl, rfl, u2_ne ha, rfl, rfl, rfl, rfl⟩)
    have r4 : zRp Z Λ S (sAR (sR (zNew (sI M p 128 (vI M p 128 + 1)) q 3 10 (g + 1)) p 129 (some q)) q 0 (some v)) := r3.tmp (q := q) (g := g + 1) ⟨by omega, u1_at, by rw [show mK (sR (zNew (sI M p 128 (vI M p 128 + 1)) q 3 10 (g + 1)) p 129 (some q)) q = 3 from u1_at]; decide⟩ (fun a ha => ⟨rfl, rfl, rfl, rfl, rfl, rfl, u2_ne ha, rfl, rfl⟩)
    have r5 : zRp Z Λ S (zAddG M p q v (g + 1)) := r4.tmp (q := p) (g := g) ht2 (fun a ha => ⟨rfl, rfl, rfl, u2_ne ha, rfl, rfl, rfl, rfl, rfl⟩)
    refine kk _ r5 ⟨h1, (u1_ne hpq).trans h2, (u1_ne hpq).trans h3, q, ⟨(u1_ne hpq).trans h2, u2_at, u2_at, Or.inr ⟨u1_at, ?_, ?_, ?_⟩, fun i hi => ?_⟩, fun _ => ⟨u1_at, ?_⟩⟩ (fun a ha hap har => ?_)
    · show 0 + 1 ≤ u1 (mN M) q 10 q
      rw [u1_at]
      decide
    · show u1 (mN M) q 10 q < 1000
      rw [u1_at]
      decide
    · show 0 < u1 (mN M) q 10 q
      rw [u1_at]
      decide
    · obtain rfl : i = 0 := by omega
      show u2 (u1 (aR M) q (fun _ => none)) q 0 (some v) q 0 = some v
      exact u2_at
    · show 10 ≤ u1 (mN M) q 10 q
      rw [u1_at]
      exact Nat.le_refl _
    · have haq : a ≠ q := fun he => ha (he ▸ hq)
      exact ⟨u1_ne haq, u1_ne haq, u1_ne haq, (u2_ne hap).trans ((u1_ne haq).trans (u2_ne hap)), (u2_ne hap).trans (u1_ne haq), u1_ne haq, (u2_ne haq).trans (u1_ne haq), u1_ne haq, u1_ne haq⟩
theorem zRp.lotJ (h : zRp Z Λ S M) (hi : i < sc S 1003) : zJ M (Λ (1300 + i)) := (h.ints.1 i hi).1
theorem zRp.lotV (h : zRp Z Λ S M) (hi : i < sc S 1003) : vI M (Λ (1300 + i)) 32 = sV S (1300 + i) 32 := (h.ints.1 i hi).2
theorem zRp.dayJ (h : zRp Z Λ S M) (hi : i < sc S 6) : zJ M (Λ (1320 + i)) := (h.ints.2 i hi).1
theorem zRp.dayV (h : zRp Z Λ S M) (hi : i < sc S 6) : vI M (Λ (1320 + i)) 32 = sV S (1320 + i) 32 := (h.ints.2 i hi).2
theorem zlv.of {c' : Nat → Nat} (he : ∀ k, k ≠ 6 → k ≠ 1003 → c' k = c k) (h0 : c 0 ≤ 6) (h : zlv c' r) : zlv c r := by
  rcases h with h | h
  · refine Or.inl ?_
    rcases h with h | ⟨i, hi, h⟩ | ⟨i, hi, h⟩ | ⟨i, hi, h⟩ | ⟨i, k, hi, hk, h⟩
    · exact Or.inl ⟨(he 3 (by decide) (by decide)).symm.trans h.1, h.2⟩
    · rw [he 0 (by decide) (by decide)] at hi
      exact Or.inr (Or.inl ⟨i, hi, h⟩)
    · rw [he 1 (by decide) (by decide)] at hi
      exact Or.inr (Or.inr (Or.inl ⟨i, hi, h⟩))
    · rw [he 2 (by decide) (by decide)] at hi
      exact Or.inr (Or.inr (Or.inr (Or.inl ⟨i, hi, h⟩)))
    · rw [he 0 (by decide) (by decide)] at hi
      rw [he (10 + i) (by omega) (by omega)] at hk
      exact Or.inr (Or.inr (Or.inr (Or.inr ⟨i, k, hi, hk, h⟩)))
  · refine Or.inr ?_
    rcases h with h | ⟨i, hi, h⟩ | ⟨i, hi, h⟩ | ⟨i, hi, h⟩ | ⟨i, k, hi, hk, h⟩
    · exact Or.inl ⟨(he 4 (by decide) (by decide)).symm.trans h.1, h.2⟩
    · rw [he 1000 (by decide) (by decide)] at hi
      exact Or.inr (Or.inl ⟨i, hi, h⟩)
    · rw [he 1001 (by decide) (by decide)] at hi
      exact Or.inr (Or.inr (Or.inl ⟨i, hi, h⟩))
    · rw [he 1002 (by decide) (by decide)] at hi
      exact Or.inr (Or.inr (Or.inr (Or.inl ⟨i, hi, h⟩)))
    · rw [he 1000 (by decide) (by decide)] at hi
      rw [he (1010 + i) (by omega) (by omega)] at hk
      exact Or.inr (Or.inr (Or.inr (Or.inr ⟨i, k, hi, hk, h⟩)))
theorem zJ.ob {v : Nat} (h : zJ M v) : zOb M v := by
  rcases h with h | h
  · exact Or.inl ⟨1, _, h, rfl, co_J6⟩
  · exact Or.inr h
/-- an Integer told to the lots -/
theorem zw_addL {v : Nat} {x : Int32} (hp : Λ 1021 = p) (hd : decode (zMC mm) pc = .ok (.invokevirtual ix, 3)) (hw : zwd (.methodLink (zMY mm).cls ix yJx4a65c_add_9ea2d)) (hR : zRp Z Λ S M) (h4 : sc S 4 = 1) (h10 : sc S 1003 < 8) (hv : zJ M v) (hx : vI M v 32 = x) (hst : st.length ≤ 4) (hdd : 4 < d) (hc1 : nc1 + 1 ≤ nc) (hs1 : ns1 + 10 ≤ ns) (hn : pc + 3 = n)
    (kk : ∀ Λ' M', zRp Z Λ' (cset (sc S) 1003 (sc S 1003 + 1), u2 (sV S) (1300 + sc S 1003) 32 x, sW S, sT S, sP S) M' → zSame Λ Λ' → zX Z l d mm n L (.int 1 :: st) M' nc1 ns1 Q) : zX Z l d mm pc L (.ref v :: .ref p :: st) M nc ns Q := by
  have hb := hR.bnd
  have hl : zlv (sc S) 1021 := lvM h4 (by omega)
  have hR1 : zRp Z (u1 Λ (1300 + sc S 1003) v) S M := hR.grow1 (fun s hs => ?_) ⟨by omega, by omega⟩ (fun r hr => by have := zrw_out hr; omega) (fun _ _ => zAg.rf)
  · refine zw_add (r := 1021) (V' := u2 (sV S) (1300 + sc S 1003) 32 x) (W' := sW S) (T' := sT S) (P' := sP S) ((u1_ne (by omega)).trans hp) hd hw hR1 hl rfl (by show sc S 1003 < 10; omega) (hb.up (r := 1021) (by unfold zlr; omega) (by show sc S 1003 + 1 ≤ 8; omega)) (u1_at (f := Λ)).symm hv.ob (fun s hs hns => absurd (hs.of (fun k _ hk => cset_ne hk) hb.1.1) hns) (fun s hs k _ _ => congrFun (u2_ne (f := sV S) (fun e => by have := hs.lt hb; omega)) k) (fun _ _ _ => rfl) (fun _ _ _ _ => rfl) (fun _ _ => rfl) (fun _ => rfl) ⟨fun i hi => ?_, fun i hi => ?_⟩ hst hdd hc1 hs1 hn (fun Λ' M' h e => ?_)
    · replace hi : i < cset (sc S) 1003 (sc S 1003 + 1) 1003 := hi
      rw [cset_at] at hi
      by_cases ei : i = sc S 1003
      · subst ei
        unfold zIok
        rw [u1_at]
        exact ⟨hv, hx.trans u2_at.symm⟩
      · obtain ⟨a1, a2⟩ := hR1.ints.1 i (by omega)
        exact ⟨a1, a2.trans (congrFun (u2_ne (f := sV S) (by omega)) 32).symm⟩
    · obtain ⟨a1, a2⟩ := hR1.ints.2 i hi
      exact ⟨a1, a2.trans (congrFun (u2_ne (f := sV S) (by omega)) 32).symm⟩
    · exact kk Λ' M' h ⟨(e 1 (by decide)).trans (u1_ne (by omega)), (e 1001 (by decide)).trans (u1_ne (by omega)), (e 40 (by decide)).trans (u1_ne (by omega)), (e 41 (by decide)).trans (u1_ne (by omega))⟩
  · rcases hs with hs | ⟨i, hi, rfl⟩ | ⟨i, hi, rfl⟩
    · have := hs.lt hb
      omega
    · omega
    · have := hb.2.1.2.2.2.1
      omega
end ZTL
