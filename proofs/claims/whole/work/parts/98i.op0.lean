/-! OPERATIONS 0: a call on both sides, as the law makes it -/
abbrev wP (S : zSt) (j n : Nat) : zSt := (sc S, sV S, sW S, sT S, u1 (sP S) j n)
def oN (x : Int64) : Nat := x.toBitVec.toNat
theorem lN_oN (x : Int64) : lN (oN x) = x := Int64.toBitVec_inj.mp (by show BitVec.ofNat 64 x.toBitVec.toNat = _; simp)
def zR (Z : zPar) (x m o od : Nat) (S : zSt) (M : zMem) : Prop := ∃ Λ, zRp Z Λ S M ∧ Λ 1 = x ∧ Λ 1001 = m ∧ Λ 40 = o ∧ Λ 41 = od
section ZOP0
variable {Z : zPar} {l : Launch} {d d' : Nat} {Λ Λ' : Nat → Nat} {S S1 S2 : zSt} {M : zMem} {x m o od nc ns mc ms : Nat} {mm mmW mmC : zMeth} {As Bs Cs : List Value}
/-- the law's own row of one long is written -/
theorem zRp.outL {y : Int64} (h : zRp Z Λ S M) : zRp Z Λ (wP S 1000 (oN y)) (sAL M (Λ 40) 0 y) := by
  have hb := h.bnd
  obtain ⟨b1, b2, b3, b4, b5, ⟨b6, b7⟩, b8, ⟨b9, b10⟩, b11⟩ := h
  refine ⟨b1, b2, b3, b4, b5, ⟨b6, fun j hj => ?_⟩, b8, ⟨fun h9 => ?_, fun h9 => ?_⟩, b11⟩
  · have hj : j < sc S 2 := hj
    have := hb.1.2.2.1
    show u1 (sP S) 1000 (oN y) j < _ ∧ _ = some (Λ (100 + u1 (sP S) 1000 (oN y) j))
    rw [u1_ne (show j ≠ 1000 by omega)]
    exact b7 j hj
  · obtain ⟨⟨c1, c2, c3⟩, c4, c5, c6⟩ := b9 h9
    refine ⟨⟨c1, c2, ?_⟩, c4, c5, ?_⟩
    · show u2 (aL M) (Λ 40) 0 y (Λ 40) 0 = lN (u1 (sP S) 1000 (oN y) 1000)
      rw [u2_at, u1_at, lN_oN]
    · show _ = UInt64.ofNat (u1 (sP S) 1000 (oN y) 1001)
      rw [u1_ne (by decide)]
      exact c6
  · have h9 : u1 (sP S) 1000 (oN y) 1010 = 1 := h9
    rw [u1_ne (by decide)] at h9
    obtain ⟨c1, c2, c3, c4⟩ := b10 h9
    show mK M (u1 (sP S) 1000 (oN y) 1002) = 2 ∧ mN M (u1 (sP S) 1000 (oN y) 1002) = 6 ∧ mG M (u1 (sP S) 1000 (oN y) 1002) = 42 ∧ ∀ x, x < 6 → aI M (u1 (sP S) 1000 (oN y) 1002) x = Int32.ofNat (u1 (sP S) 1000 (oN y) (1003 + x))
    rw [u1_ne (by decide)]
    refine ⟨c1, c2, c3, fun x hx => ?_⟩
    rw [u1_ne (by omega)]
    exact c4 x hx
theorem zRp.outDb {y : UInt64} (h : zRp Z Λ S M) : zRp Z Λ (wP S 1001 y.toNat) (sAD M (Λ 41) 0 y) := by
  have hb := h.bnd
  obtain ⟨b1, b2, b3, b4, b5, ⟨b6, b7⟩, b8, ⟨b9, b10⟩, b11⟩ := h
  refine ⟨b1, b2, b3, b4, b5, ⟨b6, fun j hj => ?_⟩, b8, ⟨fun h9 => ?_, fun h9 => ?_⟩, b11⟩
  · have hj : j < sc S 2 := hj
    have := hb.1.2.2.1
    show u1 (sP S) 1001 y.toNat j < _ ∧ _ = some (Λ (100 + u1 (sP S) 1001 y.toNat j))
    rw [u1_ne (show j ≠ 1001 by omega)]
    exact b7 j hj
  · obtain ⟨⟨c1, c2, c3⟩, c4, c5, c6⟩ := b9 h9
    refine ⟨⟨c1, c2, ?_⟩, c4, c5, ?_⟩
    · show _ = lN (u1 (sP S) 1001 y.toNat 1000)
      rw [u1_ne (by decide)]
      exact c3
    · show u2 (aD M) (Λ 41) 0 y (Λ 41) 0 = UInt64.ofNat (u1 (sP S) 1001 y.toNat 1001)
      rw [u2_at, u1_at]
      simp
  · have h9 : u1 (sP S) 1001 y.toNat 1010 = 1 := h9
    rw [u1_ne (by decide)] at h9
    obtain ⟨c1, c2, c3, c4⟩ := b10 h9
    show mK M (u1 (sP S) 1001 y.toNat 1002) = 2 ∧ mN M (u1 (sP S) 1001 y.toNat 1002) = 6 ∧ mG M (u1 (sP S) 1001 y.toNat 1002) = 42 ∧ ∀ x, x < 6 → aI M (u1 (sP S) 1001 y.toNat 1002) x = Int32.ofNat (u1 (sP S) 1001 y.toNat (1003 + x))
    rw [u1_ne (by decide)]
    refine ⟨c1, c2, c3, fun x hx => ?_⟩
    rw [u1_ne (by omega)]
    exact c4 x hx
/-- a method's part in a call: from S to S1 with the value v -/
def zHf (Z : zPar) (l : Launch) (mm : zMeth) (As : List Value) (x m o od : Nat) (S : zSt) (v : Value) (S1 : zSt) : Prop := ∀ M, zR Z x m o od S M → zG Z l 10 mm As M 200 1000 (some v) (zR Z x m o od S1)
/-- the class's part: behind it the reference is still there -/
def zHfC (Z : zPar) (l : Launch) (mm : zMeth) (As : List Value) (x m o od : Nat) (S : zSt) (v : Value) (S1 : zSt) : Prop := zHf Z l mm As x m o od S v S1 ∧ sc S1 4 = 1
/-- a call on both sides: the same exception or the same value -/
def zOp (Z : zPar) (l : Launch) (x m o od : Nat) (mW mM : zMeth) (As Bs : List Value) (cv : Int32 → Int64) (S : zSt) : Prop := ∃ c b S1 S2, zHfC Z l mW As x m o od S (.int c) S1 ∧ zHf Z l mM Bs x m o od S1 (.int b) S2 ∧ sV S2 1001 672 = c ∧ (c = 0 → lN (sP S2 1000) = cv b) ∧ rRel S2
/-- a wrapper of the law -/
def zWr (Z : zPar) (l : Launch) (mmW mmC : zMeth) (x o : Nat) (As Cs : List Value) (cv : Int32 → Int64) (cd : Nat → Option Int32) : Prop := ∀ (M : zMem) (Q Post : zO → zMem → Prop) (mc ms : Nat), mK M x = 26 → zX Z l 9 mmC 0 (lv_args 0 Cs) [] M mc ms Post → (∀ v M', Post (.inl v) M' → ∃ z, v = some (.int z) ∧ mK M' o = 5 ∧ mN M' o = 1 ∧ Q (.inl (some (.int 0))) (sAL M' o 0 (cv z))) → (∀ k M', Post (.inr k) M' → ∃ c, cd k = some c ∧ Q (.inl (some (.int c))) M') → zX Z l 10 mmW 0 (lv_args 0 As) [] M mc ms Q
abbrev cvI (z : Int32) : Int64 := z.toInt64
abbrev cvZ (z : Int32) : Int64 := if z = 0 then 0 else 1
theorem zSame.to (h : zSame Λ Λ') (h1 : Λ 1 = x) (h2 : Λ 1001 = m) (h3 : Λ 40 = o) (h4 : Λ 41 = od) : Λ' 1 = x ∧ Λ' 1001 = m ∧ Λ' 40 = o ∧ Λ' 41 = od := ⟨h.1.trans h1, h.2.1.trans h2, h.2.2.1.trans h3, h.2.2.2.trans h4⟩
/-- the class's good way, through the wrapper -/
theorem wr_ok {cv : Int32 → Int64} {cd : Nat → Option Int32} {z : Int32} (hw : zWr Z l mmW mmC x o As (.ref x :: Cs) cv cd) (h3 : sc S 3 = 1) (h5 : sc S1 5 = 1) (hd : d ≤ 9) (hc : mc ≤ 200) (hs : ms ≤ 1000)
    (hf : ∀ Λ M (Q : zO → zMem → Prop), zRp Z Λ S M → (∀ Λ' M', zRp Z Λ' S1 M' → zSame Λ Λ' → Q (.inl (some (.int z))) M') → zX Z l d mmC 0 (lv_args 0 (.ref (Λ 1) :: Cs)) [] M mc ms Q) (h4 : sc S1 4 = 1 := by first | assumption | exact (cset_ne (by decide)).trans (by assumption) | exact (cset_ne (by omega)).trans (by assumption)) : zHfC Z l mmW As x m o od S (.int 0) (wP S1 1000 (oN (cv z))) := by
  refine ⟨?_, h4⟩
  rintro M ⟨Λ, hR, h1, h2, h4, h6⟩ Q hQ
  refine zX.more (hw M Q (fun oc M' => oc = .inl (some (.int z)) ∧ ∃ Λ', zRp Z Λ' S1 M' ∧ zSame Λ Λ') mc ms (by rw [← h1]; exact hR.kd (lvC h3 (by omega))) (by rw [← h1]; exact ((hf Λ M _ hR (fun Λ' M' hR' hs => ⟨rfl, Λ', hR', hs⟩)).deep hd)) (fun v M' hv => ?_) (fun k M' hk => nomatch hk.1)) hc hs
  obtain ⟨hv, Λ', hR', hsm⟩ := hv
  obtain ⟨e1, e2, e3, e4⟩ := hsm.to h1 h2 h4 h6
  have ho := (hR'.outs.1 h5).1
  rw [e3] at ho
  refine ⟨z, Sum.inl.inj hv, ho.1, ho.2.1, hQ _ ⟨Λ', ?_, e1, e2, e3, e4⟩⟩
  rw [← e3]
  exact hR'.outL
/-- the same where the things stay -/
theorem wr_okG {cv : Int32 → Int64} {cd : Nat → Option Int32} {z : Int32} (hw : zWr Z l mmW mmC x o As (.ref x :: Cs) cv cd) (h3 : sc S 3 = 1) (h5 : sc S1 5 = 1) (hd : d ≤ 9) (hc : mc ≤ 200) (hs : ms ≤ 1000)
    (hf : ∀ Λ M, zRp Z Λ S M → zG Z l d mmC (.ref (Λ 1) :: Cs) M mc ms (some (.int z)) (zRp Z Λ S1)) (h4 : sc S1 4 = 1 := by first | assumption | exact (cset_ne (by decide)).trans (by assumption) | exact (cset_ne (by omega)).trans (by assumption)) : zHfC Z l mmW As x m o od S (.int 0) (wP S1 1000 (oN (cv z))) :=
  wr_ok hw h3 h5 hd hc hs (fun Λ M Q hR hQ => hf Λ M hR Q (fun M' hR' => hQ Λ M' hR' ⟨rfl, rfl, rfl, rfl⟩)) h4
/-- and where nothing is written -/
theorem wr_okD {cv : Int32 → Int64} {cd : Nat → Option Int32} {z : Int32} (hw : zWr Z l mmW mmC x o As (.ref x :: Cs) cv cd) (h3 : sc S 3 = 1) (h5 : sc S 5 = 1) (hd : d ≤ 9) (hc : mc ≤ 200) (hs : ms ≤ 1000)
    (hf : ∀ Λ M, zRp Z Λ S M → zD Z l d mmC (.ref (Λ 1) :: Cs) M mc ms (some (.int z)) M) (h4 : sc S 4 = 1 := by first | assumption | exact (cset_ne (by decide)).trans (by assumption) | exact (cset_ne (by omega)).trans (by assumption)) : zHfC Z l mmW As x m o od S (.int 0) (wP S 1000 (oN (cv z))) :=
  wr_ok hw h3 h5 hd hc hs (fun Λ M Q hR hQ => hf Λ M hR Q (hQ Λ M hR ⟨rfl, rfl, rfl, rfl⟩)) h4
/-- a throw, through the wrapper -/
theorem wr_tw {cv : Int32 → Int64} {cd : Nat → Option Int32} {k : Nat} {c : Int32} (hw : zWr Z l mmW mmC x o As (.ref x :: Cs) cv cd) (h3 : sc S 3 = 1) (hd : d ≤ 9) (hc : mc ≤ 200) (hs : ms ≤ 1000) (hf : ∀ Λ M, zRp Z Λ S M → zTw Z l d mmC (.ref (Λ 1) :: Cs) M mc ms k M) (hcd : cd k = some c) (h4 : sc S 4 = 1 := by first | assumption | exact (cset_ne (by decide)).trans (by assumption) | exact (cset_ne (by omega)).trans (by assumption)) : zHfC Z l mmW As x m o od S (.int c) S := by
  refine ⟨?_, h4⟩
  rintro M ⟨Λ, hR, h1, h2, h4, h6⟩ Q hQ
  refine zX.more (hw M Q (fun oc M' => oc = .inr k ∧ M' = M) mc ms (by rw [← h1]; exact hR.kd (lvC h3 (by omega))) (by rw [← h1]; exact ((hf Λ M hR _ ⟨rfl, rfl⟩).deep hd)) (fun v M' hv => nomatch hv.1) (fun k' M' hk => ?_)) hc hs
  obtain ⟨e1, rfl⟩ := hk
  cases e1
  exact ⟨c, hcd, hQ _ ⟨Λ, hR, h1, h2, h4, h6⟩⟩
theorem wr_gt {cv : Int32 → Int64} {cd : Nat → Option Int32} {k : Nat} {c : Int32} (hw : zWr Z l mmW mmC x o As (.ref x :: Cs) cv cd) (h3 : sc S 3 = 1) (hd : d ≤ 9) (hc : mc ≤ 200) (hs : ms ≤ 1000)
    (hf : ∀ Λ M, zRp Z Λ S M → zGt Z l d mmC (.ref (Λ 1) :: Cs) M mc ms k (zRp Z Λ S1)) (hcd : cd k = some c) (h4 : sc S1 4 = 1 := by first | assumption | exact (cset_ne (by decide)).trans (by assumption) | exact (cset_ne (by omega)).trans (by assumption)) : zHfC Z l mmW As x m o od S (.int c) S1 := by
  refine ⟨?_, h4⟩
  rintro M ⟨Λ, hR, h1, h2, h4, h6⟩ Q hQ
  refine zX.more (hw M Q (fun oc M' => oc = .inr k ∧ zRp Z Λ S1 M') mc ms (by rw [← h1]; exact hR.kd (lvC h3 (by omega))) (by rw [← h1]; exact ((hf Λ M hR _ (fun M' h => ⟨rfl, h⟩)).deep hd)) (fun v M' hv => nomatch hv.1) (fun k' M' hk => ?_)) hc hs
  obtain ⟨e1, hR'⟩ := hk
  cases e1
  exact ⟨c, hcd, hQ _ ⟨Λ, hR', h1, h2, h4, h6⟩⟩
/-- the reference's part -/
theorem md_c {v : Value} (hd : d ≤ 10) (hc : mc ≤ 200) (hs : ms ≤ 1000) (hf : ∀ Λ M (Q : zO → zMem → Prop), zRp Z Λ S M → (∀ Λ' M', zRp Z Λ' S1 M' → zSame Λ Λ' → Q (.inl (some v)) M') → zX Z l d mm 0 (lv_args 0 (.ref (Λ 1001) :: Bs)) [] M mc ms Q) : zHf Z l mm (.ref m :: Bs) x m o od S v S1 := by
  rintro M ⟨Λ, hR, h1, h2, h4, h6⟩ Q hQ
  rw [← h2]
  exact zX.more ((hf Λ M Q hR (fun Λ' M' hR' hs => hQ M' ⟨Λ', hR', hs.to h1 h2 h4 h6⟩)).deep hd) hc hs
theorem md_g {v : Value} (hd : d ≤ 10) (hc : mc ≤ 200) (hs : ms ≤ 1000) (hf : ∀ Λ M, zRp Z Λ S M → zG Z l d mm (.ref (Λ 1001) :: Bs) M mc ms (some v) (zRp Z Λ S1)) : zHf Z l mm (.ref m :: Bs) x m o od S v S1 :=
  md_c hd hc hs (fun Λ M Q hR hQ => hf Λ M hR Q (fun M' hR' => hQ Λ M' hR' ⟨rfl, rfl, rfl, rfl⟩))
/-- the class's part, where the law calls it itself -/
theorem cl_c {v : Value} (hd : d ≤ 10) (hc : mc ≤ 200) (hs : ms ≤ 1000) (hf : ∀ Λ M (Q : zO → zMem → Prop), zRp Z Λ S M → (∀ Λ' M', zRp Z Λ' S1 M' → zSame Λ Λ' → Q (.inl (some v)) M') → zX Z l d mm 0 (lv_args 0 (.ref (Λ 1) :: Bs)) [] M mc ms Q) (h4 : sc S1 4 = 1 := by first | assumption | exact (cset_ne (by decide)).trans (by assumption) | exact (cset_ne (by omega)).trans (by assumption)) : zHfC Z l mm (.ref x :: Bs) x m o od S v S1 := by
  refine ⟨?_, h4⟩
  rintro M ⟨Λ, hR, h1, h2, h4, h6⟩ Q hQ
  rw [← h1]
  exact zX.more ((hf Λ M Q hR (fun Λ' M' hR' hs => hQ M' ⟨Λ', hR', hs.to h1 h2 h4 h6⟩)).deep hd) hc hs
theorem cl_g {v : Value} (hd : d ≤ 10) (hc : mc ≤ 200) (hs : ms ≤ 1000) (hf : ∀ Λ M, zRp Z Λ S M → zG Z l d mm (.ref (Λ 1) :: Bs) M mc ms (some v) (zRp Z Λ S1)) (h4 : sc S1 4 = 1 := by first | assumption | exact (cset_ne (by decide)).trans (by assumption) | exact (cset_ne (by omega)).trans (by assumption)) : zHfC Z l mm (.ref x :: Bs) x m o od S v S1 :=
  cl_c hd hc hs (fun Λ M Q hR hQ => hf Λ M hR Q (fun M' hR' => hQ Λ M' hR' ⟨rfl, rfl, rfl, rfl⟩)) h4
theorem cl_d {v : Value} (hd : d ≤ 10) (hc : mc ≤ 200) (hs : ms ≤ 1000) (hf : ∀ Λ M, zRp Z Λ S M → zD Z l d mm (.ref (Λ 1) :: Bs) M mc ms (some v) M) (h4 : sc S 4 = 1 := by first | assumption | exact (cset_ne (by decide)).trans (by assumption) | exact (cset_ne (by omega)).trans (by assumption)) : zHfC Z l mm (.ref x :: Bs) x m o od S v S :=
  cl_c hd hc hs (fun Λ M Q hR hQ => hf Λ M hR Q (hQ Λ M hR ⟨rfl, rfl, rfl, rfl⟩)) h4
end ZOP0
-- what the relation rests on, field by field
section ZTO
variable {S S' : zSt}
theorem rPi.to (h : rPi S) (hc : sc S' = sc S) (hV : ∀ r k, (352 ≤ k ∧ k ≤ 354) ∨ (576 ≤ k ∧ k ≤ 578) → sV S' r k = sV S r k) (hW : ∀ r k, (110 ≤ r ∧ r < 120) ∨ (1110 ≤ r ∧ r < 1120) → sW S' r k = sW S r k) (h6 : sc S 0 ≤ 6) : rPi S' := by
  intro i hi
  rw [hc] at hi
  have g := h i hi
  rw [hV _ 352 (by omega), hV _ 353 (by omega), hV _ 354 (by omega), hV _ 576 (by omega), hV _ 577 (by omega), hV _ 578 (by omega)]
  refine ⟨g.1, fun j hj => ?_⟩
  rw [hW _ _ (by omega), hW _ _ (by omega)]
  exact g.2 j hj
theorem rAc.to (h : rAc S) (hc : sc S' = sc S) (hV : ∀ r k, (160 ≤ k ∧ k ≤ 167) ∨ (544 ≤ k ∧ k ≤ 550) → sV S' r k = sV S r k) : rAc S' := by
  intro a ha
  rw [hc] at ha
  have g := h a ha
  rw [hV _ 160 (by omega), hV _ 161 (by omega), hV _ 162 (by omega), hV _ 163 (by omega), hV _ 164 (by omega), hV _ 165 (by omega), hV _ 166 (by omega), hV _ 167 (by omega), hV _ 544 (by omega), hV _ 545 (by omega), hV _ 546 (by omega), hV _ 547 (by omega), hV _ 548 (by omega), hV _ 549 (by omega), hV _ 550 (by omega)]
  exact g
theorem rGr.to (h : rGr S) (hc : sc S' = sc S) (hV : ∀ r k, k = 168 ∨ k = 551 → sV S' r k = sV S r k) : rGr S' := by
  intro a ha
  rw [hc] at ha
  have g := h a ha
  rw [hc, hV _ 551 (by omega)]
  refine ⟨g.1, fun b hb => ?_⟩
  rw [hV _ 168 (by omega), hV _ 551 (by omega)]
  exact g.2 b hb
theorem rTu.to (h : rTu S) (hc : sc S' = sc S) (hT : sT S' = sT S) (hV : ∀ r k, (417 ≤ k ∧ k ≤ 424) ∨ (608 ≤ k ∧ k ≤ 615) → sV S' r k = sV S r k) : rTu S' := by
  intro i k hi hk
  rw [hc] at hi hk
  have g := h i k hi hk
  rw [hc, hT, hV _ 608 (by omega), hV _ 609 (by omega), hV _ 610 (by omega), hV _ 611 (by omega), hV _ 612 (by omega), hV _ 613 (by omega), hV _ 614 (by omega), hV _ 615 (by omega), hV _ 417 (by omega), hV _ 418 (by omega), hV _ 419 (by omega), hV _ 420 (by omega), hV _ 421 (by omega), hV _ 422 (by omega), hV _ 423 (by omega), hV _ 424 (by omega)]
  exact g
theorem rOn.to (h : rOn S) (hc : sc S' = sc S) (hT : sT S' = sT S) : rOn S' := by
  unfold rOn
  rw [hc, hT]
  exact h
theorem rVi.to (h : rVi S) (hc : sc S' = sc S) (hP : ∀ j, j < 6 → sP S' j = sP S j) (h2 : sc S 2 ≤ 6) (hV : ∀ r k, (449 ≤ k ∧ k ≤ 451) ∨ (640 ≤ k ∧ k ≤ 643) → sV S' r k = sV S r k) : rVi S' := by
  intro j hj
  rw [hc] at hj
  have g := h j hj
  rw [hc, hP j (by omega), hV _ 449 (by omega), hV _ 450 (by omega), hV _ 451 (by omega), hV _ 640 (by omega), hV _ 641 (by omega), hV _ 642 (by omega), hV _ 643 (by omega)]
  exact g
theorem fPlaced_to (hW : ∀ j, sW S' 11 j = sW S 11 j) : ∀ j, fPlaced S' j = fPlaced S j
  | 0 => rfl
  | j + 1 => by
    show fPlaced S' j ||| zbit (sW S' 11 j) = fPlaced S j ||| zbit (sW S 11 j)
    rw [fPlaced_to hW j, hW]
theorem fAllow_to {n : Nat} (h : fAllow S n) (hW : ∀ r j, r = 11 ∨ r = 12 → sW S' r j = sW S r j) : fAllow S' n := by
  intro k hk
  obtain ⟨a, h1, h2, h3, h4⟩ := h k hk
  refine ⟨a, h1, ?_, ?_, ?_⟩
  · rw [hW _ _ (Or.inl rfl)]; exact h2
  · rw [fPlaced_to (fun j => hW _ _ (Or.inl rfl))]; exact h3
  · rw [fPlaced_to (fun j => hW _ _ (Or.inl rfl)), hW _ _ (Or.inr rfl)]; exact h4
theorem rLo.to (h : rLo S) (hc : sc S' = sc S) (hV : ∀ r k, k = 32 ∨ (323 ≤ k ∧ k ≤ 325) ∨ k = 679 ∨ k = 681 → sV S' r k = sV S r k) (hW : ∀ r j, r = 11 ∨ r = 12 → sW S' r j = sW S r j) : rLo S' := by
  obtain ⟨g1, g2, g3, g4, g5, g6⟩ := h
  unfold rLo
  rw [hc, hV 4 323 (by omega), hV 4 324 (by omega), hV 4 325 (by omega), hV 1001 679 (by omega), hV 1001 681 (by omega)]
  refine ⟨g1, fun j hj => ?_, g3, g4, g5, fAllow_to g6 hW⟩
  rw [hV _ 32 (by omega), hW _ _ (Or.inl rfl)]
  exact g2 j hj
theorem rWe.to (h : rWe S) (hV : ∀ r k, (480 ≤ k ∧ k ≤ 482) ∨ k = 288 ∨ k = 289 ∨ (682 ≤ k ∧ k ≤ 686) → sV S' r k = sV S r k) : rWe S' := by
  unfold rWe
  rw [hV 5 480 (by omega), hV 5 481 (by omega), hV 5 482 (by omega), hV 6 288 (by omega), hV 6 289 (by omega), hV 1001 682 (by omega), hV 1001 683 (by omega), hV 1001 684 (by omega), hV 1001 685 (by omega), hV 1001 686 (by omega)]
  exact h
theorem rDa.to (h : rDa S) (hc : sc S' = sc S) (hV : ∀ r k, k = 32 ∨ (228 ≤ k ∧ k ≤ 232) ∨ k = 257 ∨ k = 680 ∨ (687 ≤ k ∧ k ≤ 689) → sV S' r k = sV S r k) (hW : ∀ j, sW S' 14 j = sW S 14 j) : rDa S' := by
  unfold rDa
  rw [hc, hV 7 228 (by omega), hV 7 229 (by omega), hV 7 230 (by omega), hV 7 232 (by omega), hV 8 257 (by omega), hV 1001 680 (by omega), hV 1001 687 (by omega), hV 1001 688 (by omega), hV 1001 689 (by omega)]
  obtain ⟨g1, g2, g3, g4, g5⟩ := h
  refine ⟨g1, g2, g3, g4, fun a h1 h2 => ?_⟩
  rw [hV _ 32 (by omega), hW]
  exact g5 a h1 h2
theorem rFr.to (h : rFr S) (hc : sc S' = sc S) (hV : ∀ r k, k = 228 ∨ (417 ≤ k ∧ k ≤ 424) ∨ k = 450 ∨ k = 451 → sV S' r k = sV S r k) : rFr S' := by
  intro h0
  rw [hV 7 228 (by omega)] at h0
  obtain ⟨g1, g2⟩ := h h0
  rw [hc]
  refine ⟨fun i k hi hk => ?_, fun j hj => ?_⟩
  · rw [hV _ 418 (by omega), hV _ 419 (by omega), hV _ 420 (by omega), hV _ 421 (by omega), hV _ 422 (by omega), hV _ 423 (by omega), hV _ 424 (by omega)]
    exact g1 i k hi hk
  · rw [hV _ 450 (by omega), hV _ 451 (by omega)]
    exact g2 j hj
theorem fMoney_S (hV : ∀ a, sV S' (140 + a) 167 = sV S (140 + a) 167) : ∀ n, fMoney S' n = fMoney S n
  | 0 => rfl
  | n + 1 => by
    show fMoney S' n + sV S' (140 + n) 167 = fMoney S n + sV S (140 + n) 167
    rw [fMoney_S hV n, hV]
theorem fOver_S {i : Nat} (hV : ∀ r k, k = 418 ∨ k = 423 → sV S' r k = sV S r k) : ∀ n, fOver S' i n = fOver S i n
  | 0 => rfl
  | n + 1 => by
    show (if sV S' (160 + 8 * i + n) 423 = 0 then fOver S' i n else sV S' (160 + 8 * i + n) 418) = (if sV S (160 + 8 * i + n) 423 = 0 then fOver S i n else sV S (160 + 8 * i + n) 418)
    rw [fOver_S hV n, hV _ 418 (by omega), hV _ 423 (by omega)]
theorem fApart_S {i : Nat} (h : fApart S i) (hc : sc S' (10 + i) = sc S (10 + i)) (hV : ∀ r k, k = 417 ∨ k = 418 ∨ k = 423 → sV S' r k = sV S r k) : fApart S' i := by
  intro k hk
  rw [hc] at hk
  rw [hV _ 423 (by omega), hV _ 417 (by omega), hV _ 418 (by omega), fOver_S (fun r k h => hV r k (by omega))]
  exact h k hk
theorem rSo.to (h : rSo S) (hc : sc S' = sc S) (hV : ∀ r k, k = 167 ∨ k = 231 ∨ k = 232 ∨ k = 417 ∨ k = 418 ∨ k = 423 → sV S' r k = sV S r k) : rSo S' := by
  refine ⟨?_, fun i hi => ?_⟩
  · rw [hc, fMoney_S (fun a => hV _ 167 (by omega)), hV 7 231 (by omega), hV 7 232 (by omega)]
    exact h.1
  · rw [hc] at hi
    exact fApart_S (h.2 i hi) (by rw [hc]) (fun r k hk => hV r k (by omega))
/-- only the reference's note of what it threw, and the law's own rows, differ -/
theorem rRel.to (h : rRel S) (hc : sc S' = sc S) (hT : sT S' = sT S) (hW : sW S' = sW S) (hP : ∀ j, j < 6 ∨ j = 1010 → sP S' j = sP S j) (hV : ∀ r k, k ≠ 672 → sV S' r k = sV S r k) : rRel S' := by
  refine ⟨⟨by rw [hc]; exact h.ct, h.pi.to hc (fun r k _ => hV r k (by omega)) (fun r k _ => by rw [hW]) h.b0, h.ac.to hc (fun r k _ => hV r k (by omega)), h.gr.to hc (fun r k _ => hV r k (by omega)), by rw [hc, hW]; exact h.cu⟩, ⟨h.tu.to hc hT (fun r k _ => hV r k (by omega)), h.on.to hc hT, h.vi.to hc (fun j hj => hP j (Or.inl hj)) h.b2 (fun r k _ => hV r k (by omega)), h.lo.to hc (fun r k _ => hV r k (by omega)) (fun r j _ => by rw [hW])⟩, h.we.to (fun r k _ => hV r k (by omega)), h.da.to hc (fun r k _ => hV r k (by omega)) (fun j => by rw [hW]), h.fr.to hc (fun r k _ => hV r k (by omega)), h.so.to hc (fun r k _ => hV r k (by omega)), ?_⟩
  rw [hP 1010 (Or.inr rfl)]
  exact h.p10
theorem rRel.mT (h : rRel S) (c : Int32) : rRel (mT S c) := h.to rfl rfl rfl (fun _ _ => rfl) (fun r k hk => u2_k hk _)
theorem rRel.wP (h : rRel S) {j n : Nat} (h1 : 6 ≤ j) (h2 : j ≠ 1010) : rRel (wP S j n) := h.to rfl rfl rfl (fun i hi => u1_ne (by omega)) (fun r k hk => rfl)
/-- an exception on both sides -/
theorem op_ex {Z : zPar} {l : Launch} {x m o od : Nat} {mW mM : zMeth} {As Bs : List Value} {cv : Int32 → Int64} {c b : Int32} (h : rRel S) (h1 : zHfC Z l mW As x m o od S (.int c) S) (h2 : zHf Z l mM Bs x m o od S (.int b) (mT S c)) (hc : ¬ c = 0) : zOp Z l x m o od mW mM As Bs cv S :=
  ⟨c, b, S, mT S c, h1, h2, (show u2 (sV S) 1001 672 c 1001 672 = c from u2_at), fun g => absurd g hc, h.mT c⟩
theorem op_ex2 {Z : zPar} {l : Launch} {x m o od : Nat} {mW mM : zMeth} {As Bs : List Value} {cv : Int32 → Int64} {c b c0 : Int32} (h : rRel S) (h1 : zHfC Z l mW As x m o od S (.int c) S) (h2 : zHf Z l mM Bs x m o od S (.int b) (mT (mT S c0) c)) (hc : ¬ c = 0) : zOp Z l x m o od mW mM As Bs cv S :=
  ⟨c, b, S, mT (mT S c0) c, h1, h2, (show u2 (u2 (sV S) 1001 672 c0) 1001 672 c 1001 672 = c from u2_at), fun g => absurd g hc, (h.mT c0).mT c⟩
end ZTO
