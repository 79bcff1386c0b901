/-! THE MODEL'S ROW OF SIX BOOLEANS, while it plays: at P 1002, what it holds from P 1003 on -/
section ZBROW
variable {Z : zPar} {l : Launch} {Λ : Nat → Nat} {S : zSt} {M M' : zMem} {d : Nat} {mm : zMeth} {pc n nc ns ix nc1 ns1 q x : Nat} {L : List (Nat × Value)} {st : List Value} {Q : zO → zMem → Prop} {P' : Nat → Nat}
/-- that part of the state may be told anew -/
theorem zRp_bz (h : zRp Z Λ S M) (hP : ∀ j, j < 1002 → P' j = sP S j) (hb : P' 1010 = 1 → mK M (P' 1002) = 2 ∧ mN M (P' 1002) = 6 ∧ mG M (P' 1002) = 42 ∧ ∀ x, x < 6 → aI M (P' 1002) x = Int32.ofNat (P' (1003 + x))) : zRp Z Λ (sc S, sV S, sW S, sT S, P') M := by
  have hb2 := h.bnd.1.2.2.1
  obtain ⟨b1, b2, b3, b4, b5, ⟨b6, b7⟩, b8, ⟨b9, b10⟩, b11⟩ := h
  refine ⟨b1, b2, b3, b4, b5, ⟨b6, fun j hj => ?_⟩, b8, ⟨fun h5 => ?_, hb⟩, b11⟩
  · have hj' : j < sc S 2 := hj
    show P' j < sc S 0 ∧ vR M (Λ (150 + j)) 448 = some (Λ (100 + P' j))
    rw [hP j (by omega)]
    exact b7 j hj'
  · show (mK M (Λ 40) = 5 ∧ mN M (Λ 40) = 1 ∧ aL M (Λ 40) 0 = lN (P' 1000)) ∧ mK M (Λ 41) = 6 ∧ mN M (Λ 41) = 1 ∧ aD M (Λ 41) 0 = UInt64.ofNat (P' 1001)
    rw [hP 1000 (by decide), hP 1001 (by decide)]
    exact b9 h5
/-- a row of mark 42 may change as it likes, where nothing is told of it -/
theorem zRp_ag42 (h : zRp Z Λ S M) (hoff : sP S 1010 ≠ 1) (hq : mK M q = 2 ∧ mG M q = 42) (hag : ∀ a, a ≠ q → zAg M M' a) : zRp Z Λ S M' := by
  have hb := h.bnd
  have hn : ∀ s, zlv (sc S) s → Λ s ≠ q := fun s hs e => by
    have := h.mk hs
    rw [e, hq.2] at this
    exact zlv_42 hs this.symm
  have hnr : ∀ s, zlv (sc S) s → zki s = 14 → Λ (zrw s) ≠ q := fun s hs hk e => by
    have := (h.li hs hk).row
    rw [e, hq.1] at this
    omega
  refine zRp.of hb (fun s hs => (h.one hs).keep hb hs (fun _ _ => rfl) (fun _ => rfl) (hag _ (hn s hs)) (fun hk => hag _ (hnr s hs hk)) (fun _ => rfl) (fun _ _ _ => rfl) (fun _ => rfl) (fun i k hi hk _ => ⟨hi, hk, rfl, Nat.le_refl _⟩) (fun j hj _ => ⟨hj, rfl, Nat.le_refl _⟩)) ⟨fun i hi => ?_, fun i hi => ?_⟩ ⟨⟨fun h5 => ?_, fun h9 => absurd h9 hoff⟩, h.emp.keep (fun a ha => hag a (fun e => by rw [e, hq.1] at ha; omega))⟩
  · obtain ⟨q1, q2⟩ := h.ints.1 i hi
    have e := hag (Λ (1300 + i)) (fun e => by rw [e, hq.1] at q1; omega)
    unfold zIok
    rw [e.1, e.2.2.2.1]
    exact ⟨q1, q2⟩
  · obtain ⟨q1, q2⟩ := h.ints.2 i hi
    have e := hag (Λ (1320 + i)) (fun e => by rw [e, hq.1] at q1; omega)
    unfold zIok
    rw [e.1, e.2.2.2.1]
    exact ⟨q1, q2⟩
  · obtain ⟨⟨a1, a2, a3⟩, a4, a5, a6⟩ := h.outs.1 h5
    have e1 := hag (Λ 40) (fun e => by rw [e, hq.1] at a1; omega)
    have e2 := hag (Λ 41) (fun e => by rw [e, hq.1] at a4; omega)
    rw [e1.1, e1.2.1, e1.2.2.2.2.2.2.2.1, e2.1, e2.2.1, e2.2.2.2.2.2.2.2.2]
    exact ⟨⟨a1, a2, a3⟩, a4, a5, a6⟩
/-- a place of it written -/
theorem zRp_bst (h : zRp Z Λ S M) (h9 : sP S 1010 = 1) (b : Nat) : zRp Z Λ (sc S, sV S, sW S, sT S, u1 (sP S) (1003 + x) b) (sAI M (sP S 1002) x (Int32.ofNat b)) := by
  obtain ⟨c1, c2, c3, c4⟩ := h.outs.2 h9
  have h0 : zRp Z Λ (sc S, sV S, sW S, sT S, u1 (sP S) 1010 0) M := zRp_bz h (fun j hj => u1_ne (by omega)) (fun h8 => by rw [u1_at] at h8; exact absurd h8 (by decide))
  have h1 : zRp Z Λ (sc S, sV S, sW S, sT S, u1 (sP S) 1010 0) (sAI M (sP S 1002) x (Int32.ofNat b)) := zRp_ag42 h0 (by show u1 (sP S) 1010 0 1010 ≠ 1; rw [u1_at]; decide) ⟨c1, c3⟩ (fun a ha => ⟨rfl, rfl, rfl, rfl, rfl, u2_ne ha, rfl, rfl, rfl⟩)
  refine zRp_bz (S := (sc S, sV S, sW S, sT S, u1 (sP S) 1010 0)) h1 (fun j hj => ?_) (fun h8 => ?_)
  · show u1 (sP S) (1003 + x) b j = u1 (sP S) 1010 0 j
    rw [u1_ne (by omega), u1_ne (by omega)]
  · rw [show u1 (sP S) (1003 + x) b 1002 = sP S 1002 from u1_ne (by omega)]
    refine ⟨c1, c2, c3, fun y hy => ?_⟩
    show u2 (aI M) (sP S 1002) x (Int32.ofNat b) (sP S 1002) y = Int32.ofNat (u1 (sP S) (1003 + x) b (1003 + y))
    by_cases e : y = x
    · subst e
      rw [u2_at, u1_at]
    · rw [u2_k e, u1_ne (by omega)]
      exact c4 y hy
def bzP (P : Nat → Nat) (q : Nat) : Nat → Nat := fun j => if j = 1010 then 1 else if j = 1002 then q else if 1003 ≤ j ∧ j < 1009 then 0 else P j
theorem zb_new (hd : decode (zMC mm) pc = .ok (.newarray .boolean, 2)) (hw : zwd (.arrayClass .boolean)) (hR : zRp Z Λ S M) (hn : pc + 2 = n) (hc1 : nc1 + 1 ≤ nc) (hs1 : ns1 + 6 ≤ ns) (kk : ∀ q M', zRp Z Λ (sc S, sV S, sW S, sT S, bzP (sP S) q) M' → zX Z l d mm n L (.ref q :: st) M' nc1 ns1 Q) : zX Z l d mm pc L (.int 6 :: st) M nc ns Q := by
  refine zs_newZ (N := 6) (nc1 := nc1) (ns1 := ns1) 42 hd hw (by decide) (by decide) (by decide) hn hc1 hs1 (fun q hq => kk q _ ?_)
  refine zRp_bz (hR.new0 (kind := 2) (len := 6) (g := 42) hq) (fun j hj => ?_) (fun _ => ⟨u1_at, u1_at, u1_at, fun x hx => ?_⟩)
  · unfold bzP
    rw [if_neg (by omega), if_neg (by omega), if_neg (by omega)]
  · show u1 (aI M) q (fun _ => 0) q x = Int32.ofNat (bzP (sP S) q (1003 + x))
    rw [u1_at]
    unfold bzP
    rw [if_neg (by omega), if_neg (by omega), if_pos (by omega)]
    rfl
theorem zb_st {b : Bool} (hd : decode (zMC mm) pc = .ok (.bastore, 1)) (hR : zRp Z Λ S M) (h9 : sP S 1010 = 1) (hq : sP S 1002 = q) (hx : x < 6) (hn : pc + 1 = n) (kk : ∀ M', zRp Z Λ (sc S, sV S, sW S, sT S, u1 (sP S) (1003 + x) (if b = true then 1 else 0)) M' → zX Z l d mm n L st M' nc ns Q) : zX Z l d mm pc L (.int (zb b) :: .int (nI x) :: .ref q :: st) M nc ns Q := by
  subst hq
  obtain ⟨c1, c2, c3, c4⟩ := hR.outs.2 h9
  refine zs_zast hd c1 (by rw [c2]; exact vp_in_nI hx (by decide)) (by cases b <;> rfl) hn ?_
  rw [nI_clamp (by omega), show zb b = Int32.ofNat (if b = true then 1 else 0) from by cases b <;> rfl]
  exact kk _ (zRp_bst hR h9 _)
theorem zb_ld (hd : decode (zMC mm) pc = .ok (.baload, 1)) (hR : zRp Z Λ S M) (h9 : sP S 1010 = 1) (hq : sP S 1002 = q) (hx : x < 6) (hn : pc + 1 = n) (kk : zX Z l d mm n L (.int (Int32.ofNat (sP S (1003 + x))) :: st) M nc ns Q) : zX Z l d mm pc L (.int (nI x) :: .ref q :: st) M nc ns Q := by
  subst hq
  obtain ⟨c1, c2, c3, c4⟩ := hR.outs.2 h9
  refine zs_zald hd c1 (by rw [c2]; exact vp_in_nI hx (by decide)) hn ?_
  rw [nI_clamp (by omega), c4 x hx]
  exact kk
end ZBROW
