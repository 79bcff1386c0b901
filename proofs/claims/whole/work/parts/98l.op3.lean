/-! OPERATIONS 3: the setters -/

theorem rel_line {S S' : zSt} {i : Nat} {q : Int32} (h : rRel S) (hc : sc S' = sc S) (hT : sT S' = sT S) (hW : sW S' = sW S) (hP : ∀ j, j < 6 ∨ j = 1010 → sP S' j = sP S j) (hV : ∀ r k, k ≠ 672 → sV S' r k = if k = 547 ∧ r = 1140 + i then q else if k = 165 ∧ r = 140 + i then q else sV S r k) (hq : rN q 1 9) : rRel S' := by
  refine h.acts hc hT hW hP (fun r k k1 k2 k3 k4 k5 => by rw [hV r k k1, if_neg (by omega), if_neg (by omega)]) (fun a ha => ?_)
  rw [hc] at ha
  have g := h.ac a ha
  simp (config := { decide := true }) only [hV, ne_eq, Nat.reduceEqDiff, not_false_eq_true, false_and, if_false, true_and]
  by_cases e : a = i
  · subst e
    rw [if_pos rfl, if_pos rfl]
    exact ⟨g.1, g.2.1, g.2.2.1, g.2.2.2.1, g.2.2.2.2.1, ⟨rfl, hq⟩, g.2.2.2.2.2.2⟩
  · rw [if_neg (show ¬ 1140 + a = 1140 + i by omega), if_neg (show ¬ 140 + a = 140 + i by omega)]
    exact g
theorem rel_perm {S S' : zSt} {i : Nat} {q : Int32} (h : rRel S) (hc : sc S' = sc S) (hT : sT S' = sT S) (hW : sW S' = sW S) (hP : ∀ j, j < 6 ∨ j = 1010 → sP S' j = sP S j) (hV : ∀ r k, k ≠ 672 → sV S' r k = if k = 549 ∧ r = 1140 + i then q else if k = 166 ∧ r = 140 + i then q else sV S r k) (hq : q = 0 ∨ q = 1) : rRel S' := by
  refine h.acts hc hT hW hP (fun r k k1 k2 k3 k4 k5 => by rw [hV r k k1, if_neg (by omega), if_neg (by omega)]) (fun a ha => ?_)
  rw [hc] at ha
  have g := h.ac a ha
  simp (config := { decide := true }) only [hV, ne_eq, Nat.reduceEqDiff, not_false_eq_true, false_and, if_false, true_and]
  by_cases e : a = i
  · subst e
    rw [if_pos rfl, if_pos rfl]
    exact ⟨g.1, g.2.1, g.2.2.1, g.2.2.2.1, g.2.2.2.2.1, g.2.2.2.2.2.1, ⟨rfl, hq⟩, g.2.2.2.2.2.2.2⟩
  · rw [if_neg (show ¬ 1140 + a = 1140 + i by omega), if_neg (show ¬ 140 + a = 140 + i by omega)]
    exact g
theorem rel_pass {S S' : zSt} {i hh : Nat} {q : Int32} (h : rRel S) (hc : sc S' = sc S) (hT : sT S' = sT S) (hP : ∀ j, j < 6 ∨ j = 1010 → sP S' j = sP S j) (hV : ∀ r k, k ≠ 672 → sV S' r k = sV S r k) (hW : ∀ r k, sW S' r k = if k = hh ∧ r = 1110 + i then q else if k = hh ∧ r = 110 + i then q else sW S r k) (hi : i < sc S 0) (hq : rN q 0 600) : rRel S' := by
  have b0 := h.b0
  refine h.rows hc hT hP hV (fun r k hr => by rw [hW, if_neg (by omega), if_neg (by omega)]) (fun a ha => ?_) (h.cu.to (fun k => by rw [hW, if_neg (by omega), if_neg (by omega)]) (fun a k ha _ => by rw [hW, if_neg (by omega), if_neg (by omega)]))
  rw [hc] at ha
  obtain ⟨g1, g2⟩ := h.pi a ha
  refine ⟨?_, fun j hj => ?_⟩
  · rw [hV _ 576 (by omega), hV _ 577 (by omega), hV _ 578 (by omega), hV _ 352 (by omega), hV _ 353 (by omega), hV _ 354 (by omega)]
    exact g1
  · rw [hW, hW]
    by_cases e : a = i ∧ j = hh
    · obtain ⟨rfl, rfl⟩ := e
      rw [if_pos ⟨rfl, rfl⟩, if_neg (by omega), if_pos ⟨rfl, rfl⟩]
      exact ⟨rfl, hq⟩
    · rw [if_neg (by omega), if_neg (by omega), if_neg (by omega), if_neg (by omega)]
      exact g2 j hj

section ZOP3
variable {Z : zPar} {l : Launch} {x m o od : Nat} {S : zSt}

theorem op_setLine (hS : rRel S) (p q : Int32) : zOp Z l x m o od mth_L_setLine mth_X16_setLine [.ref x, .int p, .int q, .ref o] [.ref m, .int p, .int q] cvI S := by
  have c0 := hS.c0
  have c1 := hS.c1
  have c2 := hS.c2
  have h3 := hS.h3
  have h4 := hS.h4
  have h5 := hS.h5
  have b0 := hS.b0
  have b1 := hS.b1
  have b2 := hS.b2
  by_cases hx : ¬ p < 0 ∧ ¬ nI (sc S 1) ≤ p
  rotate_left
  · skip
    exact op_ex hS (wr_tw wr_L_setLine h3 (by omega) (by omega) (by omega) (fun Λ M hR => f_setLine_0 hR h3 hx) rfl)
      (md_g (by omega) (by omega) (by omega) (fun Λ M hR => k_setLine_1 hR h4 (by rw [c1]; exact hx))) (by decide)
  obtain ⟨i, hi, rfl⟩ := ix_of (by omega) hx
  by_cases g : q < 1 ∨ ¬ q ≤ 9
  · skip
    exact op_ex2 hS (wr_tw wr_L_setLine h3 (by omega) (by omega) (by omega) (fun Λ M hR => f_setLine_1 hR h3 hi g) rfl)
      (md_g (by omega) (by omega) (by omega) (fun Λ M hR => k_setLine_2 hR h4 (by rw [c1]; exact hi) g)) (by decide)
  have g1 : ¬ q < 1 := fun h => g (Or.inl h)
  have g2 : q ≤ 9 := Decidable.byContradiction (fun h => g (Or.inr h))
  have hA := hS.ac i hi
  refine ⟨0, _, _, _, wr_okG wr_L_setLine h3 (by exact h5) (by omega) (by omega) (by omega) (fun Λ M hR => f_setLine hR h3 hi g1 g2), md_g (by omega) (by omega) (by omega) (fun Λ M hR => k_setLine hR h4 (show i < sc S 1001 by rw [c1]; exact hi) g1 g2), rfl, fun _ => ?_, ?_⟩
  · skip
    show lN (u1 (sP S) 1000 (oN (cvI (sV S (140 + i) 165))) 1000) = cvI (u2 (sV S) (140 + i) 165 q (1140 + i) 547)
    rw [u1_at, lN_oN]
    rw [u2_k (by omega), hA.2.2.2.2.2.1.1]
  · skip
    refine rel_line (i := i) (q := q) hS rfl rfl rfl (fun j hj => u1_ne (by omega)) (fun r k hk => ?_) (rng_of (a := 1) (b := 9) (by decide) (by decide) g1 g2)
    show u2 (u2 (u2 (u2 (sV S) (140 + i) 165 q) 1001 672 0) 1001 672 0) (1140 + i) 547 q r k = _
    simp only [u2_if, hk, false_and, if_false]
theorem op_setPermit (hS : rRel S) (p q : Int32) (hq : q = 0 ∨ q = 1) : zOp Z l x m o od mth_L_setPermit mth_X16_setPermit [.ref x, .int p, .int q, .ref o] [.ref m, .int p, .int q] cvZ S := by
  have c0 := hS.c0
  have c1 := hS.c1
  have c2 := hS.c2
  have h3 := hS.h3
  have h4 := hS.h4
  have h5 := hS.h5
  have b0 := hS.b0
  have b1 := hS.b1
  have b2 := hS.b2
  by_cases hx : ¬ p < 0 ∧ ¬ nI (sc S 1) ≤ p
  rotate_left
  · skip
    exact op_ex hS (wr_tw wr_L_setPermit h3 (by omega) (by omega) (by omega) (fun Λ M hR => f_setPermit_0 hR h3 hx) rfl)
      (md_g (by omega) (by omega) (by omega) (fun Λ M hR => k_setPermit_1 hR h4 (by rw [c1]; exact hx))) (by decide)
  obtain ⟨i, hi, rfl⟩ := ix_of (by omega) hx
  have hA := hS.ac i hi
  refine ⟨0, _, _, _, wr_okG wr_L_setPermit h3 (by exact h5) (by omega) (by omega) (by omega) (fun Λ M hR => f_setPermit hR h3 hi hq hA.2.2.2.2.2.2.1.2), md_g (by omega) (by omega) (by omega) (fun Λ M hR => k_setPermit hR h4 (show i < sc S 1001 by rw [c1]; exact hi) hq (show u2 (sV S) (140 + i) 166 q (1140 + i) 549 = 0 ∨ u2 (sV S) (140 + i) 166 q (1140 + i) 549 = 1 by rw [u2_k (by omega), hA.2.2.2.2.2.2.1.1]; exact hA.2.2.2.2.2.2.1.2)), rfl, fun _ => ?_, ?_⟩
  · skip
    show lN (u1 (sP S) 1000 (oN (cvZ (sV S (140 + i) 166))) 1000) = cvZ (u2 (sV S) (140 + i) 166 q (1140 + i) 549)
    rw [u1_at, lN_oN]
    rw [u2_k (by omega), hA.2.2.2.2.2.2.1.1]
  · skip
    refine rel_perm (i := i) (q := q) hS rfl rfl rfl (fun j hj => u1_ne (by omega)) (fun r k hk => ?_) hq
    show u2 (u2 (u2 (sV S) (140 + i) 166 q) 1001 672 0) (1140 + i) 549 q r k = _
    simp only [u2_if, hk, false_and, if_false]
theorem op_seed (hS : rRel S) (q : Int32) : zOp Z l x m o od mth_L_seed mth_X16_seed [.ref x, .int q, .ref o] [.ref m, .int q] cvI S := by
  have c0 := hS.c0
  have c1 := hS.c1
  have c2 := hS.c2
  have h3 := hS.h3
  have h4 := hS.h4
  have h5 := hS.h5
  have b0 := hS.b0
  have b1 := hS.b1
  have b2 := hS.b2
  by_cases g : q < 1 ∨ ¬ q ≤ 2147483646
  · skip
    exact op_ex hS (wr_tw wr_L_seed h3 (by omega) (by omega) (by omega) (fun Λ M hR => f_seed_0 hR h3 g) rfl)
      (md_g (by omega) (by omega) (by omega) (fun Λ M hR => k_seed_1 hR h4 g)) (by decide)
  have g1 : ¬ q < 1 := fun h => g (Or.inl h)
  have g2 : q ≤ 2147483646 := Decidable.byContradiction (fun h => g (Or.inr h))
  obtain ⟨n, n1, n2, n3⟩ := rng_of (a := 1) (b := 2147483646) (by decide) (by decide) g1 g2
  obtain ⟨z, z1, z2, z3, z4⟩ := hS.lo.2.2.2.1
  refine ⟨0, _, _, _, wr_okG wr_L_seed h3 (by exact h5) (by omega) (by omega) (by omega) (fun Λ M hR => f_seed hR h3 g1 g2), md_g (by omega) (by omega) (by omega) (fun Λ M hR => k_seed hR h4 g1 g2), rfl, fun _ => ?_, ?_⟩
  · skip
    show lN (u1 (sP S) 1000 (oN (cvI (sV S 4 325))) 1000) = cvI (u2 (sV S) 4 325 q 1001 681)
    rw [u1_at, lN_oN]
    rw [u2_k (by omega), z3, z4]
  · skip
    refine hS.lots rfl rfl rfl (fun j hj => u1_ne (by omega)) (fun r k k1 k2 k3 => ?_) ⟨n, n2, by omega, ?_, ?_⟩
    · exact (u2_k k3 r).trans ((u2_k k1 r).trans (u2_k k2 r))
    · show u2 (u2 (u2 (sV S) 4 325 q) 1001 672 0) 1001 681 q 4 325 = nI n
      rw [u2_k (by omega), u2_k (by omega), u2_at, n1]
    · show u2 (u2 (u2 (sV S) 4 325 q) 1001 672 0) 1001 681 q 1001 681 = nI n
      rw [u2_at, n1]
theorem op_setCold (hS : rRel S) (q : Int32) : zOp Z l x m o od mth_L_setCold mth_X16_setCold [.ref x, .int q, .ref o] [.ref m, .int q] cvI S := by
  have c0 := hS.c0
  have c1 := hS.c1
  have c2 := hS.c2
  have h3 := hS.h3
  have h4 := hS.h4
  have h5 := hS.h5
  have b0 := hS.b0
  have b1 := hS.b1
  have b2 := hS.b2
  by_cases g : q < 0 ∨ ¬ q ≤ 40
  · skip
    exact op_ex hS (wr_tw wr_L_setCold h3 (by omega) (by omega) (by omega) (fun Λ M hR => f_setCold_0 hR h3 g) rfl)
      (md_g (by omega) (by omega) (by omega) (fun Λ M hR => k_setCold_1 hR h4 g)) (by decide)
  have g1 : ¬ q < 0 := fun h => g (Or.inl h)
  have g2 : q ≤ 40 := Decidable.byContradiction (fun h => g (Or.inr h))
  refine ⟨0, _, _, _, wr_okG wr_L_setCold h3 (by exact h5) (by omega) (by omega) (by omega) (fun Λ M hR => f_setCold hR h3 g1 g2), md_g (by omega) (by omega) (by omega) (fun Λ M hR => k_setCold hR h4 g1 g2), rfl, fun _ => ?_, ?_⟩
  · skip
    show lN (u1 (sP S) 1000 (oN (cvI (sV S 5 482))) 1000) = cvI (u2 (sV S) 5 482 q 1001 684)
    rw [u1_at, lN_oN]
    rw [u2_k (by omega), hS.we.2.1.1]
  · skip
    refine hS.wea rfl rfl rfl (fun j hj => u1_ne (by omega)) (fun r k k1 k2 k3 k4 k5 => ?_) ?_
    · show u2 (u2 (u2 (sV S) 5 482 q) 1001 672 0) 1001 684 q r k = _
      simp only [u2_if]
      repeat rw [if_neg (by omega)]
    · have hw := hS.we
      unfold rWe
      exact ⟨hw.1, ⟨rfl, rng_of (a := 0) (b := 40) (by decide) (by decide) g1 g2⟩, hw.2.2⟩
theorem op_setLaw (hS : rRel S) (p q : Int32) : zOp Z l x m o od mth_L_setLaw mth_X16_setLaw [.ref x, .int p, .int q, .ref o] [.ref m, .int p, .int q] cvI S := by
  have c0 := hS.c0
  have c1 := hS.c1
  have c2 := hS.c2
  have h3 := hS.h3
  have h4 := hS.h4
  have h5 := hS.h5
  have b0 := hS.b0
  have b1 := hS.b1
  have b2 := hS.b2
  by_cases ga : p < 0 ∨ ¬ p ≤ 99
  · skip
    exact op_ex hS (wr_tw wr_L_setLaw h3 (by omega) (by omega) (by omega) (fun Λ M hR => f_setLaw_0 hR h3 ga) rfl)
      (md_g (by omega) (by omega) (by omega) (fun Λ M hR => k_setLaw_1 hR h4 ga)) (by decide)
  have ga1 : ¬ p < 0 := fun h => ga (Or.inl h)
  have ga2 : p ≤ 99 := Decidable.byContradiction (fun h => ga (Or.inr h))
  by_cases g : q < 0 ∨ ¬ q ≤ 99
  · skip
    exact op_ex hS (wr_tw wr_L_setLaw h3 (by omega) (by omega) (by omega) (fun Λ M hR => f_setLaw_1 hR h3 ga1 ga2 g) rfl)
      (md_g (by omega) (by omega) (by omega) (fun Λ M hR => k_setLaw_2 hR h4 ga1 ga2 g)) (by decide)
  have g1 : ¬ q < 0 := fun h => g (Or.inl h)
  have g2 : q ≤ 99 := Decidable.byContradiction (fun h => g (Or.inr h))
  refine ⟨0, _, _, _, wr_okG wr_L_setLaw h3 (by exact h5) (by omega) (by omega) (by omega) (fun Λ M hR => f_setLaw hR h3 ga1 ga2 g1 g2), md_g (by omega) (by omega) (by omega) (fun Λ M hR => k_setLaw hR h4 ga1 ga2 g1 g2), rfl, fun _ => ?_, ?_⟩
  · skip
    show lN (u1 (sP S) 1000 (oN (cvI (sV S 6 288))) 1000) = cvI (u2 (u2 (sV S) 6 288 p) 6 289 q 1001 685)
    rw [u1_at, lN_oN]
    rw [u2_k (by omega), u2_k (by omega), hS.we.2.2.1.1]
  · skip
    refine hS.wea rfl rfl rfl (fun j hj => u1_ne (by omega)) (fun r k k1 k2 k3 k4 k5 => ?_) ?_
    · show u2 (u2 (u2 (u2 (u2 (sV S) 6 288 p) 6 289 q) 1001 672 0) 1001 685 p) 1001 686 q r k = _
      simp only [u2_if]
      repeat rw [if_neg (by omega)]
    · have hw := hS.we
      unfold rWe
      exact ⟨hw.1, hw.2.1, ⟨rfl, rng_of (a := 0) (b := 99) (by decide) (by decide) ga1 ga2⟩, rfl, rng_of (a := 0) (b := 99) (by decide) (by decide) g1 g2⟩
theorem op_setRain (hS : rRel S) (p q : Int32) : zOp Z l x m o od mth_L_setRain mth_X16_setRain [.ref x, .int p, .int q, .ref o] [.ref m, .int p, .int q] cvI S := by
  have c0 := hS.c0
  have c1 := hS.c1
  have c2 := hS.c2
  have h3 := hS.h3
  have h4 := hS.h4
  have h5 := hS.h5
  have b0 := hS.b0
  have b1 := hS.b1
  have b2 := hS.b2
  by_cases ga : p < 600 ∨ ¬ p ≤ 1199
  · skip
    exact op_ex hS (wr_tw wr_L_setRain h3 (by omega) (by omega) (by omega) (fun Λ M hR => f_setRain_0 hR h3 ga) rfl)
      (md_g (by omega) (by omega) (by omega) (fun Λ M hR => k_setRain_1 hR h4 ga)) (by decide)
  have ga1 : ¬ p < 600 := fun h => ga (Or.inl h)
  have ga2 : p ≤ 1199 := Decidable.byContradiction (fun h => ga (Or.inr h))
  by_cases g : q < p ∨ ¬ q ≤ 1199
  · skip
    exact op_ex hS (wr_tw wr_L_setRain h3 (by omega) (by omega) (by omega) (fun Λ M hR => f_setRain_1 hR h3 ga1 ga2 g) rfl)
      (md_g (by omega) (by omega) (by omega) (fun Λ M hR => k_setRain_2 hR h4 ga1 ga2 g)) (by decide)
  have g1 : ¬ q < p := fun h => g (Or.inl h)
  have g2 : q ≤ 1199 := Decidable.byContradiction (fun h => g (Or.inr h))
  obtain ⟨a, e1, e2, e3⟩ := rng_of (a := 600) (b := 1199) (by decide) (by decide) ga1 ga2
  subst e1
  obtain ⟨b, f1, f2, f3⟩ := rng_of (a := a) (b := 1199) (by decide) e3 g1 g2
  subst f1
  refine ⟨0, _, _, _, wr_okG wr_L_setRain h3 (by exact h5) (by omega) (by omega) (by omega) (fun Λ M hR => f_setRain hR h3 ga1 ga2 g1 g2), md_g (by omega) (by omega) (by omega) (fun Λ M hR => k_setRain hR h4 ga1 ga2 g1 g2), rfl, fun _ => ?_, ?_⟩
  · skip
    show lN (u1 (sP S) 1000 (oN (cvI (sV S 5 481 - sV S 5 480 + 1))) 1000) = cvI (if u2 (u2 (sV S) 5 480 (nI a)) 5 481 (nI b) 1001 682 ≤ u2 (u2 (sV S) 5 480 (nI a)) 5 481 (nI b) 1001 683 then u2 (u2 (sV S) 5 480 (nI a)) 5 481 (nI b) 1001 683 - u2 (u2 (sV S) 5 480 (nI a)) 5 481 (nI b) 1001 682 + 1 else 0)
    rw [u1_at, lN_oN]
    rw [u2_k (by omega), u2_k (by omega), u2_k (by omega), u2_k (by omega), hS.we.1.1, hS.we.1.2.1]
    rcases hS.we.1.2.2 with ⟨w1, w2⟩ | ⟨y, w, w1, w2, w3, w4⟩
    · rw [w1, w2]
      rfl
    · rw [w1, w2, if_pos (nI_le w3 (by omega))]
  · skip
    refine hS.wea rfl rfl rfl (fun j hj => u1_ne (by omega)) (fun r k k1 k2 k3 k4 k5 => ?_) ?_
    · show u2 (u2 (u2 (u2 (u2 (sV S) 5 480 (nI a)) 5 481 (nI b)) 1001 672 0) 1001 682 (nI a)) 1001 683 (nI b) r k = _
      simp only [u2_if]
      repeat rw [if_neg (by omega)]
    · have hw := hS.we
      unfold rWe
      exact ⟨⟨rfl, rfl, Or.inr ⟨a, b, rfl, rfl, f2, by omega⟩⟩, hw.2⟩
theorem op_setPassers (hS : rRel S) (p q r : Int32) : zOp Z l x m o od mth_L_setPassers mth_X16_setPassers [.ref x, .int p, .int q, .int r, .ref o] [.ref m, .int p, .int q, .int r] cvI S := by
  have c0 := hS.c0
  have c1 := hS.c1
  have c2 := hS.c2
  have h3 := hS.h3
  have h4 := hS.h4
  have h5 := hS.h5
  have b0 := hS.b0
  have b1 := hS.b1
  have b2 := hS.b2
  by_cases hx : ¬ p < 0 ∧ ¬ nI (sc S 0) ≤ p
  rotate_left
  · skip
    exact op_ex hS (wr_tw wr_L_setPassers h3 (by omega) (by omega) (by omega) (fun Λ M hR => f_setPassers_0 hR h3 hx) rfl)
      (md_g (by omega) (by omega) (by omega) (fun Λ M hR => k_setPassers_1 hR h4 (by rw [c0]; exact hx))) (by decide)
  obtain ⟨i, hi, rfl⟩ := ix_of (by omega) hx
  by_cases ga : q < 10 ∨ ¬ q ≤ 19
  · skip
    exact op_ex hS (wr_tw wr_L_setPassers h3 (by omega) (by omega) (by omega) (fun Λ M hR => f_setPassers_1 hR h3 hi ga) rfl)
      (md_g (by omega) (by omega) (by omega) (fun Λ M hR => k_setPassers_2 hR h4 (by rw [c0]; exact hi) ga)) (by decide)
  have ga1 : ¬ q < 10 := fun h => ga (Or.inl h)
  have ga2 : q ≤ 19 := Decidable.byContradiction (fun h => ga (Or.inr h))
  by_cases g : r < 0 ∨ ¬ r ≤ 600
  · skip
    exact op_ex hS (wr_tw wr_L_setPassers h3 (by omega) (by omega) (by omega) (fun Λ M hR => f_setPassers_2 hR h3 hi ga1 ga2 g) rfl)
      (md_g (by omega) (by omega) (by omega) (fun Λ M hR => k_setPassers_3 hR h4 (by rw [c0]; exact hi) ga1 ga2 g)) (by decide)
  have g1 : ¬ r < 0 := fun h => g (Or.inl h)
  have g2 : r ≤ 600 := Decidable.byContradiction (fun h => g (Or.inr h))
  obtain ⟨hh, e1, e2, e3⟩ := rng_of (a := 10) (b := 19) (by decide) (by decide) ga1 ga2
  subst e1
  have hp := (hS.pi i hi).2 (hh - 10) (by omega)
  refine ⟨0, _, _, _, wr_okG wr_L_setPassers h3 (by exact h5) (by omega) (by omega) (by omega) (fun Λ M hR => f_setPassers hR h3 hi ga1 ga2 e2 (by omega) g1 g2), md_g (by omega) (by omega) (by omega) (fun Λ M hR => k_setPassers hR h4 (show i < sc S 1000 by rw [c0]; exact hi) ga1 ga2 e2 (by omega) g1 g2), rfl, fun _ => ?_, ?_⟩
  · skip
    show lN (u1 (sP S) 1000 (oN (cvI (sW S (110 + i) (hh - 10)))) 1000) = cvI (u2 (sW S) (110 + i) (hh - 10) r (1110 + i) (hh - 10))
    rw [u1_at, lN_oN]
    rw [u2_if, if_neg (by omega), hp.1]
  · skip
    refine rel_pass (i := i) (hh := hh - 10) (q := r) hS rfl rfl (fun j hj => u1_ne (by omega)) (fun y k hk => u2_k hk y) (fun y k => rfl) hi (rng_of (a := 0) (b := 600) (by decide) (by decide) g1 g2)

end ZOP3
