/-! OPERATIONS 9: a new act, pitch, visit, turn on both sides -/

section ZEL
variable {S : zSt}
theorem acts_bt (h : rRel S) {i : Nat} (hi : i < sc S 0) {a : Nat} (ha : a < 32) : ∀ n, n ≤ sc S (10 + i) → (bt (fActs S i n) a = true ↔ ∃ k, k < n ∧ sT S i k = a)
  | 0, _ => by
    constructor
    · intro q
      have : bt 0 a = true := q
      rw [b_0] at this
      cases this
    · rintro ⟨k, hk, -⟩
      omega
  | n + 1, hn => by
    have hb1 := h.b1
    have ht := (h.tu i n hi (by omega)).1.1
    have e : fActs S i (n + 1) = fActs S i n ||| zbit (sV S (140 + sT S i n) 160) := rfl
    rw [e, b_or, Bool.or_eq_true, acts_bt h hi ha n (by omega), (h.ac _ ht).1, b_z _ (by omega) a ha, decide_eq_true_iff]
    constructor
    · rintro (⟨k, h1, h2⟩ | h1)
      · exact ⟨k, by omega, h2⟩
      · exact ⟨n, by omega, h1⟩
    · rintro ⟨k, h1, h2⟩
      by_cases c : k = n
      · subst c
        exact Or.inr h2
      · exact Or.inl ⟨k, by omega, h2⟩
theorem fElse_iff (h : rRel S) {a i : Nat} (ha : a < sc S 1) : fElse S (nI a) i = true ↔ ∃ j k, j < sc S 0 ∧ j ≠ i ∧ k < sc S (10 + j) ∧ sT S j k = a := by
  have b1 := h.b1
  unfold fElse
  rw [zany_iff]
  constructor
  · rintro ⟨j, hj, h1⟩
    rw [Bool.and_eq_true, Bool.not_eq_true', Bool.not_eq_true', decide_eq_false_iff_not, decide_eq_false_iff_not, b_tst' (by omega), acts_bt h hj (by omega) _ (Nat.le_refl _)] at h1
    obtain ⟨h2, k, h3, h4⟩ := h1
    exact ⟨j, k, hj, h2, h3, h4⟩
  · rintro ⟨j, k, hj, h2, h3, h4⟩
    refine ⟨j, hj, ?_⟩
    rw [Bool.and_eq_true, Bool.not_eq_true', Bool.not_eq_true', decide_eq_false_iff_not, decide_eq_false_iff_not, b_tst' (by omega), acts_bt h hj (by omega) _ (Nat.le_refl _)]
    exact ⟨h2, k, h3, h4⟩
theorem elsP_iff {a p : Int32} {i : Nat} : ∀ n b, fElsP S a p i n b = true ↔ b = true ∨ (¬ nI i = p ∧ ∃ k, k < n ∧ sV S (1160 + 8 * i + k) 608 = a)
  | 0, b => by
    show b = true ↔ _
    constructor
    · exact Or.inl
    · rintro (h | ⟨-, k, hk, -⟩)
      · exact h
      · omega
  | n + 1, b => by
    show (fElsP S a p i n b || (!decide (nI i = p) && decide (sV S (1160 + 8 * i + n) 608 = a))) = true ↔ _
    rw [Bool.or_eq_true, elsP_iff n b, Bool.and_eq_true, Bool.not_eq_true', decide_eq_false_iff_not, decide_eq_true_iff]
    constructor
    · rintro ((h | ⟨h1, k, h2, h3⟩) | ⟨h1, h2⟩)
      · exact Or.inl h
      · exact Or.inr ⟨h1, k, by omega, h3⟩
      · exact Or.inr ⟨h1, n, by omega, h2⟩
    · rintro (h | ⟨h1, k, h2, h3⟩)
      · exact Or.inl (Or.inl h)
      · by_cases c : k = n
        · subst c
          exact Or.inr ⟨h1, h3⟩
        · exact Or.inl (Or.inr ⟨h1, k, by omega, h3⟩)
theorem elsM_iff {a p : Int32} : ∀ n, fElsM S a p n = true ↔ ∃ j k, j < n ∧ ¬ nI j = p ∧ k < sc S (1010 + j) ∧ sV S (1160 + 8 * j + k) 608 = a
  | 0 => by
    constructor
    · intro h
      cases h
    · rintro ⟨j, k, hj, -⟩
      omega
  | n + 1 => by
    show fElsP S a p n (sc S (1010 + n)) (fElsM S a p n) = true ↔ _
    rw [elsP_iff, elsM_iff n]
    constructor
    · rintro (⟨j, k, h1, h2⟩ | ⟨h1, k, h2, h3⟩)
      · exact ⟨j, k, by omega, h2⟩
      · exact ⟨n, k, by omega, h1, h2, h3⟩
    · rintro ⟨j, k, h1, h2, h3, h4⟩
      by_cases c : j = n
      · subst c
        exact Or.inr ⟨h2, k, h3, h4⟩
      · exact Or.inl ⟨j, k, by omega, h2, h3, h4⟩
theorem els_eq (h : rRel S) {a i : Nat} (ha : a < sc S 1) (hi : i < sc S 0) : fElsM S (nI a) (nI i) (sc S 1000) = fElse S (nI a) i := by
  have b0 := h.b0
  have b1 := h.b1
  rw [Bool.eq_iff_iff, elsM_iff, fElse_iff h ha, h.c0]
  constructor
  · rintro ⟨j, k, h1, h2, h3, h4⟩
    rw [h.ck h1] at h3
    have ht := (h.tu j k h1 h3).1
    rw [ht.2] at h4
    exact ⟨j, k, h1, fun e => h2 (by rw [e]), h3, (nI_eq (by omega) (by omega)).mp h4⟩
  · rintro ⟨j, k, h1, h2, h3, h4⟩
    have ht := (h.tu j k h1 h3).1
    exact ⟨j, k, h1, fun e => h2 ((nI_eq (by omega) (by omega)).mp e), by rw [h.ck h1]; exact h3, by rw [ht.2, h4]⟩
theorem taken_eq (h : rRel S) {y : Int32} : fTakenM S y (sc S 1000) = fTaken S y := by
  unfold fTakenM fTaken
  rw [zit_or, h.c0]
  exact zany_congr _ (fun k hk => by rw [(h.pi k hk).1.1.1])
end ZEL

section ZOP9
variable {Z : zPar} {l : Launch} {x m o od : Nat} {S : zSt}

theorem op_addAct (hS : rRel S) (p q r s5 s6 : Int32) (hf : s6 = 0 ∨ s6 = 1) : zOp Z l x m o od mth_L_addAct mth_X16_addAct [.ref x, .int p, .int q, .int r, .int s5, .int s6, .ref o] [.ref m, .int p, .int q, .int r, .int s5, .int s6] cvI S := by
  have c0 := hS.c0
  have c1 := hS.c1
  have c2 := hS.c2
  have h3 := hS.h3
  have h4 := hS.h4
  have h5 := hS.h5
  have b0 := hS.b0
  have b1 := hS.b1
  have b2 := hS.b2
  by_cases ga : p < 5 ∨ ¬ p ≤ 60
  · skip
    exact op_ex hS (wr_tw wr_L_addAct h3 (by omega) (by omega) (by omega) (fun Λ M hR => f_addAct_0 hR h3 ga) rfl)
      (md_g (by omega) (by omega) (by omega) (fun Λ M hR => k_addAct_1 hR h4 ga)) (by decide)
  have ga1 : ¬ p < 5 := fun h => ga (Or.inl h)
  have ga2 : p ≤ 60 := Decidable.byContradiction (fun h => ga (Or.inr h))
  by_cases gb : q < 0 ∨ ¬ q ≤ 9
  · skip
    exact op_ex hS (wr_tw wr_L_addAct h3 (by omega) (by omega) (by omega) (fun Λ M hR => f_addAct_1 hR h3 ga1 ga2 gb) rfl)
      (md_g (by omega) (by omega) (by omega) (fun Λ M hR => k_addAct_2 hR h4 ga1 ga2 gb)) (by decide)
  have gb1 : ¬ q < 0 := fun h => gb (Or.inl h)
  have gb2 : q ≤ 9 := Decidable.byContradiction (fun h => gb (Or.inr h))
  by_cases gc : r < 1 ∨ ¬ r ≤ 9
  · skip
    exact op_ex hS (wr_tw wr_L_addAct h3 (by omega) (by omega) (by omega) (fun Λ M hR => f_addAct_2 hR h3 ga1 ga2 gb1 gb2 gc) rfl)
      (md_g (by omega) (by omega) (by omega) (fun Λ M hR => k_addAct_3 hR h4 ga1 ga2 gb1 gb2 gc)) (by decide)
  have gc1 : ¬ r < 1 := fun h => gc (Or.inl h)
  have gc2 : r ≤ 9 := Decidable.byContradiction (fun h => gc (Or.inr h))
  by_cases gd : s5 < 1 ∨ ¬ s5 ≤ 9
  · skip
    exact op_ex hS (wr_tw wr_L_addAct h3 (by omega) (by omega) (by omega) (fun Λ M hR => f_addAct_3 hR h3 ga1 ga2 gb1 gb2 gc1 gc2 gd) rfl)
      (md_g (by omega) (by omega) (by omega) (fun Λ M hR => k_addAct_4 hR h4 ga1 ga2 gb1 gb2 gc1 gc2 gd)) (by decide)
  have gd1 : ¬ s5 < 1 := fun h => gd (Or.inl h)
  have gd2 : s5 ≤ 9 := Decidable.byContradiction (fun h => gd (Or.inr h))
  by_cases hn : 8 ≤ sc S 1
  · skip
    exact op_ex hS (wr_tw wr_L_addAct h3 (by omega) (by omega) (by omega) (fun Λ M hR => f_addAct_4 hR h3 ga1 ga2 gb1 gb2 gc1 gc2 gd1 gd2 hn) rfl)
      (md_g (by omega) (by omega) (by omega) (fun Λ M hR => k_addAct_5 hR h4 ga1 ga2 gb1 gb2 gc1 gc2 gd1 gd2 (by rw [c1]; omega))) (by decide)
  have e4 : cset (sc S) 1 (sc S 1 + 1) 4 = 1 := (cset_ne (by decide)).trans h4
  have e5 : cset (sc S) 1 (sc S 1 + 1) 5 = 1 := (cset_ne (by decide)).trans h5
  have e1 : cset (sc S) 1 (sc S 1 + 1) 1001 = sc S 1 := (cset_ne (by decide)).trans c1
  refine ⟨0, _, _, _, wr_ok (S1 := fAddAct S p q r s5 s6) (z := nI (sc S 1)) wr_L_addAct h3 e5 (by omega) (by omega) (by omega) (fun Λ M Q hR hQ => f_addAct hR h3 ga1 ga2 gb1 gb2 gc1 gc2 gd1 gd2 hf (by omega) hQ), md_c (v := .int (nI (sc (wP (fAddAct S p q r s5 s6) 1000 (oN (cvI (nI (sc S 1))))) 1001))) (by omega) (by omega) (by omega) (fun Λ M Q hR hQ => k_addAct (S := wP (fAddAct S p q r s5 s6) 1000 (oN (cvI (nI (sc S 1))))) hR e4 ga1 ga2 gb1 gb2 gc1 gc2 gd1 gd2 hf (show cset (sc S) 1 (sc S 1 + 1) 1001 < 8 by rw [e1]; omega) hQ), ?_, fun _ => ?_, ?_⟩
  · show u1 (u2 (u1 (sV S) (140 + sc S 1) (fActN (sc S 1) p q r s5 s6)) 1001 672 0) (1140 + cset (sc S) 1 (sc S 1 + 1) 1001) _ 1001 672 = 0
    rw [e1, u1_ne (by omega), u2_at]
  · show lN (u1 (sP S) 1000 (oN (cvI (nI (sc S 1)))) 1000) = cvI (nI (cset (sc S) 1 (sc S 1 + 1) 1001))
    rw [u1_at, lN_oN, e1]
  · refine rel_addAct (n := sc S 1) (mi := p) (lo := q) (sk := r) (li := s5) (fi := s6) hS rfl (by omega) ?_ ?_ (fun k k1 k2 => ?_) rfl (fun j hj => u1_ne (by omega)) (fun y k hk => ?_) (fun y k y1 y2 => ?_) (rng_of (a := 5) (b := 60) (by decide) (by decide) ga1 ga2) (rng_of (a := 0) (b := 9) (by decide) (by decide) gb1 gb2) (rng_of (a := 1) (b := 9) (by decide) (by decide) gc1 gc2) (rng_of (a := 1) (b := 9) (by decide) (by decide) gd1 gd2)
    · show cset (cset (sc S) 1 (sc S 1 + 1)) 1001 (cset (sc S) 1 (sc S 1 + 1) 1001 + 1) 1 = _
      rw [cset_ne (by decide), cset_at]
    · show cset (cset (sc S) 1 (sc S 1 + 1)) 1001 (cset (sc S) 1 (sc S 1 + 1) 1001 + 1) 1001 = _
      rw [cset_at, e1]
    · show cset (cset (sc S) 1 (sc S 1 + 1)) 1001 (cset (sc S) 1 (sc S 1 + 1) 1001 + 1) k = _
      rw [cset_ne k2, cset_ne k1]
    · show u1 (u2 (u1 (sV S) (140 + sc S 1) (fActN (sc S 1) p q r s5 s6)) 1001 672 0) (1140 + cset (sc S) 1 (sc S 1 + 1) 1001) (fun k => if k = 551 then nI (cset (sc S) 1 (sc S 1 + 1) 1001) else if k = 548 then s6 else if k = 547 then s5 else if k = 546 then r else if k = 545 then q else if k = 544 then p else 0) y k = _
      rw [e1, u1_if2, u2_k hk, u1_if2]
    · show u1 (u1 (sW S) (140 + sc S 1) (fun _ => 0)) (1140 + cset (sc S) 1 (sc S 1 + 1) 1001) (fun _ => 0) y k = _
      rw [e1, u1_if2, u1_if2, if_neg y1, if_neg y2]
theorem op_addPitch (hS : rRel S) (p q r : Int32) (hf : r = 0 ∨ r = 1) : zOp Z l x m o od mth_L_addPitch mth_X16_addPitch [.ref x, .int p, .int q, .int r, .ref o] [.ref m, .int p, .int q, .int r] cvI S := by
  have c0 := hS.c0
  have c1 := hS.c1
  have c2 := hS.c2
  have h3 := hS.h3
  have h4 := hS.h4
  have h5 := hS.h5
  have b0 := hS.b0
  have b1 := hS.b1
  have b2 := hS.b2
  by_cases ga : p < 0 ∨ ¬ p ≤ 99
  · skip
    exact op_ex hS (wr_tw wr_L_addPitch h3 (by omega) (by omega) (by omega) (fun Λ M hR => f_addPitch_0 hR h3 ga) rfl)
      (md_g (by omega) (by omega) (by omega) (fun Λ M hR => k_addPitch_1 hR h4 ga)) (by decide)
  have ga1 : ¬ p < 0 := fun h => ga (Or.inl h)
  have ga2 : p ≤ 99 := Decidable.byContradiction (fun h => ga (Or.inr h))
  by_cases gb : q < 0 ∨ ¬ q ≤ 9
  · skip
    exact op_ex hS (wr_tw wr_L_addPitch h3 (by omega) (by omega) (by omega) (fun Λ M hR => f_addPitch_1 hR h3 ga1 ga2 gb) rfl)
      (md_g (by omega) (by omega) (by omega) (fun Λ M hR => k_addPitch_2 hR h4 ga1 ga2 gb)) (by decide)
  have gb1 : ¬ q < 0 := fun h => gb (Or.inl h)
  have gb2 : q ≤ 9 := Decidable.byContradiction (fun h => gb (Or.inr h))
  by_cases ht : fTaken S p = true
  · skip
    exact op_ex hS (wr_tw wr_L_addPitch h3 (by omega) (by omega) (by omega) (fun Λ M hR => f_addPitch_2 hR h3 ga1 ga2 gb1 gb2 ht) rfl)
      (md_g (by omega) (by omega) (by omega) (fun Λ M hR => k_addPitch_3 hR h4 ga1 ga2 gb1 gb2 (by rw [taken_eq hS]; exact ht))) (by decide)
  have ht : fTaken S p = false := by simpa using ht
  by_cases hn : 6 ≤ sc S 0
  · skip
    exact op_ex hS (wr_tw wr_L_addPitch h3 (by omega) (by omega) (by omega) (fun Λ M hR => f_addPitch_3 hR h3 ga1 ga2 gb1 gb2 ht hn) rfl)
      (md_g (by omega) (by omega) (by omega) (fun Λ M hR => k_addPitch_4 hR h4 ga1 ga2 gb1 gb2 (by rw [taken_eq hS]; exact ht) (by rw [c0]; omega))) (by decide)
  have e4 : cset (sc S) 0 (sc S 0 + 1) 4 = 1 := (cset_ne (by decide)).trans h4
  have e5 : cset (sc S) 0 (sc S 0 + 1) 5 = 1 := (cset_ne (by decide)).trans h5
  have e1 : cset (sc S) 0 (sc S 0 + 1) 1000 = sc S 0 := (cset_ne (by decide)).trans c0
  have z0 : sc S (10 + sc S 0) = 0 := hS.ct.2.2.1 _ (by omega) (Nat.le_refl _)
  have z1 : cset (sc S) 0 (sc S 0 + 1) (1010 + sc S 0) = 0 := (cset_ne (by omega)).trans ((hS.ct.2.1 _ (by omega)).trans z0)
  have tk : fTakenM (wP (fAddPitch S p q r) 1000 (oN (cvI (nI (sc S 0))))) p (sc S 0) = false := by
    rw [← ht, ← taken_eq hS, c0]
    unfold fTakenM
    rw [zit_or, zit_or]
    refine zany_congr _ (fun k hk => ?_)
    show decide (u1 (u1 (u1 (sV S) (100 + sc S 0) _) (100 + 10 + sc S 0) _) (100 + 20 + sc S 0) _ (1100 + k) 576 = p) = _
    rw [u1_if2, u1_if2, u1_if2, if_neg (by omega), if_neg (by omega), if_neg (by omega)]
  refine ⟨0, _, _, _, wr_ok (S1 := fAddPitch S p q r) (z := nI (sc S 0)) wr_L_addPitch h3 e5 (by omega) (by omega) (by omega) (fun Λ M Q hR hQ => f_addPitch hR h3 z0 ga1 ga2 gb1 gb2 hf ht (by omega) hQ), md_c (v := .int (nI (sc (wP (fAddPitch S p q r) 1000 (oN (cvI (nI (sc S 0))))) 1000))) (by omega) (by omega) (by omega) (fun Λ M Q hR hQ => k_addPitch (S := wP (fAddPitch S p q r) 1000 (oN (cvI (nI (sc S 0))))) hR e4 (show cset (sc S) 0 (sc S 0 + 1) (1010 + cset (sc S) 0 (sc S 0 + 1) 1000) = 0 by rw [e1]; exact z1) ga1 ga2 gb1 gb2 hf (show fTakenM (wP (fAddPitch S p q r) 1000 (oN (cvI (nI (sc S 0))))) p (cset (sc S) 0 (sc S 0 + 1) 1000) = false by rw [e1]; exact tk) (show cset (sc S) 0 (sc S 0 + 1) 1000 < 6 by rw [e1]; omega) hQ), ?_, fun _ => ?_, ?_⟩
  · show fPV (u2 (fPV (sV S) 100 (sc S 0) 352 p q r) 1001 672 0) 1100 (cset (sc S) 0 (sc S 0 + 1) 1000) 576 p q r 1001 672 = 0
    rw [e1]
    unfold fPV
    rw [u1_if2, u1_if2, u1_if2, if_neg (by omega), if_neg (by omega), if_neg (by omega), u2_at]
  · show lN (u1 (sP S) 1000 (oN (cvI (nI (sc S 0)))) 1000) = cvI (nI (cset (sc S) 0 (sc S 0 + 1) 1000))
    rw [u1_at, lN_oN, e1]
  · have hV : ∀ y k, fPV (u2 (fPV (sV S) 100 (sc S 0) 352 p q r) 1001 672 0) 1100 (cset (sc S) 0 (sc S 0 + 1) 1000) 576 p q r y k = if y = 1120 + sc S 0 then 0 else if y = 1110 + sc S 0 then 0 else if y = 1100 + sc S 0 then (if k = 578 then r else if k = 577 then q else if k = 576 then p else 0) else if k = 672 ∧ y = 1001 then 0 else if y = 120 + sc S 0 then 0 else if y = 110 + sc S 0 then 0 else if y = 100 + sc S 0 then (if k = 354 then r else if k = 353 then q else if k = 352 then p else 0) else sV S y k := fun y k => by
      rw [e1]
      unfold fPV
      rw [u1_if2, u1_if2, u1_if2, u2_if, u1_if2, u1_if2, u1_if2]
    have hW : ∀ y k, fPW (fPW (sW S) 100 (sc S 0)) 1100 (cset (sc S) 0 (sc S 0 + 1) 1000) y k = if y = 1120 + sc S 0 then 0 else if y = 1110 + sc S 0 then 0 else if y = 1100 + sc S 0 then 0 else if y = 120 + sc S 0 then 0 else if y = 110 + sc S 0 then 0 else if y = 100 + sc S 0 then 0 else sW S y k := fun y k => by
      rw [e1]
      unfold fPW
      rw [u1_if2, u1_if2, u1_if2, u1_if2, u1_if2, u1_if2]
    refine rel_addPitch (n := sc S 0) (y := p) (ec := q) (sh := r) hS rfl (by omega) ?_ ?_ (fun k k1 k2 => ?_) rfl (fun j hj => u1_ne (by omega)) (fun y k hk y1 y2 y3 y4 y5 y6 => ?_) (fun y k y1 y2 y3 y4 y5 y6 => ?_) ⟨?_, ?_, ?_⟩ ⟨?_, ?_, ?_⟩ (fun j => ⟨?_, ?_⟩) (rng_of (a := 0) (b := 99) (by decide) (by decide) ga1 ga2) (rng_of (a := 0) (b := 9) (by decide) (by decide) gb1 gb2)
    · show cset (cset (sc S) 0 (sc S 0 + 1)) 1000 (cset (sc S) 0 (sc S 0 + 1) 1000 + 1) 0 = _
      rw [cset_ne (by decide), cset_at]
    · show cset (cset (sc S) 0 (sc S 0 + 1)) 1000 (cset (sc S) 0 (sc S 0 + 1) 1000 + 1) 1000 = _
      rw [cset_at, e1]
    · show cset (cset (sc S) 0 (sc S 0 + 1)) 1000 (cset (sc S) 0 (sc S 0 + 1) 1000 + 1) k = _
      rw [cset_ne k2, cset_ne k1]
    · refine (hV y k).trans ?_
      rw [if_neg y6, if_neg y5, if_neg y4, if_neg (fun g => hk g.1), if_neg y3, if_neg y2, if_neg y1]
    · refine (hW y k).trans ?_
      rw [if_neg y6, if_neg y5, if_neg y4, if_neg y3, if_neg y2, if_neg y1]
    all_goals first
      | (refine (hV _ _).trans ?_
         repeat rw [if_neg (by omega)]
         rw [if_pos rfl]
         rfl)
      | (refine (hW _ _).trans ?_
         repeat rw [if_neg (by omega)]
         rw [if_pos rfl])
theorem op_addVisit (hS : rRel S) (p q : Int32) : zOp Z l x m o od mth_L_addVisit mth_X16_addVisit [.ref x, .int p, .int q, .ref o] [.ref m, .int p, .int q] cvI S := by
  have c0 := hS.c0
  have c1 := hS.c1
  have c2 := hS.c2
  have h3 := hS.h3
  have h4 := hS.h4
  have h5 := hS.h5
  have b0 := hS.b0
  have b1 := hS.b1
  have b2 := hS.b2
  by_cases hx : ¬ p < 0 ∧ ¬ nI (sc S 0) ≤ p
  rotate_left
  · skip
    exact op_ex hS (wr_tw wr_L_addVisit h3 (by omega) (by omega) (by omega) (fun Λ M hR => f_addVisit_0 hR h3 hx) rfl)
      (md_g (by omega) (by omega) (by omega) (fun Λ M hR => k_addVisit_1 hR h4 (by rw [c0]; exact hx))) (by decide)
  obtain ⟨i, hi, rfl⟩ := ix_of (by omega) hx
  have hi' : i < sc S 1000 := by rw [c0]; exact hi
  by_cases g : q < 600 ∨ ¬ q ≤ 1199
  · skip
    exact op_ex hS (wr_tw wr_L_addVisit h3 (by omega) (by omega) (by omega) (fun Λ M hR => f_addVisit_1 hR h3 hi g) rfl)
      (md_g (by omega) (by omega) (by omega) (fun Λ M hR => k_addVisit_2 hR h4 hi' g)) (by decide)
  have g1 : ¬ q < 600 := fun h => g (Or.inl h)
  have g2 : q ≤ 1199 := Decidable.byContradiction (fun h => g (Or.inr h))
  by_cases hp : sV S 7 228 = 0
  rotate_left
  · have hp' : ¬ sV S 1001 680 = 0 := by rw [hS.da.1.1]; exact hp
    by_cases hn : sc S 2 = 6
    · skip
      exact op_ex hS (wr_tw wr_L_addVisit h3 (by omega) (by omega) (by omega) (fun Λ M hR => f_addVisit_2 hR h3 hi g1 g2 hp) rfl)
        (md_g (by omega) (by omega) (by omega) (fun Λ M hR => k_addVisit_3 hR h4 hi' g1 g2 (by rw [c2]; exact hn))) (by decide)
    · skip
      exact op_ex hS (wr_tw wr_L_addVisit h3 (by omega) (by omega) (by omega) (fun Λ M hR => f_addVisit_2 hR h3 hi g1 g2 hp) rfl)
        (md_g (by omega) (by omega) (by omega) (fun Λ M hR => k_addVisit_4 hR h4 hi' g1 g2 (by rw [c2]; omega) hp')) (by decide)
  have hp' : sV S 1001 680 = 0 := by rw [hS.da.1.1]; exact hp
  by_cases hn : 6 ≤ sc S 2
  · skip
    exact op_ex hS (wr_tw wr_L_addVisit h3 (by omega) (by omega) (by omega) (fun Λ M hR => f_addVisit_3 hR h3 hi g1 g2 hp hn) rfl)
      (md_g (by omega) (by omega) (by omega) (fun Λ M hR => k_addVisit_3 hR h4 hi' g1 g2 (by rw [c2]; omega))) (by decide)
  have e4 : cset (sc S) 2 (sc S 2 + 1) 4 = 1 := (cset_ne (by decide)).trans h4
  have e5 : cset (sc S) 2 (sc S 2 + 1) 5 = 1 := (cset_ne (by decide)).trans h5
  have e1 : cset (sc S) 2 (sc S 2 + 1) 1002 = sc S 2 := (cset_ne (by decide)).trans c2
  have e0 : cset (sc S) 2 (sc S 2 + 1) 1000 = sc S 0 := (cset_ne (by decide)).trans c0
  refine ⟨0, _, _, _, wr_ok (S1 := fAddVisit S i q) (z := nI (sc S 2 + 1)) wr_L_addVisit h3 e5 (by omega) (by omega) (by omega) (fun Λ M Q hR hQ => f_addVisit hR h3 hi g1 g2 hp (by omega) hQ), md_c (v := .int (nI (sc (wP (fAddVisit S i q) 1000 (oN (cvI (nI (sc S 2 + 1))))) 1002 + 1))) (by omega) (by omega) (by omega) (fun Λ M Q hR hQ => k_addVisit (S := wP (fAddVisit S i q) 1000 (oN (cvI (nI (sc S 2 + 1))))) hR e4 (show i < cset (sc S) 2 (sc S 2 + 1) 1000 by rw [e0]; exact hi) g1 g2 (show cset (sc S) 2 (sc S 2 + 1) 1002 < 6 by rw [e1]; omega) (show u1 (sV S) (150 + sc S 2) (fun k => if k = 450 then 45 else if k = 449 then q else 0) 1001 680 = 0 by rw [u1_ne (by omega)]; exact hp') hQ), ?_, fun _ => ?_, ?_⟩
  · show u1 (u2 (u1 (sV S) (150 + sc S 2) (fun k => if k = 450 then 45 else if k = 449 then q else 0)) 1001 672 0) (1150 + cset (sc S) 2 (sc S 2 + 1) 1002) (fun k => if k = 641 then q else if k = 640 then nI i else if k = 642 then 45 else 0) 1001 672 = 0
    rw [e1, u1_ne (by omega), u2_at]
  · show lN (u1 (u1 (sP S) (sc S 2) i) 1000 (oN (cvI (nI (sc S 2 + 1)))) 1000) = cvI (nI (cset (sc S) 2 (sc S 2 + 1) 1002 + 1))
    rw [u1_at, lN_oN, e1]
  · have hV : ∀ y k, u1 (u2 (u1 (sV S) (150 + sc S 2) (fun k => if k = 450 then 45 else if k = 449 then q else 0)) 1001 672 0) (1150 + cset (sc S) 2 (sc S 2 + 1) 1002) (fun k => if k = 641 then q else if k = 640 then nI i else if k = 642 then 45 else 0) y k = if y = 1150 + sc S 2 then (if k = 641 then q else if k = 640 then nI i else if k = 642 then 45 else 0) else if k = 672 ∧ y = 1001 then 0 else if y = 150 + sc S 2 then (if k = 450 then 45 else if k = 449 then q else 0) else sV S y k := fun y k => by
      rw [e1, u1_if2, u2_if, u1_if2]
    refine rel_addVisit (n := sc S 2) (i := i) (y := q) hS rfl (by omega) hi ?_ ?_ (fun k k1 k2 => ?_) rfl (fun j hj hne => ?_) ?_ (fun y k hk y1 y2 => ?_) (fun y k y1 y2 => ?_) ⟨?_, ?_, ?_⟩ ⟨?_, ?_, ?_, ?_⟩ (rng_of (a := 600) (b := 1199) (by decide) (by decide) g1 g2)
    · show cset (cset (sc S) 2 (sc S 2 + 1)) 1002 (cset (sc S) 2 (sc S 2 + 1) 1002 + 1) 2 = _
      rw [cset_ne (by decide), cset_at]
    · show cset (cset (sc S) 2 (sc S 2 + 1)) 1002 (cset (sc S) 2 (sc S 2 + 1) 1002 + 1) 1002 = _
      rw [cset_at, e1]
    · show cset (cset (sc S) 2 (sc S 2 + 1)) 1002 (cset (sc S) 2 (sc S 2 + 1) 1002 + 1) k = _
      rw [cset_ne k2, cset_ne k1]
    · show u1 (u1 (sP S) (sc S 2) i) 1000 _ j = _
      rw [u1_ne (by omega), u1_ne hne]
    · show u1 (u1 (sP S) (sc S 2) i) 1000 _ (sc S 2) = _
      rw [u1_ne (by omega), u1_at]
    · refine (hV y k).trans ?_
      rw [if_neg y2, if_neg (fun g => hk g.1), if_neg y1]
    · show u1 (u1 (sW S) (150 + sc S 2) (fun _ => 0)) (1150 + cset (sc S) 2 (sc S 2 + 1) 1002) (fun _ => 0) y k = _
      rw [e1, u1_if2, u1_if2, if_neg y2, if_neg y1]
    all_goals
      refine (hV _ _).trans ?_
      repeat rw [if_neg (by omega)]
      rw [if_pos rfl]
      rfl
theorem op_addTurn (hS : rRel S) (p q : Int32) : zOp Z l x m o od mth_L_addTurn mth_X16_addTurn [.ref x, .int p, .int q, .ref o] [.ref m, .int p, .int q] cvI S := by
  have c0 := hS.c0
  have c1 := hS.c1
  have c2 := hS.c2
  have h3 := hS.h3
  have h4 := hS.h4
  have h5 := hS.h5
  have b0 := hS.b0
  have b1 := hS.b1
  have b2 := hS.b2
  by_cases hx : ¬ p < 0 ∧ ¬ nI (sc S 0) ≤ p
  rotate_left
  · skip
    exact op_ex hS (wr_tw wr_L_addTurn h3 (by omega) (by omega) (by omega) (fun Λ M hR => f_addTurn_0 hR h3 hx) rfl)
      (md_g (by omega) (by omega) (by omega) (fun Λ M hR => k_addTurn_1 hR h4 (by rw [c0]; exact hx))) (by decide)
  obtain ⟨i, hi, rfl⟩ := ix_of (by omega) hx
  have hi' : i < sc S 1000 := by rw [c0]; exact hi
  have ck := hS.ck hi
  have bk := hS.bk hi
  by_cases hy : ¬ q < 0 ∧ ¬ nI (sc S 1) ≤ q
  rotate_left
  · skip
    exact op_ex hS (wr_tw wr_L_addTurn h3 (by omega) (by omega) (by omega) (fun Λ M hR => f_addTurn_1 hR h3 hi hy) rfl)
      (md_g (by omega) (by omega) (by omega) (fun Λ M hR => k_addTurn_2 hR h4 hi' (by rw [c1]; exact hy))) (by decide)
  obtain ⟨a, ha, rfl⟩ := ix_of (by omega) hy
  have ha' : a < sc S 1001 := by rw [c1]; exact ha
  by_cases hp : sV S 7 228 = 0
  rotate_left
  · have hp' : ¬ sV S 1001 680 = 0 := by rw [hS.da.1.1]; exact hp
    exact op_ex hS (wr_tw wr_L_addTurn h3 (by omega) (by omega) (by omega) (fun Λ M hR => f_addTurn_2 hR h3 hi ha hp) rfl)
      (md_g (by omega) (by omega) (by omega) (fun Λ M hR => k_addTurn_3 hR h4 hi' ha' hp')) (by decide)
  have hp' : sV S 1001 680 = 0 := by rw [hS.da.1.1]; exact hp
  by_cases hel : fElse S (nI a) i = true
  · have hz : ¬ zb (fElse S (nI a) i) = 0 := by rw [hel]; decide
    exact op_ex2 hS (wr_tw wr_L_addTurn h3 (by omega) (by omega) (by omega) (fun Λ M hR => f_addTurn_3 hR h3 hi ha hp hz) rfl)
      (md_g (by omega) (by omega) (by omega) (fun Λ M hR => k_addTurn_4 hR h4 hi' ha' hp' (by rw [els_eq hS ha hi]; exact hel))) (by decide)
  have helf : fElse S (nI a) i = false := by simpa using hel
  have hz : zb (fElse S (nI a) i) = 0 := by rw [helf]; rfl
  by_cases hn : 8 ≤ sc S (10 + i)
  · skip
    exact op_ex2 hS (wr_tw wr_L_addTurn h3 (by omega) (by omega) (by omega) (fun Λ M hR => f_addTurn_4 hR h3 hi ha hp hz hn) rfl)
      (md_g (by omega) (by omega) (by omega) (fun Λ M hR => k_addTurn_5 hR h4 hi' ha' hp' (by rw [els_eq hS ha hi]; exact helf) (by rw [ck]; omega))) (by decide)
  have b3 : sc S 1003 ≤ 8 := hS.lo.1.1
  have e4 : cset (sc S) (10 + i) (sc S (10 + i) + 1) 4 = 1 := (cset_ne (by omega)).trans h4
  have e5 : cset (sc S) (10 + i) (sc S (10 + i) + 1) 5 = 1 := (cset_ne (by omega)).trans h5
  have e1 : cset (sc S) (10 + i) (sc S (10 + i) + 1) (1010 + i) = sc S (10 + i) := (cset_ne (by omega)).trans ck
  have e0 : cset (sc S) (10 + i) (sc S (10 + i) + 1) 1000 = sc S 0 := (cset_ne (by omega)).trans c0
  have e01 : cset (sc S) (10 + i) (sc S (10 + i) + 1) 1001 = sc S 1 := (cset_ne (by omega)).trans c1
  have em : fElsM (wP (fAddTurn S i a) 1000 (oN (cvI (nI (sc S (10 + i) + 1))))) (nI a) (nI i) (sc S 1000) = false := by
    rw [← helf, ← els_eq hS ha hi, Bool.eq_iff_iff, elsM_iff, elsM_iff]
    have q1 : ∀ j, j < sc S 1000 → sc (wP (fAddTurn S i a) 1000 (oN (cvI (nI (sc S (10 + i) + 1))))) (1010 + j) = sc S (1010 + j) := fun j hj => cset_ne (by omega)
    have q2 : ∀ j k, j < sc S 1000 → k < sc S (1010 + j) → sV (wP (fAddTurn S i a) 1000 (oN (cvI (nI (sc S (10 + i) + 1))))) (1160 + 8 * j + k) 608 = sV S (1160 + 8 * j + k) 608 := fun j k hj hk => by
      show u1 (sV S) (160 + 8 * i + sc S (10 + i)) (fun _ => 0) (1160 + 8 * j + k) 608 = _
      rw [u1_ne (by omega)]
    constructor
    · rintro ⟨j, k, r1, r2, r3, r4⟩
      rw [q1 j r1] at r3
      rw [q2 j k r1 r3] at r4
      exact ⟨j, k, r1, r2, r3, r4⟩
    · rintro ⟨j, k, r1, r2, r3, r4⟩
      exact ⟨j, k, r1, r2, by rw [q1 j r1]; exact r3, by rw [q2 j k r1 r3]; exact r4⟩
  refine ⟨0, _, _, _, wr_ok (S1 := fAddTurn S i a) (z := nI (sc S (10 + i) + 1)) wr_L_addTurn h3 e5 (by omega) (by omega) (by omega) (fun Λ M Q hR hQ => f_addTurn hR h3 hi ha hp hz (by omega) hQ), md_c (v := .int (nI (sc (wP (fAddTurn S i a) 1000 (oN (cvI (nI (sc S (10 + i) + 1))))) (1010 + i) + 1))) (by omega) (by omega) (by omega) (fun Λ M Q hR hQ => k_addTurn (S := wP (fAddTurn S i a) 1000 (oN (cvI (nI (sc S (10 + i) + 1))))) hR e4 (show i < cset (sc S) (10 + i) (sc S (10 + i) + 1) 1000 by rw [e0]; exact hi) (show a < cset (sc S) (10 + i) (sc S (10 + i) + 1) 1001 by rw [e01]; exact ha) (show u1 (sV S) (160 + 8 * i + sc S (10 + i)) (fun _ => 0) 1001 680 = 0 by rw [u1_ne (by omega)]; exact hp') (show fElsM (wP (fAddTurn S i a) 1000 (oN (cvI (nI (sc S (10 + i) + 1))))) (nI a) (nI i) (cset (sc S) (10 + i) (sc S (10 + i) + 1) 1000) = false by rw [e0, ← c0]; exact em) (show cset (sc S) (10 + i) (sc S (10 + i) + 1) (1010 + i) < 8 by rw [e1]; omega) hQ), ?_, fun _ => ?_, ?_⟩
  · show u1 (u2 (u2 (u1 (sV S) (160 + 8 * i + sc S (10 + i)) (fun _ => 0)) 1001 672 0) 1001 672 0) (1160 + 8 * i + cset (sc S) (10 + i) (sc S (10 + i) + 1) (1010 + i)) (fun k => if k = 608 then nI a else if k = 609 then -1 else 0) 1001 672 = 0
    rw [e1, u1_ne (by omega), u2_at]
  · show lN (u1 (sP S) 1000 (oN (cvI (nI (sc S (10 + i) + 1)))) 1000) = cvI (nI (cset (sc S) (10 + i) (sc S (10 + i) + 1) (1010 + i) + 1))
    rw [u1_at, lN_oN, e1]
  · have hV : ∀ y k, u1 (u2 (u2 (u1 (sV S) (160 + 8 * i + sc S (10 + i)) (fun _ => 0)) 1001 672 0) 1001 672 0) (1160 + 8 * i + cset (sc S) (10 + i) (sc S (10 + i) + 1) (1010 + i)) (fun k => if k = 608 then nI a else if k = 609 then -1 else 0) y k = if y = 1160 + 8 * i + sc S (10 + i) then (if k = 608 then nI a else if k = 609 then -1 else 0) else if k = 672 ∧ y = 1001 then 0 else if k = 672 ∧ y = 1001 then 0 else if y = 160 + 8 * i + sc S (10 + i) then 0 else sV S y k := fun y k => by
      rw [e1, u1_if2, u2_if, u2_if, u1_if2]
    refine rel_addTurn (n := sc S (10 + i)) (i := i) (a := a) hS hi ha rfl (by omega) (fun j k j1 j2 j3 j4 => hel ((fElse_iff hS ha).mpr ⟨j, k, j1, j2, j3, j4⟩)) ?_ ?_ (fun k k1 k2 => ?_) (fun j k hjk => ?_) ?_ (fun j hj => u1_ne (by omega)) (fun y k hk y1 y2 => ?_) (fun y k y1 y2 => ?_) (fun k hk => ?_) (fun k hk => ?_)
    · show cset (cset (sc S) (10 + i) (sc S (10 + i) + 1)) (1010 + i) (cset (sc S) (10 + i) (sc S (10 + i) + 1) (1010 + i) + 1) (10 + i) = _
      rw [cset_ne (by omega), cset_at]
    · show cset (cset (sc S) (10 + i) (sc S (10 + i) + 1)) (1010 + i) (cset (sc S) (10 + i) (sc S (10 + i) + 1) (1010 + i) + 1) (1010 + i) = _
      rw [cset_at, e1]
    · show cset (cset (sc S) (10 + i) (sc S (10 + i) + 1)) (1010 + i) (cset (sc S) (10 + i) (sc S (10 + i) + 1) (1010 + i) + 1) k = _
      rw [cset_ne k2, cset_ne k1]
    · show u2 (sT S) i (sc S (10 + i)) a j k = _
      rw [u2_if, if_neg (by omega)]
    · show u2 (sT S) i (sc S (10 + i)) a i (sc S (10 + i)) = _
      rw [u2_at]
    · refine (hV y k).trans ?_
      rw [if_neg y2, if_neg (fun g => hk g.1), if_neg (fun g => hk g.1), if_neg y1]
    · show u1 (u1 (sW S) (160 + 8 * i + sc S (10 + i)) (fun _ => 0)) (1160 + 8 * i + cset (sc S) (10 + i) (sc S (10 + i) + 1) (1010 + i)) (fun _ => 0) y k = _
      rw [e1, u1_if2, u1_if2, if_neg y2, if_neg y1]
    · refine (hV _ k).trans ?_
      rw [if_neg (by omega), if_neg (fun g => hk g.1), if_neg (fun g => hk g.1), if_pos rfl]
    · refine (hV _ k).trans ?_
      rw [if_pos rfl]

end ZOP9
