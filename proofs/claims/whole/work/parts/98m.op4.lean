/-! OPERATIONS 4: customs; what is only read -/

theorem fCA_c {S S' : zSt} (hW : ∀ a b, sW S' (1030 + a) b = sW S (1030 + a) b) (hc : sc S' 1001 = sc S 1001) : ∀ f a o, fCA S' f a o = fCA S f a o
  | 0, _, _ => rfl
  | f + 1, a, o => by
    show (decide (¬ sW S' (1030 + a) o = 0) || zany (fun k => decide (¬ sW S' (1030 + a) k = 0) && fCA S' f k o) (sc S' 1001)) = (decide (¬ sW S (1030 + a) o = 0) || zany (fun k => decide (¬ sW S (1030 + a) k = 0) && fCA S f k o) (sc S 1001))
    rw [hW, hc]
    congr 1
    exact zany_congr _ (fun k _ => by rw [hW, fCA_c hW hc f k o])
theorem has_eq {S : zSt} {n i j : Nat} (h : rCu n (sW S)) (hi : i < 8) (hj : j < 8) : fHas S (nI i) j = !decide (sW S (1030 + i) j = 0) := by
  unfold fHas
  have e : decide (¬ sW S 9 j &&& zbit (nI i) = 0) = bt (sW S 9 j) i := by
    rw [← Bool.not_not (bt (sW S 9 j) i), ← b_dec (by omega)]
    simp
  rw [e]
  exact (h.1 i j hi hj).2.1
theorem idx_ok : ∀ n, n < 256 → (n = 98 ∨ n = 101 ∨ n = 109 ∨ n = 115 ∨ n = 99 ∨ n = 100) ∨ fIdx (nI n) < 0 := by decide +kernel
theorem idx_no {x : Int32} (h1 : ¬ x = 98) (h2 : ¬ x = 101) (h3 : ¬ x = 109) (h4 : ¬ x = 115) (h5 : ¬ x = 99) (h6 : ¬ x = 100) : fIdx x < 0 := by
  by_cases g : ¬ x < 0 ∧ ¬ 255 < x
  · obtain ⟨n, rfl, -, hn⟩ := rng_of (a := 0) (b := 255) (by decide) (by decide) g.1 (Int32.not_lt.mp g.2)
    rcases idx_ok n (by omega) with (rfl | rfl | rfl | rfl | rfl | rfl) | h
    · exact absurd rfl h1
    · exact absurd rfl h2
    · exact absurd rfl h3
    · exact absurd rfl h4
    · exact absurd rfl h5
    · exact absurd rfl h6
    · exact h
  · unfold fIdx
    rw [if_neg g]
    decide
theorem idx_yes {x : Int32} (h : x = 98 ∨ x = 101 ∨ x = 109 ∨ x = 115 ∨ x = 99 ∨ x = 100) : ¬ fIdx x < 0 := by
  rcases h with rfl | rfl | rfl | rfl | rfl | rfl <;> decide +kernel
/-- both sides answer one value -/
def zOp0 (Z : zPar) (l : Launch) (x m o od : Nat) (mC mM : zMeth) (S : zSt) (P : Value → Prop) : Prop := ∃ v S1 S2, P v ∧ zHfC Z l mC [.ref x] x m o od S v S1 ∧ zHf Z l mM [.ref m] x m o od S1 v S2 ∧ rRel S2
abbrev vInt (v : Value) : Prop := ∃ z, v = .int z
abbrev vLong (v : Value) : Prop := ∃ z, v = .long z

section ZOP4
variable {Z : zPar} {l : Launch} {x m o od : Nat} {S : zSt}

theorem op_addCustom (hS : rRel S) (p q : Int32) : zOp Z l x m o od mth_L_addCustom mth_X16_addCustom [.ref x, .int p, .int q, .ref o] [.ref m, .int p, .int q] cvZ S := by
  have c0 := hS.c0
  have c1 := hS.c1
  have c2 := hS.c2
  have h3 := hS.h3
  have h4 := hS.h4
  have h5 := hS.h5
  have b0 := hS.b0
  have b1 := hS.b1
  have b2 := hS.b2
  by_cases hx : ¬ p < 0 ∧ ¬ nI (sc S 1) ≤ p
  rotate_left
  · skip
    exact op_ex hS (wr_tw wr_L_addCustom h3 (by omega) (by omega) (by omega) (fun Λ M hR => f_addCustom_0 hR h3 hx) rfl)
      (md_g (by omega) (by omega) (by omega) (fun Λ M hR => k_addCustom_1 hR h4 (by rw [c1]; exact hx))) (by decide)
  obtain ⟨i, hi, rfl⟩ := ix_of (by omega) hx
  by_cases hy : ¬ q < 0 ∧ ¬ nI (sc S 1) ≤ q
  rotate_left
  · skip
    exact op_ex hS (wr_tw wr_L_addCustom h3 (by omega) (by omega) (by omega) (fun Λ M hR => f_addCustom_1 hR h3 hi hy) rfl)
      (md_g (by omega) (by omega) (by omega) (fun Λ M hR => k_addCustom_2 hR h4 (show i < sc S 1001 by rw [c1]; exact hi) (by rw [c1]; exact hy))) (by decide)
  obtain ⟨j, hj, rfl⟩ := ix_of (by omega) hy
  have hi' : i < sc S 1001 := by rw [c1]; exact hi
  have hj' : j < sc S 1001 := by rw [c1]; exact hj
  by_cases hne : i = j
  · subst hne
    exact op_ex hS (wr_tw wr_L_addCustom h3 (by omega) (by omega) (by omega) (fun Λ M hR => f_addCustom_2 hR h3 hi) rfl)
      (md_g (by omega) (by omega) (by omega) (fun Λ M hR => k_addCustom_3 hR h4 hi')) (by decide)
  obtain ⟨g1, g2, rk, g3⟩ := id hS.cu
  have hle := lead_eq hS.cu c1 b1 (show i < 8 by omega) (show j < 8 by omega)
  have hrk : ∀ a k, a < sc S 1001 → k < sc S 1001 → ¬ sW S (1030 + a) k = 0 → rk k < rk a := fun a k ha hk h => (g3 a (by omega)).2 k (by omega) h
  have hbit : ∀ a k, a < sc S 1001 → k < sc S 1001 → sW S (1030 + a) k = 0 ∨ sW S (1030 + a) k = 1 := fun a k ha hk => (g1 a k (by omega) (by omega)).1
  have hr8 : ∀ a, a < sc S 1001 → rk a < 8 := fun a ha => (g3 a (by omega)).1
  by_cases hlead : ¬ fLead S i 8 &&& zbit (nI j) = 0
  · have hca : fCA S 8 j i = true := by
      rw [hle]
      exact (b_tst' (by omega)).mp hlead
    exact op_ex hS (wr_tw wr_L_addCustom h3 (by omega) (by omega) (by omega) (fun Λ M hR => f_addCustom_3 hR h3 hi hj hne hlead) rfl)
      (md_g (by omega) (by omega) (by omega) (fun Λ M hR => k_addCustom_4 (rk := rk) hR h4 hi' hj' hrk hbit hr8 hne hca)) (by decide)
  have hl0 : fLead S i 8 &&& zbit (nI j) = 0 := Decidable.byContradiction hlead
  have hca : fCA S 8 j i = false := by
    rw [hle]
    exact (b_tst (by omega)).mp hl0
  have hu : ∀ a b, u2 (sW S) 9 j (sW S 9 j ||| zbit (nI i)) (1030 + a) b = sW S (1030 + a) b := fun a b => by rw [u2_if, if_neg (by omega)]
  refine ⟨0, _, _, _, wr_okG wr_L_addCustom h3 (by exact h5) (by omega) (by omega) (by omega) (fun Λ M hR => f_addCustom hR h3 hi hj hne hl0), md_g (by omega) (by omega) (by omega) (fun Λ M hR => k_addCustom (rk := rk) hR h4 hi' hj' (fun a k ha hk h => hrk a k ha hk (by rw [← hu]; exact h)) (fun a k ha hk => by rw [show sW (wP (sc S, sV S, u2 (sW S) 9 j (sW S 9 j ||| zbit (nI i)), sT S, sP S) 1000 (oN (cvZ (zb (!fHas S (nI i) j))))) (1030 + a) k = sW S (1030 + a) k from hu a k]; exact hbit a k ha hk) hr8 hne ((fCA_c (S := S) (S' := wP (sc S, sV S, u2 (sW S) 9 j (sW S 9 j ||| zbit (nI i)), sT S, sP S) 1000 (oN (cvZ (zb (!fHas S (nI i) j))))) hu rfl 8 j i).trans hca)), rfl, fun _ => ?_, ?_⟩
  · skip
    show lN (u1 (sP S) 1000 (oN (cvZ (zb (!fHas S (nI i) j)))) 1000) = cvZ (zb (decide (u2 (sW S) 9 j (sW S 9 j ||| zbit (nI i)) (1030 + i) j = 0)))
    rw [u1_at, lN_oN]
    rw [hu, has_eq hS.cu (by omega) (by omega), Bool.not_not]
  · skip
    refine hS.rows rfl rfl (fun j hj => u1_ne (by omega)) (fun r k hk => u2_k hk r) (fun r k hr => ?_) (hS.pi.to rfl (fun r k hk => u2_k (by omega) r) (fun r k hr => ?_) b0) ?_
    · show u2 (u2 (sW S) 9 j _) (1030 + i) j 1 r k = _
      rw [u2_if, u2_if, if_neg (by omega), if_neg (by omega)]
    · show u2 (u2 (sW S) 9 j _) (1030 + i) j 1 r k = _
      rw [u2_if, u2_if, if_neg (by omega), if_neg (by omega)]
    · refine rCu_add hS.cu hi hj b1 hne (D := fun b => decide (b = j) || (decide (b < 8) && fCA S 8 j b)) (by simp) ?_ (desc_ok (fun a b ha hb h => by rw [c1]; exact ((g1 a b ha hb).2.2 h).2) (by omega) g3 (by omega))
      show (decide (i = j) || (decide (i < 8) && fCA S 8 j i)) = false
      rw [hca, decide_eq_false hne, Bool.and_false, Bool.or_false]
theorem op_endCustom (hS : rRel S) (p q : Int32) : zOp Z l x m o od mth_L_endCustom mth_X16_endCustom [.ref x, .int p, .int q, .ref o] [.ref m, .int p, .int q] cvZ S := by
  have c0 := hS.c0
  have c1 := hS.c1
  have c2 := hS.c2
  have h3 := hS.h3
  have h4 := hS.h4
  have h5 := hS.h5
  have b0 := hS.b0
  have b1 := hS.b1
  have b2 := hS.b2
  by_cases hx : ¬ p < 0 ∧ ¬ nI (sc S 1) ≤ p
  rotate_left
  · skip
    exact op_ex hS (wr_tw wr_L_endCustom h3 (by omega) (by omega) (by omega) (fun Λ M hR => f_endCustom_0 hR h3 hx) rfl)
      (md_g (by omega) (by omega) (by omega) (fun Λ M hR => k_endCustom_1 hR h4 (by rw [c1]; exact hx))) (by decide)
  obtain ⟨i, hi, rfl⟩ := ix_of (by omega) hx
  by_cases hy : ¬ q < 0 ∧ ¬ nI (sc S 1) ≤ q
  rotate_left
  · skip
    exact op_ex hS (wr_tw wr_L_endCustom h3 (by omega) (by omega) (by omega) (fun Λ M hR => f_endCustom_1 hR h3 hi hy) rfl)
      (md_g (by omega) (by omega) (by omega) (fun Λ M hR => k_endCustom_2 hR h4 (show i < sc S 1001 by rw [c1]; exact hi) (by rw [c1]; exact hy))) (by decide)
  obtain ⟨j, hj, rfl⟩ := ix_of (by omega) hy
  have hi' : i < sc S 1001 := by rw [c1]; exact hi
  have hj' : j < sc S 1001 := by rw [c1]; exact hj
  have hb := (hS.cu.1 i j (by omega) (by omega)).1
  have hu : ∀ a b, u2 (sW S) 9 j (sW S 9 j &&& (zbit (nI i) ^^^ (-1))) (1030 + a) b = sW S (1030 + a) b := fun a b => by rw [u2_if, if_neg (by omega)]
  refine ⟨0, _, _, _, wr_okG wr_L_endCustom h3 (by exact h5) (by omega) (by omega) (by omega) (fun Λ M hR => f_endCustom hR h3 hi hj), md_g (by omega) (by omega) (by omega) (fun Λ M hR => k_endCustom hR h4 hi' hj' (by rw [show sW (wP (sc S, sV S, u2 (sW S) 9 j (sW S 9 j &&& (zbit (nI i) ^^^ (-1))), sT S, sP S) 1000 (oN (cvZ (zb (fHas S (nI i) j))))) (1030 + i) j = sW S (1030 + i) j from hu i j]; exact hb)), rfl, fun _ => ?_, ?_⟩
  · skip
    show lN (u1 (sP S) 1000 (oN (cvZ (zb (fHas S (nI i) j)))) 1000) = cvZ (u2 (sW S) 9 j (sW S 9 j &&& (zbit (nI i) ^^^ (-1))) (1030 + i) j)
    rw [u1_at, lN_oN]
    rw [hu, has_eq hS.cu (by omega) (by omega)]
    rcases hb with e | e
    · rw [e]; rfl
    · rw [e]; rfl
  · skip
    refine hS.rows rfl rfl (fun j hj => u1_ne (by omega)) (fun r k hk => u2_k hk r) (fun r k hr => ?_) (hS.pi.to rfl (fun r k hk => u2_k (by omega) r) (fun r k hr => ?_) b0) (rCu_del hS.cu hi hj b1)
    · show u2 (u2 (sW S) 9 j _) (1030 + i) j 0 r k = _
      rw [u2_if, u2_if, if_neg (by omega), if_neg (by omega)]
    · show u2 (u2 (sW S) 9 j _) (1030 + i) j 0 r k = _
      rw [u2_if, u2_if, if_neg (by omega), if_neg (by omega)]
theorem op_passersAt (hS : rRel S) (p q : Int32) : zOp Z l x m o od mth_L_passersAt mth_X16_passersAt [.ref x, .int p, .int q, .ref o] [.ref m, .int p, .int q] cvI S := by
  have c0 := hS.c0
  have c1 := hS.c1
  have c2 := hS.c2
  have h3 := hS.h3
  have h4 := hS.h4
  have h5 := hS.h5
  have b0 := hS.b0
  have b1 := hS.b1
  have b2 := hS.b2
  by_cases hx : ¬ p < 0 ∧ ¬ nI (sc S 0) ≤ p
  rotate_left
  · skip
    exact op_ex hS (wr_tw wr_L_passersAt h3 (by omega) (by omega) (by omega) (fun Λ M hR => f_passersAt_0 hR h3 hx) rfl)
      (md_g (by omega) (by omega) (by omega) (fun Λ M hR => k_passersAt_1 hR h4 (by rw [c0]; exact hx))) (by decide)
  obtain ⟨i, hi, rfl⟩ := ix_of (by omega) hx
  by_cases g : q < 600 ∨ ¬ q ≤ 1199
  · skip
    exact op_ex hS (wr_tw wr_L_passersAt h3 (by omega) (by omega) (by omega) (fun Λ M hR => f_passersAt_1 hR h3 hi g) rfl)
      (md_g (by omega) (by omega) (by omega) (fun Λ M hR => k_passersAt_2 hR h4 (by rw [c0]; exact hi) g)) (by decide)
  have g1 : ¬ q < 600 := fun h => g (Or.inl h)
  have g2 : q ≤ 1199 := Decidable.byContradiction (fun h => g (Or.inr h))
  obtain ⟨mi, e1, e2, e3⟩ := rng_of (a := 600) (b := 1199) (by decide) (by decide) g1 g2
  subst e1
  have hp := (hS.pi i hi).2 (mi / 60 - 10) (by omega)
  refine ⟨0, _, _, _, wr_okD wr_L_passersAt h3 (by exact h5) (by omega) (by omega) (by omega) (fun Λ M hR => f_passersAt hR h3 hi g1 g2 e2 (by omega)), md_g (by omega) (by omega) (by omega) (fun Λ M hR => k_passersAt hR h4 (show i < sc S 1000 by rw [c0]; exact hi) g1 g2 e2 (by omega)), rfl, fun _ => ?_, ?_⟩
  · skip
    show lN (u1 (sP S) 1000 (oN (cvI (fPass S i mi))) 1000) = cvI (fPassM S i mi)
    rw [u1_at, lN_oN]
    unfold fPass fPassM
    rw [hp.1]
  · skip
    exact (hS.wP (by omega) (by omega)).mT 0
theorem op_money (hS : rRel S) (p : Int32) : zOp Z l x m o od mth_L_money mth_X16_money [.ref x, .int p, .ref o] [.ref m, .int p] cvI S := by
  have c0 := hS.c0
  have c1 := hS.c1
  have c2 := hS.c2
  have h3 := hS.h3
  have h4 := hS.h4
  have h5 := hS.h5
  have b0 := hS.b0
  have b1 := hS.b1
  have b2 := hS.b2
  by_cases hx : ¬ p < 0 ∧ ¬ nI (sc S 1) ≤ p
  rotate_left
  · skip
    exact op_ex hS (wr_tw wr_L_money h3 (by omega) (by omega) (by omega) (fun Λ M hR => f_money_0 hR h3 hx) rfl)
      (md_g (by omega) (by omega) (by omega) (fun Λ M hR => k_money_1 hR h4 (by rw [c1]; exact hx))) (by decide)
  obtain ⟨i, hi, rfl⟩ := ix_of (by omega) hx
  refine ⟨0, _, _, _, wr_okD wr_L_money h3 (by exact h5) (by omega) (by omega) (by omega) (fun Λ M hR => f_money hR h3 hi), md_g (by omega) (by omega) (by omega) (fun Λ M hR => k_money hR h4 (show i < sc S 1001 by rw [c1]; exact hi)), rfl, fun _ => ?_, ?_⟩
  · skip
    show lN (u1 (sP S) 1000 (oN (cvI (sV S (140 + i) 167))) 1000) = cvI (sV S (1140 + i) 550)
    rw [u1_at, lN_oN]
    rw [(hS.ac i hi).2.2.2.2.2.2.2]
  · skip
    exact (hS.wP (by omega) (by omega)).mT 0
theorem op_fineAt (hS : rRel S) (p : Int32) : zOp Z l x m o od mth_L_fineAt mth_X16_fineAt [.ref x, .int p, .ref o] [.ref m, .int p] cvI S := by
  have c0 := hS.c0
  have c1 := hS.c1
  have c2 := hS.c2
  have h3 := hS.h3
  have h4 := hS.h4
  have h5 := hS.h5
  have b0 := hS.b0
  have b1 := hS.b1
  have b2 := hS.b2
  by_cases hp : sV S 7 228 = 0
  · have hp' : sV S 1001 680 = 0 := by rw [hS.da.1.1]; exact hp
    exact op_ex hS (wr_tw wr_L_fineAt h3 (by omega) (by omega) (by omega) (fun Λ M hR => f_fineAt_0 hR h3 hp) rfl)
      (md_g (by omega) (by omega) (by omega) (fun Λ M hR => k_fineAt_1 hR h4 hp')) (by decide)
  have hp' : ¬ sV S 1001 680 = 0 := by rw [hS.da.1.1]; exact hp
  by_cases hx : ¬ p < 0 ∧ ¬ nI (sc S 2) ≤ p
  rotate_left
  · skip
    exact op_ex hS (wr_tw wr_L_fineAt h3 (by omega) (by omega) (by omega) (fun Λ M hR => f_fineAt_1 hR h3 hp hx) rfl)
      (md_g (by omega) (by omega) (by omega) (fun Λ M hR => k_fineAt_2 hR h4 hp' (by rw [c2]; exact hx))) (by decide)
  obtain ⟨i, hi, rfl⟩ := ix_of (by omega) hx
  have hv := hS.vi i hi
  refine ⟨0, _, _, _, wr_okD wr_L_fineAt h3 (by exact h5) (by omega) (by omega) (by omega) (fun Λ M hR => f_fineAt hR h3 hp hi hv.2.2.1.2), md_g (by omega) (by omega) (by omega) (fun Λ M hR => k_fineAt hR h4 hp' (show i < sc S 1002 by rw [c2]; exact hi) (show narrow .char (.int (sV S (1150 + i) 642)) = .int (sV S (1150 + i) 642) by rw [hv.2.2.1.1]; exact hv.2.2.1.2.1)), rfl, fun _ => ?_, ?_⟩
  · skip
    show lN (u1 (sP S) 1000 (oN (cvI (sV S (150 + i) 450))) 1000) = cvI (sV S (1150 + i) 642)
    rw [u1_at, lN_oN]
    rw [hv.2.2.1.1]
  · skip
    exact (hS.wP (by omega) (by omega)).mT 0
theorem op_sumAt (hS : rRel S) (p : Int32) : zOp Z l x m o od mth_L_sumAt mth_X16_sumAt [.ref x, .int p, .ref o] [.ref m, .int p] cvI S := by
  have c0 := hS.c0
  have c1 := hS.c1
  have c2 := hS.c2
  have h3 := hS.h3
  have h4 := hS.h4
  have h5 := hS.h5
  have b0 := hS.b0
  have b1 := hS.b1
  have b2 := hS.b2
  by_cases hp : sV S 7 228 = 0
  · have hp' : sV S 1001 680 = 0 := by rw [hS.da.1.1]; exact hp
    exact op_ex hS (wr_tw wr_L_sumAt h3 (by omega) (by omega) (by omega) (fun Λ M hR => f_sumAt_0 hR h3 hp) rfl)
      (md_g (by omega) (by omega) (by omega) (fun Λ M hR => k_sumAt_1 hR h4 hp')) (by decide)
  have hp' : ¬ sV S 1001 680 = 0 := by rw [hS.da.1.1]; exact hp
  by_cases hx : ¬ p < 0 ∧ ¬ nI (sc S 2) ≤ p
  rotate_left
  · skip
    exact op_ex hS (wr_tw wr_L_sumAt h3 (by omega) (by omega) (by omega) (fun Λ M hR => f_sumAt_1 hR h3 hp hx) rfl)
      (md_g (by omega) (by omega) (by omega) (fun Λ M hR => k_sumAt_2 hR h4 hp' (by rw [c2]; exact hx))) (by decide)
  obtain ⟨i, hi, rfl⟩ := ix_of (by omega) hx
  have hv := hS.vi i hi
  refine ⟨0, _, _, _, wr_okD wr_L_sumAt h3 (by exact h5) (by omega) (by omega) (by omega) (fun Λ M hR => f_sumAt hR h3 hp hi), md_g (by omega) (by omega) (by omega) (fun Λ M hR => k_sumAt hR h4 hp' (show i < sc S 1002 by rw [c2]; exact hi)), rfl, fun _ => ?_, ?_⟩
  · skip
    show lN (u1 (sP S) 1000 (oN (cvI (sV S (150 + i) 451))) 1000) = cvI (sV S (1150 + i) 643)
    rw [u1_at, lN_oN]
    rw [hv.2.2.2]
  · skip
    exact (hS.wP (by omega) (by omega)).mT 0
theorem op_turnAt (hS : rRel S) (p q : Int32) : zOp Z l x m o od mth_L_turnAt mth_X16_turnAt [.ref x, .int p, .int q, .ref o] [.ref m, .int p, .int q] cvI S := by
  have c0 := hS.c0
  have c1 := hS.c1
  have c2 := hS.c2
  have h3 := hS.h3
  have h4 := hS.h4
  have h5 := hS.h5
  have b0 := hS.b0
  have b1 := hS.b1
  have b2 := hS.b2
  by_cases hx : ¬ p < 0 ∧ ¬ nI (sc S 0) ≤ p
  rotate_left
  · skip
    exact op_ex hS (wr_tw wr_L_turnAt h3 (by omega) (by omega) (by omega) (fun Λ M hR => f_turnAt_0 hR h3 hx) rfl)
      (md_g (by omega) (by omega) (by omega) (fun Λ M hR => k_turnAt_1 hR h4 (by rw [c0]; exact hx))) (by decide)
  obtain ⟨i, hi, rfl⟩ := ix_of (by omega) hx
  have hi' : i < sc S 1000 := by rw [c0]; exact hi
  have ck := hS.ck hi
  have bk := hS.bk hi
  by_cases hy : ¬ q < 0 ∧ ¬ nI (sc S (10 + i)) ≤ q
  rotate_left
  · skip
    exact op_ex hS (wr_tw wr_L_turnAt h3 (by omega) (by omega) (by omega) (fun Λ M hR => f_turnAt_1 hR h3 hi hy) rfl)
      (md_g (by omega) (by omega) (by omega) (fun Λ M hR => k_turnAt_2 hR h4 hi' (by rw [ck]; exact hy))) (by decide)
  obtain ⟨k, hk, rfl⟩ := ix_of (by omega) hy
  have ht := hS.tu i k hi hk
  refine ⟨0, _, _, _, wr_okD wr_L_turnAt h3 (by exact h5) (by omega) (by omega) (by omega) (fun Λ M hR => f_turnAt hR h3 hi hk), md_g (by omega) (by omega) (by omega) (fun Λ M hR => k_turnAt hR h4 hi' (show k < sc S (1010 + i) by rw [ck]; exact hk)), rfl, fun _ => ?_, ?_⟩
  · skip
    show lN (u1 (sP S) 1000 (oN (cvI (sV S (140 + sT S i k) 160))) 1000) = cvI (sV S (1160 + 8 * i + k) 608)
    rw [u1_at, lN_oN]
    rw [ht.1.2, (hS.ac _ ht.1.1).1]
  · skip
    exact (hS.wP (by omega) (by omega)).mT 0
theorem op_lotAt (hS : rRel S) (p : Int32) : zOp Z l x m o od mth_L_lotAt mth_X16_lotAt [.ref x, .int p, .ref o] [.ref m, .int p] cvI S := by
  have c0 := hS.c0
  have c1 := hS.c1
  have c2 := hS.c2
  have h3 := hS.h3
  have h4 := hS.h4
  have h5 := hS.h5
  have b0 := hS.b0
  have b1 := hS.b1
  have b2 := hS.b2
  obtain ⟨⟨g1, g2, g3⟩, g4, g5, -, g6, -⟩ := hS.lo
  by_cases hd : sV S 4 324 = 0
  · have hz : ¬ (¬ p < 0 ∧ ¬ nI (sc S 1003) ≤ p) := fun h => h.2 (by rw [g6 hd]; exact Int32.not_lt.mp h.1)
    exact op_ex hS (wr_tw wr_L_lotAt h3 (by omega) (by omega) (by omega) (fun Λ M hR => f_lotAt_0 hR h3 hd) rfl)
      (md_g (by omega) (by omega) (by omega) (fun Λ M hR => k_lotAt_1 hR h4 hz)) (by decide)
  by_cases hx : p < 0
  · skip
    exact op_ex hS (wr_tw wr_L_lotAt h3 (by omega) (by omega) (by omega) (fun Λ M hR => f_lotAt_1 hR h3 hd hx) rfl)
      (md_g (by omega) (by omega) (by omega) (fun Λ M hR => k_lotAt_1 hR h4 (fun h => h.1 hx))) (by decide)
  by_cases hy : ¬ p < sV S 4 323
  · skip
    exact op_ex hS (wr_tw wr_L_lotAt h3 (by omega) (by omega) (by omega) (fun Λ M hR => f_lotAt_2 hR h3 hd hx hy) rfl)
      (md_g (by omega) (by omega) (by omega) (fun Λ M hR => k_lotAt_1 hR h4 (fun h => h.2 (by rw [← g3]; exact Int32.not_lt.mp hy)))) (by decide)
  obtain ⟨i, hi, e⟩ := ix_of (n := sc S 1003) (by omega) ⟨hx, fun h => (Decidable.byContradiction hy : p < sV S 4 323) |> fun q => by rw [g3] at q; exact Int32.lt_irrefl (Int32.lt_of_lt_of_le q h)⟩
  subst e
  obtain ⟨a, a1, a2, a3⟩ := g4 i hi
  refine ⟨0, _, _, _, wr_okD wr_L_lotAt h3 (by exact h5) (by omega) (by omega) (by omega) (fun Λ M hR => f_lotAt hR h3 hd g3 hi g1), md_g (by omega) (by omega) (by omega) (fun Λ M hR => k_lotAt hR h4 hi), rfl, fun _ => ?_, ?_⟩
  · skip
    show lN (u1 (sP S) 1000 (oN (cvI (sW S 11 i))) 1000) = cvI (sV S (1300 + i) 32)
    rw [u1_at, lN_oN]
    rw [a2, a3]
  · skip
    exact (hS.wP (by omega) (by omega)).mT 0
theorem op_diary (hS : rRel S) (p : Int32) : zOp Z l x m o od mth_L_diary mth_X16_diary [.ref x, .int p, .ref o] [.ref m, .int p] cvI S := by
  have c0 := hS.c0
  have c1 := hS.c1
  have c2 := hS.c2
  have h3 := hS.h3
  have h4 := hS.h4
  have h5 := hS.h5
  have b0 := hS.b0
  have b1 := hS.b1
  have b2 := hS.b2
  obtain ⟨-, -, g1, g2, g3⟩ := hS.da
  by_cases hx : p < 1
  · skip
    exact op_ex hS (wr_tw wr_L_diary h3 (by omega) (by omega) (by omega) (fun Λ M hR => f_diary_0 hR h3 hx) rfl)
      (md_g (by omega) (by omega) (by omega) (fun Λ M hR => k_diary_1 hR h4 (Or.inl hx))) (by decide)
  by_cases hy : ¬ p ≤ sV S 8 257
  · skip
    exact op_ex hS (wr_tw wr_L_diary h3 (by omega) (by omega) (by omega) (fun Λ M hR => f_diary_1 hR h3 hx hy) rfl)
      (md_g (by omega) (by omega) (by omega) (fun Λ M hR => k_diary_1 hR h4 (Or.inr (by rw [← g2]; exact hy)))) (by decide)
  obtain ⟨i, e1, e2, e3⟩ : rN p 1 (sc S 6) := by
    have h0 : ¬ p < 0 := fun h => hx (Int32.lt_of_lt_of_le h (by decide))
    obtain ⟨j, hj, rfl⟩ := nI_of h0
    have hy : nI j ≤ sV S 8 257 := Decidable.byContradiction hy
    rw [g2] at hy
    refine ⟨j, rfl, ?_, (nI_leI hj (by omega)).mp hy⟩
    rcases Nat.eq_zero_or_pos j with e | e
    · exact absurd (nI_lt (a := j) (b := 1) (by omega) (by decide)) hx
    · exact e
  subst e1
  have hd := g3 i e2 e3
  refine ⟨0, _, _, _, wr_okD wr_L_diary h3 (by exact h5) (by omega) (by omega) (by omega) (fun Λ M hR => f_diary hR h3 g2 e2 e3 g1), md_g (by omega) (by omega) (by omega) (fun Λ M hR => k_diary hR h4 e2 e3), rfl, fun _ => ?_, ?_⟩
  · skip
    show lN (u1 (sP S) 1000 (oN (cvI (sW S 14 (i - 1)))) 1000) = cvI (sV S (1320 + (sc S 6 - i)) 32)
    rw [u1_at, lN_oN]
    rw [hd]
  · skip
    exact (hS.wP (by omega) (by omega)).mT 0
theorem op_isBroken (hS : rRel S) (p q : Int32) : zOp Z l x m o od mth_L_isBroken mth_X16_isBroken [.ref x, .int p, .int q, .ref o] [.ref m, .int p, .int q] cvZ S := by
  have c0 := hS.c0
  have c1 := hS.c1
  have c2 := hS.c2
  have h3 := hS.h3
  have h4 := hS.h4
  have h5 := hS.h5
  have b0 := hS.b0
  have b1 := hS.b1
  have b2 := hS.b2
  by_cases hx : ¬ p < 0 ∧ ¬ nI (sc S 0) ≤ p
  rotate_left
  · skip
    exact op_ex2 hS (wr_tw wr_L_isBroken h3 (by omega) (by omega) (by omega) (fun Λ M hR => f_isBroken_0 hR h3 hx) rfl)
      (md_g (by omega) (by omega) (by omega) (fun Λ M hR => k_isBroken_1 hR h4 (by rw [c0]; exact hx))) (by decide)
  obtain ⟨i, hi, rfl⟩ := ix_of (by omega) hx
  have hi' : i < sc S 1000 := by rw [c0]; exact hi
  have ck := hS.ck hi
  have bk := hS.bk hi
  by_cases hp : sV S 7 228 = 0
  · have hp' : sV S 1001 680 = 0 := by rw [hS.da.1.1]; exact hp
    by_cases hy : ¬ q < 0 ∧ ¬ nI (sc S (10 + i)) ≤ q
    · obtain ⟨k, hk, rfl⟩ := ix_of (by omega) hy
      exact op_ex2 hS (wr_tw wr_L_isBroken h3 (by omega) (by omega) (by omega) (fun Λ M hR => f_isBroken_1 hR h3 hi hp) rfl)
        (md_g (by omega) (by omega) (by omega) (fun Λ M hR => k_isBroken_3i hR h4 hi' (show k < sc S (1010 + i) by rw [ck]; exact hk) hp')) (by decide)
    · skip
      exact op_ex2 hS (wr_tw wr_L_isBroken h3 (by omega) (by omega) (by omega) (fun Λ M hR => f_isBroken_1 hR h3 hi hp) rfl)
        (md_g (by omega) (by omega) (by omega) (fun Λ M hR => k_isBroken_3o hR h4 hi' (by rw [ck]; exact hy) hp')) (by decide)
  have hp' : ¬ sV S 1001 680 = 0 := by rw [hS.da.1.1]; exact hp
  by_cases hy : ¬ q < 0 ∧ ¬ nI (sc S (10 + i)) ≤ q
  rotate_left
  · skip
    exact op_ex2 hS (wr_tw wr_L_isBroken h3 (by omega) (by omega) (by omega) (fun Λ M hR => f_isBroken_2 hR h3 hi hp hy) rfl)
      (md_g (by omega) (by omega) (by omega) (fun Λ M hR => k_isBroken_4o hR h4 hi' (by rw [ck]; exact hy) hp')) (by decide)
  obtain ⟨k, hk, rfl⟩ := ix_of (by omega) hy
  have hk' : k < sc S (1010 + i) := by rw [ck]; exact hk
  have ht := hS.tu i k hi hk
  by_cases hw : sV S (160 + 8 * i + k) 423 = 0
  · have hb : sV S (1160 + 8 * i + k) 609 = -1 := by rw [ht.2.1.1, if_pos hw]
    exact op_ex2 hS (wr_tw wr_L_isBroken h3 (by omega) (by omega) (by omega) (fun Λ M hR => f_isBroken_3 hR h3 hi hp hk hw) rfl)
      (md_g (by omega) (by omega) (by omega) (fun Λ M hR => k_isBroken_4i hR h4 hi' hk' hp' hb)) (by decide)
  have hb : ¬ sV S (1160 + 8 * i + k) 609 = -1 := by rw [ht.2.1.1, if_neg hw]; exact ht.2.1.2 hw
  have e5 := ht.2.2.2.2.2.2.2.1
  have e6 := ht.2.2.2.2.2.2.2.2
  by_cases h9 : sV S (160 + 8 * i + k) 424 = 0
  · skip
    refine ⟨0, _, _, _, wr_okD wr_L_isBroken h3 (by exact h5) (by omega) (by omega) (by omega) (fun Λ M hR => f_isBroken hR h3 hi hp hk hw e6), md_g (by omega) (by omega) (by omega) (fun Λ M hR => k_isBroken_n hR h4 hi' hk' hp' hb (show sV S (1160 + 8 * i + k) 615 = 0 by rw [e5]; exact h9)), rfl, fun _ => ?_, ?_⟩
    · skip
      show lN (u1 (sP S) 1000 (oN (cvZ (sV S (160 + 8 * i + k) 424))) 1000) = cvZ 0
      rw [u1_at, lN_oN]
      rw [h9]
    · skip
      exact ((hS.wP (by omega) (by omega)).mT 0).mT 0
  · skip
    refine ⟨0, _, _, _, wr_okD wr_L_isBroken h3 (by exact h5) (by omega) (by omega) (by omega) (fun Λ M hR => f_isBroken hR h3 hi hp hk hw e6), md_g (by omega) (by omega) (by omega) (fun Λ M hR => k_isBroken_y hR h4 hi' hk' hp' hb (show ¬ sV S (1160 + 8 * i + k) 615 = 0 by rw [e5]; exact h9)), rfl, fun _ => ?_, ?_⟩
    · skip
      show lN (u1 (sP S) 1000 (oN (cvZ (sV S (160 + 8 * i + k) 424))) 1000) = cvZ 1
      rw [u1_at, lN_oN]
      rw [e6.resolve_left h9]
    · skip
      exact ((hS.wP (by omega) (by omega)).mT 0).mT 0
theorem op_of (hS : rRel S) (p q r : Int32) : zOp Z l x m o od mth_L_of mth_X16_of [.ref x, .int p, .int q, .int r, .ref o] [.ref m, .int p, .int q, .int r] cvI S := by
  have c0 := hS.c0
  have c1 := hS.c1
  have c2 := hS.c2
  have h3 := hS.h3
  have h4 := hS.h4
  have h5 := hS.h5
  have b0 := hS.b0
  have b1 := hS.b1
  have b2 := hS.b2
  by_cases hx : ¬ p < 0 ∧ ¬ nI (sc S 0) ≤ p
  rotate_left
  · by_cases hw : fIdx r < 0
    · skip
      exact op_ex hS (wr_tw wr_L_of h3 (by omega) (by omega) (by omega) (fun Λ M hR => f_of_0 hR h3 hx) rfl)
        (md_g (by omega) (by omega) (by omega) (fun Λ M hR => k_of_1n hR h4 (by rw [c0]; exact hx) hw)) (by decide)
    · skip
      exact op_ex hS (wr_tw wr_L_of h3 (by omega) (by omega) (by omega) (fun Λ M hR => f_of_0 hR h3 hx) rfl)
        (md_g (by omega) (by omega) (by omega) (fun Λ M hR => k_of_1 hR h4 (by rw [c0]; exact hx) hw)) (by decide)
  obtain ⟨i, hi, rfl⟩ := ix_of (by omega) hx
  have hi' : i < sc S 1000 := by rw [c0]; exact hi
  have ck := hS.ck hi
  have bk := hS.bk hi
  by_cases hth : r = 98 ∨ r = 101 ∨ r = 109 ∨ r = 115 ∨ r = 99 ∨ r = 100
  rotate_left
  · have n1 : ¬ r = 98 := fun h => hth (by simp [h])
    have n2 : ¬ r = 101 := fun h => hth (by simp [h])
    have n3 : ¬ r = 109 := fun h => hth (by simp [h])
    have n4 : ¬ r = 115 := fun h => hth (by simp [h])
    have n5 : ¬ r = 99 := fun h => hth (by simp [h])
    have n6 : ¬ r = 100 := fun h => hth (by simp [h])
    by_cases hy : ¬ q < 0 ∧ ¬ nI (sc S (10 + i)) ≤ q
    · obtain ⟨k, hk, rfl⟩ := ix_of (by omega) hy
      exact op_ex hS (wr_tw wr_L_of h3 (by omega) (by omega) (by omega) (fun Λ M hR => f_of_1 hR h3 hi n1 n2 n3 n4 n5 n6) rfl)
        (md_g (by omega) (by omega) (by omega) (fun Λ M hR => k_of_2i hR h4 hi' (show k < sc S (1010 + i) by rw [ck]; exact hk) (idx_no n1 n2 n3 n4 n5 n6))) (by decide)
    · skip
      exact op_ex hS (wr_tw wr_L_of h3 (by omega) (by omega) (by omega) (fun Λ M hR => f_of_1 hR h3 hi n1 n2 n3 n4 n5 n6) rfl)
        (md_g (by omega) (by omega) (by omega) (fun Λ M hR => k_of_2o hR h4 hi' (by rw [ck]; exact hy) (idx_no n1 n2 n3 n4 n5 n6))) (by decide)
  have hwx := idx_yes hth
  by_cases hp : sV S 7 228 = 0
  · have hp' : sV S 1001 680 = 0 := by rw [hS.da.1.1]; exact hp
    by_cases hy : ¬ q < 0 ∧ ¬ nI (sc S (10 + i)) ≤ q
    · obtain ⟨k, hk, rfl⟩ := ix_of (by omega) hy
      exact op_ex hS (wr_tw wr_L_of h3 (by omega) (by omega) (by omega) (fun Λ M hR => f_of_2 hR h3 hi hth hp) rfl)
        (md_g (by omega) (by omega) (by omega) (fun Λ M hR => k_of_3i hR h4 hi' (show k < sc S (1010 + i) by rw [ck]; exact hk) hwx hp')) (by decide)
    · skip
      exact op_ex hS (wr_tw wr_L_of h3 (by omega) (by omega) (by omega) (fun Λ M hR => f_of_2 hR h3 hi hth hp) rfl)
        (md_g (by omega) (by omega) (by omega) (fun Λ M hR => k_of_3o hR h4 hi' (by rw [ck]; exact hy) hwx hp')) (by decide)
  have hp' : ¬ sV S 1001 680 = 0 := by rw [hS.da.1.1]; exact hp
  by_cases hy : ¬ q < 0 ∧ ¬ nI (sc S (10 + i)) ≤ q
  rotate_left
  · skip
    exact op_ex hS (wr_tw wr_L_of h3 (by omega) (by omega) (by omega) (fun Λ M hR => f_of_3 hR h3 hi hth hp hy) rfl)
      (md_g (by omega) (by omega) (by omega) (fun Λ M hR => k_of_4o hR h4 hi' (by rw [ck]; exact hy) hwx hp')) (by decide)
  obtain ⟨k, hk, rfl⟩ := ix_of (by omega) hy
  have hk' : k < sc S (1010 + i) := by rw [ck]; exact hk
  have ht := hS.tu i k hi hk
  by_cases hw : sV S (160 + 8 * i + k) 423 = 0
  · have hb : sV S (1160 + 8 * i + k) 609 = -1 := by rw [ht.2.1.1, if_pos hw]
    exact op_ex hS (wr_tw wr_L_of h3 (by omega) (by omega) (by omega) (fun Λ M hR => f_of_4 hR h3 hi hth hp hk hw) rfl)
      (md_g (by omega) (by omega) (by omega) (fun Λ M hR => k_of_4i hR h4 hi' hk' hwx hp' hb)) (by decide)
  have e9 : sV S (1160 + 8 * i + k) 609 = sV S (160 + 8 * i + k) 417 := by rw [ht.2.1.1, if_neg hw]
  have hb : ¬ sV S (1160 + 8 * i + k) 609 = -1 := by rw [e9]; exact ht.2.1.2 hw
  rcases id hth with rfl | rfl | rfl | rfl | rfl | rfl
  · skip
    refine ⟨0, _, _, _, wr_okD wr_L_of h3 (by exact h5) (by omega) (by omega) (by omega) (fun Λ M hR => f_of hR h3 hi hth hp hk hw), md_g (by omega) (by omega) (by omega) (fun Λ M hR => k_of_b hR h4 hi' hk' hp' hb), rfl, fun _ => ?_, ?_⟩
    · skip
      show lN (u1 (sP S) 1000 (oN (cvI (fTell S (160 + 8 * i + k) 98))) 1000) = cvI (sV S (1160 + 8 * i + k) 609)
      rw [u1_at, lN_oN]
      rw [e9]
      rfl
    · skip
      exact (hS.wP (by omega) (by omega)).mT 0
  · skip
    refine ⟨0, _, _, _, wr_okD wr_L_of h3 (by exact h5) (by omega) (by omega) (by omega) (fun Λ M hR => f_of hR h3 hi hth hp hk hw), md_g (by omega) (by omega) (by omega) (fun Λ M hR => k_of_e hR h4 hi' hk' hp' hb), rfl, fun _ => ?_, ?_⟩
    · skip
      show lN (u1 (sP S) 1000 (oN (cvI (fTell S (160 + 8 * i + k) 101))) 1000) = cvI (sV S (1160 + 8 * i + k) 610)
      rw [u1_at, lN_oN]
      rw [ht.2.2.1]
      rfl
    · skip
      exact (hS.wP (by omega) (by omega)).mT 0
  · skip
    refine ⟨0, _, _, _, wr_okD wr_L_of h3 (by exact h5) (by omega) (by omega) (by omega) (fun Λ M hR => f_of hR h3 hi hth hp hk hw), md_g (by omega) (by omega) (by omega) (fun Λ M hR => k_of_m hR h4 hi' hk' hp' hb), rfl, fun _ => ?_, ?_⟩
    · skip
      show lN (u1 (sP S) 1000 (oN (cvI (fTell S (160 + 8 * i + k) 109))) 1000) = cvI (sV S (1160 + 8 * i + k) 612)
      rw [u1_at, lN_oN]
      rw [ht.2.2.2.2.1]
      rfl
    · skip
      exact (hS.wP (by omega) (by omega)).mT 0
  · skip
    refine ⟨0, _, _, _, wr_okD wr_L_of h3 (by exact h5) (by omega) (by omega) (by omega) (fun Λ M hR => f_of hR h3 hi hth hp hk hw), md_g (by omega) (by omega) (by omega) (fun Λ M hR => k_of_s hR h4 hi' hk' hp' hb), rfl, fun _ => ?_, ?_⟩
    · skip
      show lN (u1 (sP S) 1000 (oN (cvI (fTell S (160 + 8 * i + k) 115))) 1000) = cvI (sV S (1160 + 8 * i + k) 611)
      rw [u1_at, lN_oN]
      rw [ht.2.2.2.1]
      rfl
    · skip
      exact (hS.wP (by omega) (by omega)).mT 0
  · skip
    refine ⟨0, _, _, _, wr_okD wr_L_of h3 (by exact h5) (by omega) (by omega) (by omega) (fun Λ M hR => f_of hR h3 hi hth hp hk hw), md_g (by omega) (by omega) (by omega) (fun Λ M hR => k_of_c hR h4 hi' hk' hp' hb), rfl, fun _ => ?_, ?_⟩
    · skip
      show lN (u1 (sP S) 1000 (oN (cvI (fTell S (160 + 8 * i + k) 99))) 1000) = cvI (sV S (1160 + 8 * i + k) 613)
      rw [u1_at, lN_oN]
      rw [ht.2.2.2.2.2.1]
      rfl
    · skip
      exact (hS.wP (by omega) (by omega)).mT 0
  · skip
    refine ⟨0, _, _, _, wr_okD wr_L_of h3 (by exact h5) (by omega) (by omega) (by omega) (fun Λ M hR => f_of hR h3 hi hth hp hk hw), md_g (by omega) (by omega) (by omega) (fun Λ M hR => k_of_d hR h4 hi' hk' hp' hb), rfl, fun _ => ?_, ?_⟩
    · skip
      show lN (u1 (sP S) 1000 (oN (cvI (fTell S (160 + 8 * i + k) 100))) 1000) = cvI (sV S (1160 + 8 * i + k) 614)
      rw [u1_at, lN_oN]
      rw [ht.2.2.2.2.2.2.1]
      rfl
    · skip
      exact (hS.wP (by omega) (by omega)).mT 0
theorem op_fines (hS : rRel S) : zOp0 Z l x m o od mth_X11_fines mth_X16_fines S vInt := by
  have h3 := hS.h3
  have h4 := hS.h4
  have k := fun Λ M (hR : zRp Z Λ S M) => k_fines (l := l) hR h4
  simp only [hS.da.1.2.2] at k
  exact ⟨.int (sV S 7 232), S, mT S 0, ⟨_, rfl⟩, cl_d (by omega) (by omega) (by omega) (fun Λ M hR => f_fines hR h3), md_g (by omega) (by omega) (by omega) k, hS.mT 0⟩
theorem sumA_eq (hS : rRel S) (n : Nat) : n ≤ sc S 1 → fSumAm S n = fSumA S n := by
  induction n with
  | zero =>
    intro _
    unfold fSumAm fSumA
    rw [zit_0, zit_0]
  | succ n ih =>
    intro hn
    have g := hS.ac n (by omega)
    have ih := ih (by omega)
    unfold fSumAm fSumA at ih ⊢
    rw [zit_s, zit_s, ih, g.2.2.2.2.2.2.2, g.2.2.2.2.2.1.1]
theorem sumP_eq (hS : rRel S) (y : Int64) (n : Nat) : n ≤ sc S 0 → fSumPm S n y = fSumP S n y := by
  induction n with
  | zero =>
    intro _
    unfold fSumPm fSumP
    rw [zit_0, zit_0]
  | succ n ih =>
    intro hn
    have g := hS.pi n (by omega)
    have ih := ih (by omega)
    unfold fSumPm fSumP at ih ⊢
    rw [zit_s, zit_s, ih, g.1.1.1, hS.ck (by omega)]
theorem op_checksum (hS : rRel S) : zOp0 Z l x m o od mth_X11_checksum mth_X16_checksum S vLong := by
  have h3 := hS.h3
  have h4 := hS.h4
  obtain ⟨z, -, -, z3, z4⟩ := hS.lo.2.2.2.1
  have k := fun Λ M (hR : zRp Z Λ S M) => k_checksum (l := l) hR h4
  simp only [hS.c0, hS.c1, sumA_eq hS _ (Nat.le_refl _), sumP_eq hS _ _ (Nat.le_refl _), hS.da.1.2.2, z4, ← z3] at k
  exact ⟨.long (31 * (31 * fSumP S (sc S 0) (fSumA S (sc S 1)) + (sV S 7 232).toInt64) + (sV S 4 325).toInt64), S, mT S 0, ⟨_, rfl⟩, cl_d (by omega) (by omega) (by omega) (fun Λ M hR => f_checksum hR h3), md_g (by omega) (by omega) (by omega) k, hS.mT 0⟩

end ZOP4
