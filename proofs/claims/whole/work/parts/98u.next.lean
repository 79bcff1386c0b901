/-! OPERATIONS 11: a new day on both sides -/
section ZOP11A
variable {S S2 : zSt} {c : Nat → Nat}
theorem fClr_if {q : Nat} : ∀ j, fClr j c q = if 10 ≤ q ∧ q < 10 + j then 0 else c q
  | 0 => by
    rw [if_neg (by omega)]
    rfl
  | j + 1 => by
    show cset (fClr j c) (10 + j) 0 q = _
    by_cases g : q = 10 + j
    · subst g
      rw [cset_at, if_pos (by omega)]
    · rw [cset_ne g, fClr_if j]
      by_cases g2 : 10 ≤ q ∧ q < 10 + j
      · rw [if_pos g2, if_pos (by omega)]
      · rw [if_neg g2, if_neg (by omega)]
theorem fClrM_if {q : Nat} : ∀ j, fClrM j c q = if 1010 ≤ q ∧ q < 1010 + j then 0 else c q
  | 0 => by
    rw [if_neg (by omega)]
    rfl
  | j + 1 => by
    show cset (fClrM j c) (1010 + j) 0 q = _
    by_cases g : q = 1010 + j
    · subst g
      rw [cset_at, if_pos (by omega)]
    · rw [cset_ne g, fClrM_if j]
      by_cases g2 : 1010 ≤ q ∧ q < 1010 + j
      · rw [if_pos g2, if_pos (by omega)]
      · rw [if_neg g2, if_neg (by omega)]
theorem fMoney_n {V V' : Nat → Nat → Int32} : ∀ n, (∀ a, a < n → V' (140 + a) 167 = V (140 + a) 167) → fMoney (wV S V') n = fMoney (wV S V) n
  | 0, _ => rfl
  | n + 1, h => by
    show fMoney (wV S V') n + V' (140 + n) 167 = fMoney (wV S V) n + V (140 + n) 167
    rw [fMoney_n n (fun a ha => h a (by omega)), h n (by omega)]
theorem fMoney_V {S' : zSt} : ∀ n, fMoney S' n = fMoney (wV S (sV S')) n
  | 0 => rfl
  | n + 1 => by
    show fMoney S' n + sV S' (140 + n) 167 = fMoney (wV S (sV S')) n + sV S' (140 + n) 167
    rw [fMoney_V n]
/-- after the class's part and the reference's part -/
theorem rel_next (hR : rRel S) (hp : ¬ sV S 7 228 = 0)
    (hc : ∀ q, q ≠ 6 → sc S2 q = if (10 ≤ q ∧ q < 10 + sc S 0) ∨ (1010 ≤ q ∧ q < 1010 + sc S 0) ∨ q = 2 ∨ q = 1002 then 0 else sc S q)
    (hT : sT S2 = sT S) (hW : ∀ r, r ≠ 14 → sW S2 r = sW S r) (hP : sP S2 1010 = sP S 1010)
    (hV : ∀ r k, r < 1320 → k ≠ 257 → ¬ (k = 480 ∨ k = 481) → ¬ (228 ≤ k ∧ k ≤ 230) → k ≠ 672 → ¬ (k = 680 ∨ k = 682 ∨ k = 683 ∨ k = 687) → sV S2 r k = sV S r k)
    (e : sV S2 5 480 = 0 ∧ sV S2 5 481 = -1 ∧ sV S2 1001 682 = 0 ∧ sV S2 1001 683 = -1 ∧ sV S2 7 228 = 0 ∧ sV S2 7 230 = 0 ∧ sV S2 1001 680 = 0)
    (h7 : sV S2 7 229 = sV S 7 229 + 1) (h687 : sV S2 1001 687 = sV S 1001 687 + 1)
    (h6 : sc S2 6 ≤ 10) (h257 : sV S2 8 257 = nI (sc S2 6)) (hdi : ∀ a, 1 ≤ a → a ≤ sc S2 6 → sV S2 (1320 + (sc S2 6 - a)) 32 = sW S2 14 (a - 1)) : rRel S2 := by
  obtain ⟨e1, e2, e3, e4, e5, e6, e7⟩ := e
  have b0 := hR.b0
  have b1 := hR.b1
  have hn : ∀ q, q ≠ 6 → ¬ (10 ≤ q ∧ q < 10 + sc S 0) → ¬ (1010 ≤ q ∧ q < 1010 + sc S 0) → q ≠ 2 → q ≠ 1002 → sc S2 q = sc S q := fun q h1 h2 h3 h4 h5 => by rw [hc q h1, if_neg (by omega)]
  have z1 : ∀ i, i < 6 → sc S2 (10 + i) = 0 := fun i hi => by
    rw [hc _ (by omega)]
    split
    · rfl
    · exact hR.ct.2.2.1 i hi (by omega)
  have z2 : ∀ i, i < 6 → sc S2 (1010 + i) = 0 := fun i hi => by
    rw [hc _ (by omega)]
    split
    · rfl
    · rw [hR.ct.2.1 i hi]
      exact hR.ct.2.2.1 i hi (by omega)
  have z3 : sc S2 2 = 0 := by rw [hc _ (by omega), if_pos (by omega)]
  have z4 : sc S2 1002 = 0 := by rw [hc _ (by omega), if_pos (by omega)]
  have n0 := hn 0 (by omega) (by omega) (by omega) (by omega) (by omega)
  have n1 := hn 1 (by omega) (by omega) (by omega) (by omega) (by omega)
  have n3 := hn 3 (by omega) (by omega) (by omega) (by omega) (by omega)
  have n4 := hn 4 (by omega) (by omega) (by omega) (by omega) (by omega)
  have n5 := hn 5 (by omega) (by omega) (by omega) (by omega) (by omega)
  have n10 := hn 1000 (by omega) (by omega) (by omega) (by omega) (by omega)
  have n11 := hn 1001 (by omega) (by omega) (by omega) (by omega) (by omega)
  have n13 := hn 1003 (by omega) (by omega) (by omega) (by omega) (by omega)
  refine ⟨⟨⟨⟨by rw [n10, n0]; exact hR.c0, by rw [n11, n1]; exact hR.c1, by rw [z3, z4]⟩, fun i hi => by rw [z1 i hi, z2 i hi], fun i hi _ => z1 i hi, ⟨n3.trans hR.h3, n4.trans hR.h4, n5.trans hR.h5⟩, by rw [n0]; exact b0, by rw [n1]; exact b1, by rw [z3]; omega, fun i hi => by rw [z1 i hi]; omega⟩, fun i hi => ?_, fun a ha => ?_, fun a ha => ?_, ?_⟩, ⟨fun i k hi hk => ?_, fun i j k m hi hj hk hm => ?_, fun j hj => ?_, ?_⟩, ?_, ?_, fun _ => ⟨fun i k hi hk => ?_, fun j hj => ?_⟩, ⟨?_, fun i hi k hk => ?_⟩, by rw [hP]; exact hR.p10⟩
  · rw [n0] at hi
    rw [hV _ 352 (by omega) (by omega) (by omega) (by omega) (by omega) (by omega), hV _ 353 (by omega) (by omega) (by omega) (by omega) (by omega) (by omega), hV _ 354 (by omega) (by omega) (by omega) (by omega) (by omega) (by omega), hV _ 576 (by omega) (by omega) (by omega) (by omega) (by omega) (by omega), hV _ 577 (by omega) (by omega) (by omega) (by omega) (by omega) (by omega), hV _ 578 (by omega) (by omega) (by omega) (by omega) (by omega) (by omega), hW _ (by omega), hW _ (by omega)]
    exact hR.pi i hi
  · rw [n1] at ha
    have f : ∀ r k, r < 1320 → 160 ≤ k ∧ k ≤ 167 ∨ 544 ≤ k ∧ k ≤ 550 → sV S2 r k = sV S r k := fun r k h1 h2 => hV r k h1 (by omega) (by omega) (by omega) (by omega) (by omega)
    rw [f _ 160 (by omega) (by omega), f _ 161 (by omega) (by omega), f _ 162 (by omega) (by omega), f _ 163 (by omega) (by omega), f _ 164 (by omega) (by omega), f _ 165 (by omega) (by omega), f _ 166 (by omega) (by omega), f _ 167 (by omega) (by omega), f _ 544 (by omega) (by omega), f _ 545 (by omega) (by omega), f _ 546 (by omega) (by omega), f _ 547 (by omega) (by omega), f _ 548 (by omega) (by omega), f _ 549 (by omega) (by omega), f _ 550 (by omega) (by omega)]
    exact hR.ac a ha
  · rw [n1] at ha
    obtain ⟨g1, g2⟩ := hR.gr a ha
    have f : ∀ r k, r < 1320 → k = 168 ∨ k = 551 → sV S2 r k = sV S r k := fun r k h1 h2 => hV r k h1 (by omega) (by omega) (by omega) (by omega) (by omega)
    rw [n1, f _ 551 (by omega) (by omega)]
    refine ⟨g1, fun b hb => ?_⟩
    rw [f _ 168 (by omega) (by omega), f _ 551 (by omega) (by omega)]
    exact g2 b hb
  · rw [n1]
    obtain ⟨g1, g2, g3⟩ := hR.cu
    refine ⟨fun a b ha hb => ?_, fun b a hb h8 h32 => ?_, ?_⟩
    · rw [hW _ (by omega), hW _ (by omega)]
      exact g1 a b ha hb
    · rw [hW _ (by omega)]
      exact g2 b a hb h8 h32
    · obtain ⟨rk, h⟩ := g3
      refine ⟨rk, fun a ha => ⟨(h a ha).1, fun b hb hw => ?_⟩⟩
      rw [hW _ (by omega)] at hw
      exact (h a ha).2 b hb hw
  · rw [n0] at hi
    rw [z1 i (by omega)] at hk
    exact absurd hk (by omega)
  · rw [n0] at hi
    rw [z1 i (by omega)] at hk
    exact absurd hk (by omega)
  · rw [z3] at hj
    exact absurd hj (by omega)
  · obtain ⟨⟨g1, g2, g3⟩, g4, g5, ⟨z, y1, y2, y3, y4⟩, g6, g7⟩ := hR.lo
    have f : ∀ r k, r < 1320 → k = 32 ∨ (323 ≤ k ∧ k ≤ 325) ∨ k = 679 ∨ k = 681 → sV S2 r k = sV S r k := fun r k h1 h2 => hV r k h1 (by omega) (by omega) (by omega) (by omega) (by omega)
    unfold rLo
    rw [n13, n1, f 4 323 (by omega) (by omega), f 4 324 (by omega) (by omega), f 4 325 (by omega) (by omega), f 1001 679 (by omega) (by omega), f 1001 681 (by omega) (by omega)]
    refine ⟨⟨g1, g2, g3⟩, fun j hj => ?_, g5, ⟨z, y1, y2, y3, y4⟩, g6, fAllow_to g7 (fun r j hr => by rw [hW _ (by omega)])⟩
    rw [hW _ (by omega), f _ 32 (by omega) (by omega)]
    exact g4 j hj
  · have f : ∀ r k, r < 1320 → k = 482 ∨ k = 288 ∨ k = 289 ∨ (684 ≤ k ∧ k ≤ 686) → sV S2 r k = sV S r k := fun r k h1 h2 => hV r k h1 (by omega) (by omega) (by omega) (by omega) (by omega)
    unfold rWe
    rw [e1, e2, e3, e4, f 5 482 (by omega) (by omega), f 6 288 (by omega) (by omega), f 6 289 (by omega) (by omega), f 1001 684 (by omega) (by omega), f 1001 685 (by omega) (by omega), f 1001 686 (by omega) (by omega)]
    exact ⟨⟨rfl, rfl, Or.inl ⟨rfl, rfl⟩⟩, hR.we.2⟩
  · obtain ⟨⟨g1, g2, g3⟩, -⟩ := hR.da
    unfold rDa
    rw [e5, e6, e7, h7, h687, hV 7 232 (by omega) (by omega) (by omega) (by omega) (by omega) (by omega), hV 1001 689 (by omega) (by omega) (by omega) (by omega) (by omega) (by omega), g2, g3]
    exact ⟨⟨rfl, rfl, rfl⟩, ⟨fun h => absurd rfl h, fun _ => rfl⟩, h6, h257, hdi⟩
  · rw [n0] at hi
    rw [z1 i (by omega)] at hk
    exact absurd hk (by omega)
  · rw [z3] at hj
    exact absurd hj (by omega)
  · rw [n1, fMoney_V (S := S), fMoney_n (V := sV S) _ (fun a ha => hV _ 167 (by omega) (by omega) (by omega) (by omega) (by omega) (by omega)), hV 7 231 (by omega) (by omega) (by omega) (by omega) (by omega) (by omega), hV 7 232 (by omega) (by omega) (by omega) (by omega) (by omega) (by omega)]
    exact hR.so.1
  · rw [n0] at hi
    rw [z1 i (by omega)] at hk
    exact absurd hk (by omega)
end ZOP11A
section ZOP11
variable {Z : zPar} {l : Launch} {x m o od : Nat} {S : zSt}
theorem nxt_cnt {w : Int32} (hR : rRel S) (q : Nat) (hq : q ≠ 6) : sc (dNx2 (wP (fNextDay S) 1000 (oN w.toInt64))) q = if (10 ≤ q ∧ q < 10 + sc S 0) ∨ (1010 ≤ q ∧ q < 1010 + sc S 0) ∨ q = 2 ∨ q = 1002 then 0 else sc S q := by
  have e : sc (fNextDay S) = cset (fClr (sc S 0) (sc S)) 2 0 := rfl
  have e0 : sc (fNextDay S) 1000 = sc S 0 := by
    rw [e, cset_ne (by decide), fClr_if, if_neg (by have := hR.b0; omega), hR.c0]
  show cset (cset (fClrM (sc (fNextDay S) 1000) (sc (fNextDay S))) 1002 0) 6 _ q = _
  rw [cset_ne hq, e0]
  by_cases g : q = 1002
  · subst g
    rw [cset_at, if_pos (by omega)]
  · rw [cset_ne g, fClrM_if, e]
    by_cases g2 : 1010 ≤ q ∧ q < 1010 + sc S 0
    · rw [if_pos g2, if_pos (by omega)]
    · rw [if_neg g2]
      by_cases g3 : q = 2
      · subst g3
        rw [cset_at, if_pos (by omega)]
      · rw [cset_ne g3, fClr_if]
        by_cases g4 : 10 ≤ q ∧ q < 10 + sc S 0
        · rw [if_pos g4, if_pos (by omega)]
        · rw [if_neg g4, if_neg (by omega)]
theorem nxt_W (r : Nat) (h : r ≠ 14) : sW (fNextDay S) r = sW S r := by
  show u2 (u1 (sW S) 14 (va_cpy (sW S 14) (sW S 14) 0 1 9)) 14 0 (sV S 7 230) r = _
  funext k
  unfold u2
  rw [if_neg (by omega), u1_ne h]
theorem nxt_W14 {j : Nat} (h : j < 10) : sW (fNextDay S) 14 j = if j = 0 then sV S 7 230 else sW S 14 (j - 1) := by
  show u2 (u1 (sW S) 14 (va_cpy (sW S 14) (sW S 14) 0 1 9)) 14 0 (sV S 7 230) 14 j = _
  rw [u2_if]
  by_cases g : j = 0
  · rw [if_pos ⟨g, rfl⟩, if_pos g]
  · rw [if_neg (by omega), if_neg g, u1_at]
    unfold va_cpy
    rw [if_pos (by omega)]
    congr 1
    omega
theorem nxt_V (r k : Nat) : sV (fNextDay S) r k = u2 (u2 (u2 (u2 (u2 (u2 (sV S) 8 257 (if 10 < sV S 8 257 + 1 then 10 else sV S 8 257 + 1)) 5 480 0) 5 481 (-1)) 7 228 0) 7 230 0) 7 229 (sV S 7 229 + 1) r k := rfl
theorem op_nextDay (hS : rRel S) : zOp Z l x m o od mth_L_nextDay mth_X16_nextDay [.ref x, .ref o] [.ref m] cvI S := by
  have c0 := hS.c0
  have c1 := hS.c1
  have c2 := hS.c2
  have h3 := hS.h3
  have h4 := hS.h4
  have h5 := hS.h5
  have b0 := hS.b0
  have b1 := hS.b1
  have b2 := hS.b2
  obtain ⟨⟨d1, d2, d3⟩, ⟨d4, -⟩, d6, d7, d8⟩ := hS.da
  by_cases hp : sV S 7 228 = 0
  · skip
    exact op_ex hS (wr_tw wr_L_nextDay h3 (by omega) (by omega) (by omega) (fun Λ M hR => f_nextDay_0 hR h3 hp) rfl)
      (md_g (by omega) (by omega) (by omega) (fun Λ M hR => k_nextDay_1 hR h4 (by rw [d1]; exact hp))) (by decide)
  have lo : ∀ q, q < 10 ∨ 1016 ≤ q → q ≠ 2 → sc (fNextDay S) q = sc S q := fun q h1 h2 => by
    show cset (fClr (sc S 0) (sc S)) 2 0 q = _
    rw [cset_ne h2, fClr_if, if_neg (by omega)]
  have e5 : sc (fNextDay S) 5 = 1 := (lo 5 (by omega) (by omega)).trans h5
  have e6 : sc (fNextDay S) 6 = sc S 6 := lo 6 (by omega) (by omega)
  have e4 : sc (fNextDay S) 4 = 1 := (lo 4 (by omega) (by omega)).trans h4
  have v680 : ¬ sV (fNextDay S) 1001 680 = 0 := by
    rw [nxt_V]
    simp only [u2_if]
    repeat rw [if_neg (by omega)]
    rw [d1]
    exact hp
  have v229 : sV (fNextDay S) 7 229 = sV S 7 229 + 1 := by
    rw [nxt_V]
    exact u2_at
  have v688 : sV (fNextDay S) 1001 688 = sV S 7 230 := by
    rw [nxt_V]
    simp only [u2_if]
    repeat rw [if_neg (by omega)]
    exact d4 hp
  have v687 : sV (fNextDay S) 1001 687 = sV S 7 229 := by
    rw [nxt_V]
    simp only [u2_if]
    repeat rw [if_neg (by omega)]
    exact d2
  have v257 : sV (fNextDay S) 8 257 = nI (if sc S 6 < 10 then sc S 6 + 1 else 10) := by
    rw [nxt_V]
    simp only [u2_if]
    repeat rw [if_neg (by omega)]
    rw [d7]
    by_cases g : sc S 6 < 10
    · rw [if_pos g, nI_1, if_neg (show ¬ (10 : Int32) < nI (sc S 6 + 1) from nI_nlt (a := 10) (b := sc S 6 + 1) (by omega) (by decide))]
      rfl
    · rw [if_neg g, show sc S 6 = 10 by omega]
      rfl
  generalize hw : sV (fNextDay S) 7 229 = w at v229
  have hV2 : ∀ r k, sV (dNx2 (wP (fNextDay S) 1000 (oN w.toInt64))) r k = u2 (u2 (u2 (u2 (u2 (sV (fNextDay S)) 1001 672 0) 1001 682 0) 1001 683 (-1)) 1001 680 0) (1320 + sc S 6) 32 (sV S 7 230) r k := fun r k => by
    show u2 (u2 (u2 (u2 (u2 (sV (fNextDay S)) 1001 672 0) 1001 682 0) 1001 683 (-1)) 1001 680 0) (1320 + sc (fNextDay S) 6) 32 (sV (fNextDay S) 1001 688) r k = _
    rw [e6, v688]
  have v2_687 : sV (dNx2 (wP (fNextDay S) 1000 (oN w.toInt64))) 1001 687 = sV S 7 229 := by
    rw [hV2]
    simp only [u2_if]
    repeat rw [if_neg (by omega)]
    exact v687
  have val : lN (u1 (sP S) 1000 (oN (cvI w)) 1000) = cvI (sV (dNx2 (wP (fNextDay S) 1000 (oN w.toInt64))) 1001 687 + 1) := by
    rw [u1_at, lN_oN, v2_687, v229]
  have hd2 : ∀ a, 1 ≤ a → a ≤ sc S 6 + 1 → a ≤ 10 → sV (dNx2 (wP (fNextDay S) 1000 (oN w.toInt64))) (1320 + (sc S 6 + 1 - a)) 32 = sW (fNextDay S) 14 (a - 1) := fun a h1 h2 h10 => by
    rw [hV2, nxt_W14 (by omega)]
    by_cases g : a = 1
    · subst g
      rw [if_pos rfl, u2_if, if_pos ⟨rfl, by omega⟩]
    · rw [if_neg (by omega), u2_if, if_neg (by omega), u2_k (by omega), u2_k (by omega), u2_k (by omega), u2_k (by omega), nxt_V, u2_k (by omega), u2_k (by omega), u2_k (by omega), u2_k (by omega), u2_k (by omega), u2_k (by omega)]
      have := d8 (a - 1) (by omega) (by omega)
      rw [show sc S 6 + 1 - a = sc S 6 - (a - 1) by omega]
      exact this
  have vk : ∀ r k, r < 1320 → k ≠ 257 → ¬ (k = 480 ∨ k = 481) → ¬ (228 ≤ k ∧ k ≤ 230) → k ≠ 672 → ¬ (k = 680 ∨ k = 682 ∨ k = 683 ∨ k = 687) → sV (dNx2 (wP (fNextDay S) 1000 (oN w.toInt64))) r k = sV S r k := fun r k h1 h2 h3 h4 h5 h6 => by
    rw [hV2, u2_if, if_neg (by omega), u2_k (by omega), u2_k (by omega), u2_k (by omega), u2_k (by omega), nxt_V, u2_k (by omega), u2_k (by omega), u2_k (by omega), u2_k (by omega), u2_k (by omega), u2_k (by omega)]
  have ve : ∀ r k, r < 1320 → k < 544 → sV (dNx2 (wP (fNextDay S) 1000 (oN w.toInt64))) r k = sV (fNextDay S) r k := fun r k h1 h2 => by
    rw [hV2, u2_if, if_neg (by omega), u2_k (by omega), u2_k (by omega), u2_k (by omega), u2_k (by omega)]
  have w480 : sV (fNextDay S) 5 480 = 0 := by
    rw [nxt_V]
    simp only [u2_if]
    repeat rw [if_neg (by omega)]
    rfl
  have w481 : sV (fNextDay S) 5 481 = -1 := by
    rw [nxt_V]
    simp only [u2_if]
    repeat rw [if_neg (by omega)]
    rfl
  have w228 : sV (fNextDay S) 7 228 = 0 := by
    rw [nxt_V, u2_k (by omega), u2_k (by omega)]
    exact u2_at
  have w230 : sV (fNextDay S) 7 230 = 0 := by
    rw [nxt_V, u2_k (by omega)]
    exact u2_at
  have w682 : sV (dNx2 (wP (fNextDay S) 1000 (oN w.toInt64))) 1001 682 = 0 := by
    rw [hV2, u2_if, if_neg (by omega), u2_k (by omega), u2_k (by omega)]
    exact u2_at
  have w683 : sV (dNx2 (wP (fNextDay S) 1000 (oN w.toInt64))) 1001 683 = -1 := by
    rw [hV2, u2_if, if_neg (by omega), u2_k (by omega)]
    exact u2_at
  have w680 : sV (dNx2 (wP (fNextDay S) 1000 (oN w.toInt64))) 1001 680 = 0 := by
    rw [hV2, u2_if, if_neg (by omega)]
    exact u2_at
  have w672 : sV (dNx2 (wP (fNextDay S) 1000 (oN w.toInt64))) 1001 672 = 0 := by
    rw [hV2, u2_if, if_neg (by omega), u2_k (by omega), u2_k (by omega), u2_k (by omega)]
    exact u2_at
  have wc6 : sc (dNx2 (wP (fNextDay S) 1000 (oN w.toInt64))) 6 = sc S 6 + 1 := by
    show cset (sc (dNx1 (wP (fNextDay S) 1000 (oN w.toInt64)))) 6 (sc (fNextDay S) 6 + 1) 6 = _
    rw [cset_at, e6]
  have wW : ∀ r, r ≠ 14 → sW (fNextDay S) r = sW S r := fun r h => nxt_W r h
  have wP10 : u1 (sP S) 1000 (oN w.toInt64) 1010 = sP S 1010 := u1_ne (by decide)
  have hcl : ∀ Λ M, zRp Z Λ S M → zG Z l 5 mth_X11_nextDay [.ref (Λ 1)] M 0 0 (some (.int w)) (zRp Z Λ (fNextDay S)) := fun Λ M hR => by
    rw [← hw]
    exact f_nextDay hR h3 hp
  by_cases g : sc S 6 < 10
  · refine ⟨0, _, _, _, wr_okG wr_L_nextDay h3 e5 (by omega) (by omega) (by omega) hcl, md_c (d := 6) (mc := 3) (ms := 20) (by omega) (by omega) (by omega) (fun Λ M Q hR hQ => k_nextDay (S := wP (fNextDay S) 1000 (oN w.toInt64)) hR e4 v680 (by rw [e6]; exact g) hQ), ?_, fun _ => val, ?_⟩
    · show u2 (sV (dNx2 (wP (fNextDay S) 1000 (oN w.toInt64)))) 1001 687 (sV (dNx2 (wP (fNextDay S) 1000 (oN w.toInt64))) 1001 687 + 1) 1001 672 = 0
      rw [u2_k (by omega)]
      exact w672
    · have f : ∀ r k, k ≠ 687 → sV (dNxA (wP (fNextDay S) 1000 (oN w.toInt64))) r k = sV (dNx2 (wP (fNextDay S) 1000 (oN w.toInt64))) r k := fun r k hk => u2_k hk r
      refine rel_next hS hp (fun q hq => nxt_cnt hS q hq) rfl wW wP10 (fun r k h1 h2 h3 h4 h5 h6 => ?_) ⟨?_, ?_, ?_, ?_, ?_, ?_, ?_⟩ ?_ ?_ ?_ ?_ (fun a h1 h2 => ?_)
      · rw [f r k (by omega)]
        exact vk r k h1 h2 h3 h4 h5 h6
      · rw [f _ _ (by omega), ve _ _ (by omega) (by omega), w480]
      · rw [f _ _ (by omega), ve _ _ (by omega) (by omega), w481]
      · rw [f _ _ (by omega), w682]
      · rw [f _ _ (by omega), w683]
      · rw [f _ _ (by omega), ve _ _ (by omega) (by omega), w228]
      · rw [f _ _ (by omega), ve _ _ (by omega) (by omega), w230]
      · rw [f _ _ (by omega), w680]
      · rw [f _ _ (by omega), ve _ _ (by omega) (by omega), hw, v229]
      · show u2 (sV (dNx2 (wP (fNextDay S) 1000 (oN w.toInt64)))) 1001 687 (sV (dNx2 (wP (fNextDay S) 1000 (oN w.toInt64))) 1001 687 + 1) 1001 687 = _
        rw [u2_at, v2_687, d2]
      · show sc (dNx2 (wP (fNextDay S) 1000 (oN w.toInt64))) 6 ≤ 10
        rw [wc6]
        omega
      · show _ = nI (sc (dNx2 (wP (fNextDay S) 1000 (oN w.toInt64))) 6)
        rw [f _ _ (by omega), ve _ _ (by omega) (by omega), v257, if_pos g, wc6]
      · have h2 : a ≤ sc (dNx2 (wP (fNextDay S) 1000 (oN w.toInt64))) 6 := h2
        rw [wc6] at h2
        show u2 (sV (dNx2 (wP (fNextDay S) 1000 (oN w.toInt64)))) 1001 687 (sV (dNx2 (wP (fNextDay S) 1000 (oN w.toInt64))) 1001 687 + 1) (1320 + (sc (dNx2 (wP (fNextDay S) 1000 (oN w.toInt64))) 6 - a)) 32 = sW (fNextDay S) 14 (a - 1)
        rw [u2_k (by omega), wc6]
        exact hd2 a h1 h2 (by omega)
  · have g10 : sc S 6 = 10 := by omega
    refine ⟨0, _, _, _, wr_okG wr_L_nextDay h3 e5 (by omega) (by omega) (by omega) hcl, md_c (d := 6) (mc := 3) (ms := 20) (by omega) (by omega) (by omega) (fun Λ M Q hR hQ => k_nextDay_f (S := wP (fNextDay S) 1000 (oN w.toInt64)) hR e4 v680 (by rw [e6]; exact g10) hQ), ?_, fun _ => val, ?_⟩
    · show u2 (dSh (sV (dNx2 (wP (fNextDay S) 1000 (oN w.toInt64))))) 1001 687 (sV (dNx2 (wP (fNextDay S) 1000 (oN w.toInt64))) 1001 687 + 1) 1001 672 = 0
      rw [u2_k (by omega)]
      exact w672
    · have f : ∀ r k, r < 1320 → k ≠ 687 → sV (dNxB (wP (fNextDay S) 1000 (oN w.toInt64))) r k = sV (dNx2 (wP (fNextDay S) 1000 (oN w.toInt64))) r k := fun r k hr hk => by
        show u2 (dSh (sV (dNx2 (wP (fNextDay S) 1000 (oN w.toInt64))))) 1001 687 (sV (dNx2 (wP (fNextDay S) 1000 (oN w.toInt64))) 1001 687 + 1) r k = _
        rw [u2_k hk]
        unfold dSh
        rw [if_neg (by omega)]
      have cB : ∀ q, q ≠ 6 → sc (dNxB (wP (fNextDay S) 1000 (oN w.toInt64))) q = sc (dNx2 (wP (fNextDay S) 1000 (oN w.toInt64))) q := fun q hq => cset_ne hq
      have c6 : sc (dNxB (wP (fNextDay S) 1000 (oN w.toInt64))) 6 = 10 := (cset_at : cset (sc (dNx2 (wP (fNextDay S) 1000 (oN w.toInt64)))) 6 10 6 = 10)
      refine rel_next hS hp (fun q hq => (cB q hq).trans (nxt_cnt hS q hq)) rfl wW wP10 (fun r k h1 h2 h3 h4 h5 h6 => ?_) ⟨?_, ?_, ?_, ?_, ?_, ?_, ?_⟩ ?_ ?_ ?_ ?_ (fun a h1 h2 => ?_)
      · rw [f r k h1 (by omega)]
        exact vk r k h1 h2 h3 h4 h5 h6
      · rw [f _ _ (by omega) (by omega), ve _ _ (by omega) (by omega), w480]
      · rw [f _ _ (by omega) (by omega), ve _ _ (by omega) (by omega), w481]
      · rw [f _ _ (by omega) (by omega), w682]
      · rw [f _ _ (by omega) (by omega), w683]
      · rw [f _ _ (by omega) (by omega), ve _ _ (by omega) (by omega), w228]
      · rw [f _ _ (by omega) (by omega), ve _ _ (by omega) (by omega), w230]
      · rw [f _ _ (by omega) (by omega), w680]
      · rw [f _ _ (by omega) (by omega), ve _ _ (by omega) (by omega), hw, v229]
      · show u2 (dSh (sV (dNx2 (wP (fNextDay S) 1000 (oN w.toInt64))))) 1001 687 (sV (dNx2 (wP (fNextDay S) 1000 (oN w.toInt64))) 1001 687 + 1) 1001 687 = _
        rw [u2_at, v2_687, d2]
      · rw [c6]
        exact Nat.le_refl _
      · rw [f _ _ (by omega) (by omega), ve _ _ (by omega) (by omega), v257, if_neg g, c6]
      · rw [c6] at h2 ⊢
        have h9 := hd2 a h1 (by omega) h2
        rw [g10] at h9
        show u2 (dSh (sV (dNx2 (wP (fNextDay S) 1000 (oN w.toInt64))))) 1001 687 (sV (dNx2 (wP (fNextDay S) 1000 (oN w.toInt64))) 1001 687 + 1) (1320 + (10 - a)) 32 = sW (fNextDay S) 14 (a - 1)
        rw [u2_k (by omega)]
        unfold dSh
        rw [if_pos (by omega), show 1320 + (10 - a) + 1 = 1320 + (10 + 1 - a) by omega]
        exact h9
end ZOP11
