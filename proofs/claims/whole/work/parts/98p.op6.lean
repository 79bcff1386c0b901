/-! OPERATIONS 6: partners; a new act, a new pitch, a new visit, a new turn -/

section ZJN
variable {S S' : zSt} {V : Nat → Nat → Int32}
theorem fMP_k {all : Int32} {r key : Nat} (hk : key ≠ 168) : ∀ j, fMP all j V r key = V r key
  | 0 => rfl
  | j + 1 => by
    show (if all &&& zbit (nI j) = 0 then fMP all j V else u2 (fMP all j V) (140 + j) 168 all) r key = _
    split
    · exact fMP_k hk j
    · rw [u2_k hk]
      exact fMP_k hk j
theorem fMP_v {all : Int32} {b : Nat} : ∀ j, j ≤ 32 → fMP all j V (140 + b) 168 = if b < j ∧ bt all b = true then all else V (140 + b) 168
  | 0, _ => by rw [if_neg (by omega)]; rfl
  | j + 1, hj => by
    show (if all &&& zbit (nI j) = 0 then fMP all j V else u2 (fMP all j V) (140 + j) 168 all) (140 + b) 168 = _
    have ih := fMP_v (all := all) (b := b) j (by omega)
    by_cases g : all &&& zbit (nI j) = 0
    · rw [if_pos g, ih]
      have hb := (b_tst (by omega)).mp g
      by_cases e : b < j ∧ bt all b = true
      · rw [if_pos e, if_pos ⟨by omega, e.2⟩]
      · rw [if_neg e, if_neg (fun q => by
          by_cases e3 : b = j
          · rw [e3, hb] at q
            exact absurd q.2 (by decide)
          · exact e ⟨by omega, q.2⟩)]
    · rw [if_neg g, u2_if]
      have hb := (b_tst' (by omega)).mp g
      by_cases e : b = j
      · subst e
        rw [if_pos ⟨rfl, rfl⟩, if_pos ⟨by omega, hb⟩]
      · rw [if_neg (by omega), ih]
        by_cases e2 : b < j ∧ bt all b = true
        · rw [if_pos e2, if_pos ⟨by omega, e2.2⟩]
        · rw [if_neg e2, if_neg (fun q => e2 ⟨by omega, q.2⟩)]
theorem fJn_k {a : Nat} {gone : Int32} {r key : Nat} (hk : key ≠ 551) : ∀ n, fJn a gone n V r key = V r key
  | 0 => rfl
  | n + 1 => by
    show u2 (fJn a gone n V) (1140 + n) 551 _ r key = _
    rw [u2_k hk]
    exact fJn_k hk n
theorem fJn_v {a : Nat} {gone : Int32} : ∀ n b, fJn a gone n V (1140 + b) 551 = if b < n ∧ V (1140 + b) 551 = gone then V (1140 + a) 551 else V (1140 + b) 551
  | 0, b => by rw [if_neg (by omega)]; rfl
  | n + 1, b => by
    show u2 (fJn a gone n V) (1140 + n) 551 (if fJn a gone n V (1140 + n) 551 = gone then fJn a gone n V (1140 + a) 551 else fJn a gone n V (1140 + n) 551) (1140 + b) 551 = _
    have ha : fJn a gone n V (1140 + a) 551 = V (1140 + a) 551 := by
      rw [fJn_v n a]
      split <;> rfl
    have hn : fJn a gone n V (1140 + n) 551 = V (1140 + n) 551 := by rw [fJn_v n n, if_neg (by omega)]
    rw [u2_if, ha, hn]
    by_cases e : b = n
    · subst e
      rw [if_pos ⟨rfl, rfl⟩]
      by_cases g : V (1140 + b) 551 = gone
      · rw [if_pos g, if_pos ⟨by omega, g⟩]
      · rw [if_neg g, if_neg (fun q => g q.2)]
    · rw [if_neg (by omega), fJn_v n b]
      by_cases g : b < n ∧ V (1140 + b) 551 = gone
      · rw [if_pos g, if_pos ⟨by omega, g.2⟩]
      · rw [if_neg g, if_neg (fun q => g ⟨by omega, q.2⟩)]
/-- bits of all partners of two acts -/
theorem all_bt (h : rRel S) {i j b : Nat} (hi : i < sc S 1) (hj : j < sc S 1) (hb : b < 32) : bt (sV S (140 + i) 168 ||| sV S (140 + j) 168) b = (decide (b < sc S 1) && (decide (sV S (1140 + b) 551 = sV S (1140 + i) 551) || decide (sV S (1140 + b) 551 = sV S (1140 + j) 551))) := by
  rw [b_or, (h.gr i hi).2 b hb, (h.gr j hj).2 b hb, ← Bool.and_or_distrib_left]
theorem rel_join (h : rRel S) {i j : Nat} (hi : i < sc S 1) (hj : j < sc S 1) (hc : sc S' = sc S) (h1 : ∀ b, b < sc S 1 → sV S' (140 + b) 168 = if bt (sV S (140 + i) 168 ||| sV S (140 + j) 168) b = true then sV S (140 + i) 168 ||| sV S (140 + j) 168 else sV S (140 + b) 168) (h2 : ∀ b, b < sc S 1 → sV S' (1140 + b) 551 = if sV S (1140 + b) 551 = sV S (1140 + j) 551 then sV S (1140 + i) 551 else sV S (1140 + b) 551) : rGr S' := by
  have b1 := h.b1
  intro c hc'
  rw [hc] at hc' ⊢
  obtain ⟨⟨gc, gc1, gc2⟩, gb⟩ := h.gr c hc'
  obtain ⟨⟨gi, gi1, gi2⟩, -⟩ := h.gr i hi
  refine ⟨?_, fun b hb => ?_⟩
  · rw [h2 c hc']
    split
    · exact ⟨gi, gi1, gi2⟩
    · exact ⟨gc, gc1, gc2⟩
  · rw [h1 c hc', all_bt h hi hj (by omega), decide_eq_true hc', Bool.true_and]
    by_cases hbn : b < sc S 1
    · rw [decide_eq_true hbn, Bool.true_and, h2 c hc', h2 b hbn]
      by_cases e1 : sV S (1140 + c) 551 = sV S (1140 + j) 551
      · rw [decide_eq_true e1, Bool.or_true, if_pos rfl, if_pos e1, all_bt h hi hj hb, decide_eq_true hbn, Bool.true_and]
        by_cases e2 : sV S (1140 + b) 551 = sV S (1140 + j) 551
        · rw [if_pos e2, decide_eq_true e2, Bool.or_true, decide_eq_true rfl]
        · rw [if_neg e2, decide_eq_false e2, Bool.or_false]
      · rw [if_neg e1, decide_eq_false e1, Bool.or_false]
        by_cases e3 : sV S (1140 + c) 551 = sV S (1140 + i) 551
        · rw [decide_eq_true e3, if_pos rfl, all_bt h hi hj hb, decide_eq_true hbn, Bool.true_and]
          by_cases e2 : sV S (1140 + b) 551 = sV S (1140 + j) 551
          · rw [if_pos e2, decide_eq_true e2, Bool.or_true, decide_eq_true e3.symm]
          · rw [if_neg e2, decide_eq_false e2, Bool.or_false, e3]
        · rw [decide_eq_false e3, if_neg (by decide), gb b hb, decide_eq_true hbn, Bool.true_and]
          by_cases e2 : sV S (1140 + b) 551 = sV S (1140 + j) 551
          · rw [if_pos e2, e2, decide_eq_false (fun q => e1 q.symm), decide_eq_false (fun q => e3 q.symm)]
          · rw [if_neg e2]
    · rw [decide_eq_false hbn, Bool.false_and]
      split
      · rw [all_bt h hi hj hb, decide_eq_false hbn, Bool.false_and]
      · rw [gb b hb, decide_eq_false hbn, Bool.false_and]
end ZJN

section ZOP6
variable {Z : zPar} {l : Launch} {x m o od : Nat} {S : zSt}

theorem op_join (hS : rRel S) (p q : Int32) : zOp Z l x m o od mth_L_join mth_X16_join [.ref x, .int p, .int q, .ref o] [.ref m, .int p, .int q] cvI S := by
  have c0 := hS.c0
  have c1 := hS.c1
  have c2 := hS.c2
  have h3 := hS.h3
  have h4 := hS.h4
  have h5 := hS.h5
  have b0 := hS.b0
  have b1 := hS.b1
  have b2 := hS.b2
  by_cases hx : ¬ p < 0 ∧ ¬ nI (sc S 1) ≤ p
  rotate_left
  · skip
    exact op_ex hS (wr_tw wr_L_join h3 (by omega) (by omega) (by omega) (fun Λ M hR => f_join_0 hR h3 hx) rfl)
      (md_g (by omega) (by omega) (by omega) (fun Λ M hR => k_join_1 hR h4 (by rw [c1]; exact hx))) (by decide)
  obtain ⟨i, hi, rfl⟩ := ix_of (by omega) hx
  by_cases hy : ¬ q < 0 ∧ ¬ nI (sc S 1) ≤ q
  rotate_left
  · skip
    exact op_ex hS (wr_tw wr_L_join h3 (by omega) (by omega) (by omega) (fun Λ M hR => f_join_1 hR h3 hi hy) rfl)
      (md_g (by omega) (by omega) (by omega) (fun Λ M hR => k_join_2 hR h4 (show i < sc S 1001 by rw [c1]; exact hi) (by rw [c1]; exact hy))) (by decide)
  obtain ⟨j, hj, rfl⟩ := ix_of (by omega) hy
  have hi' : i < sc S 1001 := by rw [c1]; exact hi
  have hj' : j < sc S 1001 := by rw [c1]; exact hj
  by_cases hne : i = j
  · subst hne
    exact op_ex hS (wr_tw wr_L_join h3 (by omega) (by omega) (by omega) (fun Λ M hR => f_join_2 hR h3 hi) rfl)
      (md_g (by omega) (by omega) (by omega) (fun Λ M hR => k_join_3 hR h4 hi')) (by decide)
  have v551 : ∀ b, fJn i (sV S (1140 + j) 551) (sc S 1) (u2 (fMP (sV S (140 + i) 168 ||| sV S (140 + j) 168) (sc S 1) (sV S)) 1001 672 0) (1140 + b) 551 = if b < sc S 1 ∧ sV S (1140 + b) 551 = sV S (1140 + j) 551 then sV S (1140 + i) 551 else sV S (1140 + b) 551 := fun b => by
    rw [fJn_v, u2_k (by omega), u2_k (by omega), fMP_k (by omega), fMP_k (by omega)]
  have e551 : fMP (sV S (140 + i) 168 ||| sV S (140 + j) 168) (sc S 1) (sV S) (1140 + j) 551 = sV S (1140 + j) 551 := fMP_k (by omega) _
  have hcount : fGrp (fJn i (sV S (1140 + j) 551) (sc S 1) (u2 (fMP (sV S (140 + i) 168 ||| sV S (140 + j) 168) (sc S 1) (sV S)) 1001 672 0)) (fJn i (sV S (1140 + j) 551) (sc S 1) (u2 (fMP (sV S (140 + i) 168 ||| sV S (140 + j) 168) (sc S 1) (sV S)) 1001 672 0) (1140 + i) 551) (sc S 1) = fBc (sV S (140 + i) 168 ||| sV S (140 + j) 168) := by
    have eb : ∀ b, 8 ≤ b → b < 32 → bt (sV S (140 + i) 168 ||| sV S (140 + j) 168) b = false := fun b hb h32 => by rw [all_bt hS hi hj h32, decide_eq_false (by omega)]; rfl
    have ei : fJn i (sV S (1140 + j) 551) (sc S 1) (u2 (fMP (sV S (140 + i) 168 ||| sV S (140 + j) 168) (sc S 1) (sV S)) 1001 672 0) (1140 + i) 551 = sV S (1140 + i) 551 := by
      rw [v551]
      split <;> rfl
    rw [fGrp_c, fBc_c eb, ei]
    congr 1
    have e8 : (8 : Nat) = sc S 1 + (8 - sc S 1) := by omega
    rw [e8, cnt_more (8 - sc S 1) (fun b q1 q2 => by rw [all_bt hS hi hj (by omega), decide_eq_false (by omega)]; rfl)]
    refine cnt_congr _ (fun b hb => ?_)
    rw [all_bt hS hi hj (by omega), decide_eq_true hb, Bool.true_and, v551]
    by_cases e2 : sV S (1140 + b) 551 = sV S (1140 + j) 551
    · rw [if_pos ⟨hb, e2⟩, decide_eq_true rfl, decide_eq_true e2, Bool.or_true]
    · rw [if_neg (fun q => e2 q.2), decide_eq_false e2, Bool.or_false]
  have km := fun Λ M (hR : zRp Z Λ (wP (wV S (fMP (sV S (140 + i) 168 ||| sV S (140 + j) 168) (sc S 1) (sV S))) 1000 (oN (cvI (fBc (sV S (140 + i) 168 ||| sV S (140 + j) 168))))) M) => (by
    have q := k_join (l := l) hR h4 hi' hj' hne
    unfold fJoin at q
    rw [show sc (wP (wV S (fMP (sV S (140 + i) 168 ||| sV S (140 + j) 168) (sc S 1) (sV S))) 1000 (oN (cvI (fBc (sV S (140 + i) 168 ||| sV S (140 + j) 168))))) 1001 = sc S 1 from c1, show sV (wP (wV S (fMP (sV S (140 + i) 168 ||| sV S (140 + j) 168) (sc S 1) (sV S))) 1000 (oN (cvI (fBc (sV S (140 + i) 168 ||| sV S (140 + j) 168))))) (1140 + j) 551 = sV S (1140 + j) 551 from e551] at q
    exact q : zG Z l 3 mth_X16_join [.ref (Λ 1001), .int (nI i), .int (nI j)] M 2 8 (some (.int (fGrp (fJn i (sV S (1140 + j) 551) (sc S 1) (u2 (fMP (sV S (140 + i) 168 ||| sV S (140 + j) 168) (sc S 1) (sV S)) 1001 672 0)) (fJn i (sV S (1140 + j) 551) (sc S 1) (u2 (fMP (sV S (140 + i) 168 ||| sV S (140 + j) 168) (sc S 1) (sV S)) 1001 672 0) (1140 + i) 551) (sc S 1)))) (zRp Z Λ (sc S, fJn i (sV S (1140 + j) 551) (sc S 1) (u2 (fMP (sV S (140 + i) 168 ||| sV S (140 + j) 168) (sc S 1) (sV S)) 1001 672 0), sW S, sT S, u1 (sP S) 1000 (oN (cvI (fBc (sV S (140 + i) 168 ||| sV S (140 + j) 168)))))))
  refine ⟨0, _, _, _, wr_okG wr_L_join h3 (by exact h5) (by omega) (by omega) (by omega) (fun Λ M hR => f_join hR h3 hi hj hne), md_g (by omega) (by omega) (by omega) km, ?_, fun _ => ?_, ?_⟩
  · show fJn i _ _ _ 1001 672 = 0
    rw [fJn_k (by omega), u2_at]
  · show lN (u1 (sP S) 1000 (oN (cvI (fBc (sV S (140 + i) 168 ||| sV S (140 + j) 168)))) 1000) = cvI _
    rw [u1_at, lN_oN, hcount]
  · refine hS.parts rfl rfl rfl (fun j hj => u1_ne (by omega)) (fun r k k1 k2 k3 => ?_) (rel_join hS hi hj rfl (fun b hb => ?_) (fun b hb => ?_))
    · show fJn i _ _ _ r k = _
      rw [fJn_k k3, u2_k k1, fMP_k k2]
    · show fJn i _ _ _ (140 + b) 168 = _
      rw [fJn_k (by omega), u2_k (by omega), fMP_v _ (by omega)]
      by_cases e : bt (sV S (140 + i) 168 ||| sV S (140 + j) 168) b = true
      · rw [if_pos ⟨hb, e⟩, if_pos e]
      · rw [if_neg (fun q => e q.2), if_neg e]
    · show fJn i _ _ _ (1140 + b) 551 = _
      rw [v551]
      by_cases e : sV S (1140 + b) 551 = sV S (1140 + j) 551
      · rw [if_pos ⟨hb, e⟩, if_pos e]
      · rw [if_neg (fun q => e q.2), if_neg e]

end ZOP6
