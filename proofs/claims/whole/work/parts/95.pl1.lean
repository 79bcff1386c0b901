/-! THE DAY 1: a pitch's turns by the class's playing and by the reference's at; the opening of a minute -/
def dC (k : Nat) : Prop := k = 167 ∨ (230 ≤ k ∧ k ≤ 232) ∨ k = 357 ∨ k = 358 ∨ (417 ≤ k ∧ k ≤ 424) ∨ k = 450 ∨ k = 451
def dM (k : Nat) : Prop := k = 550 ∨ (609 ≤ k ∧ k ≤ 615) ∨ k = 642 ∨ k = 643 ∨ k = 672 ∨ k = 680 ∨ k = 688 ∨ k = 689
def due (q : Nat) (e : Nat → Nat) : Nat := if q = 0 then 600 else e (q - 1) + 6
/-- q turns were begun, from b to e; the others were not -/
def pPre (V : Nat → Nat → Int32) (i n q : Nat) (b e : Nat → Nat) : Prop := q ≤ n ∧ (∀ k, k < q → ¬ V (160 + 8 * i + k) 423 = 0 ∧ V (160 + 8 * i + k) 417 = nI (b k) ∧ V (160 + 8 * i + k) 418 = nI (e k) ∧ 600 ≤ b k ∧ b k ≤ e k ∧ e k < 1200) ∧ (∀ k, k + 1 < q → e k < b (k + 1)) ∧ ∀ k, q ≤ k → k < n → V (160 + 8 * i + k) 423 = 0
/-- before the minute m opens -/
def pA (V : Nat → Nat → Int32) (pl : Option Nat) (nx i n m : Nat) : Prop := ∃ q b e, pPre V i n q b e ∧ (∀ k, k + 1 < q → e k < m) ∧ ((pl = none ∧ (0 < q → e (q - 1) < m) ∧ ((nx = q ∧ V (100 + i) 358 = nI (due q e) ∧ m ≤ due q e) ∨ (nx = n ∧ (q = n ∨ due q e < m)))) ∨ (pl = some (q - 1) ∧ 0 < q ∧ nx = q ∧ m ≤ e (q - 1) + 1 ∧ b (q - 1) < m))
/-- in the minute m -/
def pB (V : Nat → Nat → Int32) (pl : Option Nat) (nx i n m : Nat) : Prop := ∃ q b e, pPre V i n q b e ∧ (∀ k, k + 1 < q → e k < m) ∧ ((pl = none ∧ (0 < q → e (q - 1) < m) ∧ ((nx = q ∧ V (100 + i) 358 = nI (due q e) ∧ m < due q e) ∨ (nx = n ∧ (q = n ∨ due q e ≤ m)))) ∨ (pl = some (q - 1) ∧ 0 < q ∧ nx = q ∧ b (q - 1) ≤ m ∧ m ≤ e (q - 1)))
/-- a turn's fields on both sides -/
def pT (V W : Nat → Nat → Int32) (i k : Nat) : Prop := W (1160 + 8 * i + k) 609 = (if V (160 + 8 * i + k) 423 = 0 then -1 else V (160 + 8 * i + k) 417) ∧ W (1160 + 8 * i + k) 610 = V (160 + 8 * i + k) 418 ∧ W (1160 + 8 * i + k) 611 = V (160 + 8 * i + k) 419 ∧ W (1160 + 8 * i + k) 612 = V (160 + 8 * i + k) 420 ∧ W (1160 + 8 * i + k) 613 = V (160 + 8 * i + k) 421 ∧ W (1160 + 8 * i + k) 614 = V (160 + 8 * i + k) 422 ∧ W (1160 + 8 * i + k) 615 = V (160 + 8 * i + k) 424 ∧ (V (160 + 8 * i + k) 424 = 0 ∨ V (160 + 8 * i + k) 424 = 1)
theorem nI_nm1 {b : Nat} (h : b < 2 ^ 31) : ¬ nI b = -1 := fun e => nI_pos h (by rw [e]; decide)
section ZPL1
variable {S : zSt} {V V' W W' : Nat → Nat → Int32} {pl : Option Nat} {nx i n m q : Nat} {b e : Nat → Nat}
theorem pPre.to (h : pPre V i n q b e) (hV : ∀ k key, k < n → (key = 417 ∨ key = 418 ∨ key = 423) → V' (160 + 8 * i + k) key = V (160 + 8 * i + k) key) : pPre V' i n q b e := by
  obtain ⟨h1, h2, h3, h4⟩ := h
  refine ⟨h1, fun k hk => ?_, h3, fun k hk hn => ?_⟩
  · rw [hV k 423 (by omega) (by omega), hV k 417 (by omega) (by omega), hV k 418 (by omega) (by omega)]
    exact h2 k hk
  · rw [hV k 423 hn (by omega)]
    exact h4 k hk hn
theorem pA.to (h : pA V pl nx i n m) (hV : ∀ k key, k < n → (key = 417 ∨ key = 418 ∨ key = 423) → V' (160 + 8 * i + k) key = V (160 + 8 * i + k) key) (h9 : V' (100 + i) 358 = V (100 + i) 358) : pA V' pl nx i n m := by
  obtain ⟨q, b, e, h1, h2⟩ := h
  exact ⟨q, b, e, h1.to hV, by rw [h9]; exact h2⟩
theorem pB.to (h : pB V pl nx i n m) (hV : ∀ k key, k < n → (key = 417 ∨ key = 418 ∨ key = 423) → V' (160 + 8 * i + k) key = V (160 + 8 * i + k) key) (h9 : V' (100 + i) 358 = V (100 + i) 358) : pB V' pl nx i n m := by
  obtain ⟨q, b, e, h1, h2⟩ := h
  exact ⟨q, b, e, h1.to hV, by rw [h9]; exact h2⟩
theorem pT.to {k : Nat} (h : pT V W i k) (hV : ∀ key, 417 ≤ key → key ≤ 424 → V' (160 + 8 * i + k) key = V (160 + 8 * i + k) key) (hW : ∀ key, 609 ≤ key → key ≤ 615 → W' (1160 + 8 * i + k) key = W (1160 + 8 * i + k) key) : pT V' W' i k := by
  unfold pT
  rw [hV 417 (by omega) (by omega), hV 418 (by omega) (by omega), hV 419 (by omega) (by omega), hV 420 (by omega) (by omega), hV 421 (by omega) (by omega), hV 422 (by omega) (by omega), hV 423 (by omega) (by omega), hV 424 (by omega) (by omega), hW 609 (by omega) (by omega), hW 610 (by omega) (by omega), hW 611 (by omega) (by omega), hW 612 (by omega) (by omega), hW 613 (by omega) (by omega), hW 614 (by omega) (by omega), hW 615 (by omega) (by omega)]
  exact h
/-- who plays, by the reference -/
theorem at_on {T : zSt} (h : pPre V i n q b e) (hT : ∀ k, k < n → pT V (sV T) i k) {k : Nat} (hk : k < n) (hm : m < 2 ^ 31) : fOnM (sV T) i (nI m) k = (decide (k < q) && decide (b k ≤ m) && decide (m ≤ e k)) := by
  obtain ⟨h1, h2, h3, h4⟩ := h
  unfold fOnM fIn
  obtain ⟨t1, t2, -⟩ := hT k hk
  rw [t1, t2]
  by_cases hq : k < q
  · obtain ⟨g1, g2, g3, g4, g5, g6⟩ := h2 k hq
    rw [if_neg g1, g2, g3, decide_eq_false (nI_nm1 (show b k < 2 ^ 31 by omega)), decide_eq_true hq, Bool.not_false, Bool.true_and, Bool.true_and]
    rw [show decide (¬ nI m < nI (b k)) = decide (b k ≤ m) from decide_eq_decide.mpr (by rw [nI_ltI hm (by omega)]; omega), show decide (¬ nI (e k) < nI m) = decide (m ≤ e k) from decide_eq_decide.mpr (by rw [nI_ltI (by omega) hm]; omega)]
  · rw [if_pos (h4 k (by omega) hk), decide_eq_true (rfl : (-1 : Int32) = -1), decide_eq_false hq]
    rfl
theorem at_eq {T : zSt} (h : pB V pl nx i n m) (hT : ∀ k, k < n → pT V (sV T) i k) (hn : sc T (1010 + i) = n) (hm : m < 2 ^ 31) : (match pl with | none => ¬ fAtM T i (nI m) < n | some k => fAtM T i (nI m) = k ∧ k < n) := by
  obtain ⟨q, b, e, h1, h2, h3⟩ := h
  have hon := fun k (hk : k < n) => at_on h1 hT hk hm
  have hqn : q ≤ n := h1.1
  rcases h3 with ⟨rfl, h4, -⟩ | ⟨rfl, h4, h5, h6, h7⟩
  · show ¬ zfst (fOnM (sV T) i (nI m)) (sc T (1010 + i)) < n
    rw [hn, zfst_none (fun k hk => ?_)]
    · omega
    · rw [hon k hk]
      by_cases g : k < q
      · have : e k < m := by
          by_cases g2 : k + 1 < q
          · exact h2 k g2
          · have := h4 (by omega)
            rw [show k = q - 1 by omega]
            exact this
        rw [decide_eq_false (show ¬ m ≤ e k by omega), Bool.and_false]
      · rw [decide_eq_false g]
        rfl
  · show zfst (fOnM (sV T) i (nI m)) (sc T (1010 + i)) = q - 1 ∧ q - 1 < n
    rw [hn]
    refine ⟨zfst_hit (fun k hk => ?_) ?_ (by omega), by omega⟩
    · rw [hon k (by omega), decide_eq_false (show ¬ m ≤ e k by have := h2 k (by omega); omega), Bool.and_false]
    · rw [hon (q - 1) (by omega), decide_eq_true (show q - 1 < q by omega), decide_eq_true h6, decide_eq_true h7]
      rfl
/-- whose turn is next, by the reference, and when it is due -/
theorem nx_eq {T : zSt} (h : pPre V i n q b e) (hT : ∀ k, k < n → pT V (sV T) i k) (hn : sc T (1010 + i) = n) : fNxM T i = q := by
  obtain ⟨h1, h2, h3, h4⟩ := h
  have hk : ∀ k, k < n → decide (sV T (1160 + 8 * i + k) 609 = -1) = !decide (k < q) := by
    intro k hk
    rw [(hT k hk).1]
    by_cases hq : k < q
    · obtain ⟨g1, g2, g3, g4, g5, g6⟩ := h2 k hq
      rw [if_neg g1, g2, decide_eq_false (nI_nm1 (show b k < 2 ^ 31 by omega)), decide_eq_true hq]
      rfl
    · rw [if_pos (h4 k (by omega) hk), decide_eq_false hq]
      rfl
  unfold fNxM
  rw [hn]
  by_cases g : q < n
  · refine zfst_hit (fun k hk2 => ?_) ?_ g
    · rw [hk k (by omega), decide_eq_true hk2]
      rfl
    · rw [hk q g, decide_eq_false (Nat.lt_irrefl _)]
      rfl
  · have e : q = n := by omega
    rw [e]
    refine zfst_none (fun k hk2 => ?_)
    rw [hk k hk2, decide_eq_true (show k < q by omega)]
    rfl
theorem due_eq {T : zSt} (h : pPre V i n q b e) (hT : ∀ k, k < n → pT V (sV T) i k) : fDueM T i q = nI (due q e) := by
  obtain ⟨h1, h2, -⟩ := h
  match q with
  | 0 => rfl
  | q + 1 =>
    show sV T (1160 + 8 * i + q) 610 + 6 = _
    rw [(hT q (by omega)).2.1, (h2 q (by omega)).2.2.1]
    show nI (e q) + nI 6 = nI (e q + 6)
    rw [nI_add]
/-- what the opening of a minute writes -/
theorem gMin_fr {t : zVp} {r key : Nat} (hn : sc S (10 + i) ≤ 8) : (gMin S i m t).1 r key = t.1 r key ∨ (r = 100 + i ∧ (key = 357 ∨ key = 358)) ∨ (160 + 8 * i ≤ r ∧ r < 168 + 8 * i ∧ (key = 417 ∨ key = 418 ∨ key = 423)) := by
  have hC : (gClose i m t).1 r key = t.1 r key ∨ (r = 100 + i ∧ (key = 357 ∨ key = 358)) := by
    unfold gClose
    split
    · exact Or.inl rfl
    · split
      · exact Or.inl rfl
      · show u2 t.1 (100 + i) 358 _ r key = _ ∨ _
        rw [u2_if]
        by_cases g : key = 358 ∧ r = 100 + i
        · exact Or.inr ⟨g.2, Or.inr g.1⟩
        · exact Or.inl (if_neg g)
  have hB : ∀ t : zVp, t.2.2 i < sc S (10 + i) → ((gBegin S i m t).1 r key = t.1 r key ∨ (r = 100 + i ∧ (key = 357 ∨ key = 358)) ∨ (160 + 8 * i ≤ r ∧ r < 168 + 8 * i ∧ (key = 417 ∨ key = 418 ∨ key = 423))) := by
    intro t ht
    unfold gBegin
    split
    · show u2 t.1 (100 + i) 357 _ r key = _ ∨ _
      rw [u2_if]
      by_cases g : key = 357 ∧ r = 100 + i
      · exact Or.inr (Or.inl ⟨g.2, Or.inl g.1⟩)
      · exact Or.inl (if_neg g)
    · show u2 (gOpen S i (t.2.2 i) (nI m) t.1) (100 + i) 357 _ r key = _ ∨ _
      unfold gOpen
      rw [u2_if, u2_if, u2_if, u2_if]
      by_cases g : key = 357 ∧ r = 100 + i
      · exact Or.inr (Or.inl ⟨g.2, Or.inl g.1⟩)
      · rw [if_neg g]
        by_cases g2 : r = 160 + 8 * i + t.2.2 i ∧ (key = 417 ∨ key = 418 ∨ key = 423)
        · exact Or.inr (Or.inr ⟨by omega, by omega, g2.2⟩)
        · rw [if_neg (by omega), if_neg (by omega), if_neg (by omega)]
          exact Or.inl rfl
  unfold gMin gStart
  split
  · split
    · rename_i h9
      rcases hB (gClose i m t) h9.2 with g | g
      · rcases hC with g2 | g2
        · exact Or.inl (g.trans g2)
        · exact Or.inr (Or.inl g2)
      · exact Or.inr g
    · rcases hC with g2 | g2
      · exact Or.inl g2
      · exact Or.inr (Or.inl g2)
  · rcases hC with g2 | g2
    · exact Or.inl g2
    · exact Or.inr (Or.inl g2)
theorem gMin_pl {t : zVp} {j : Nat} (h : j ≠ i) : (gMin S i m t).2.1 j = t.2.1 j ∧ (gMin S i m t).2.2 j = t.2.2 j := by
  have hC : (gClose i m t).2.1 j = t.2.1 j ∧ (gClose i m t).2.2 j = t.2.2 j := by
    unfold gClose
    split
    · exact ⟨rfl, rfl⟩
    · split
      · exact ⟨rfl, rfl⟩
      · exact ⟨u1_ne h, rfl⟩
  have hB : ∀ t : zVp, (gBegin S i m t).2.1 j = t.2.1 j ∧ (gBegin S i m t).2.2 j = t.2.2 j := by
    intro t
    unfold gBegin
    split
    · exact ⟨rfl, u1_ne h⟩
    · exact ⟨u1_ne h, u1_ne h⟩
  unfold gMin gStart
  split
  · split
    · exact ⟨(hB _).1.trans hC.1, (hB _).2.trans hC.2⟩
    · exact hC
  · exact hC
end ZPL1
