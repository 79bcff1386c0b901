/-! THE DAY 3: all pitches as a minute opens -/
def pSt (S : zSt) (V W : Nat → Nat → Int32) : Prop := (∀ r k, ¬ dC k → V r k = sV S r k) ∧ ∀ r k, 544 ≤ k → ¬ dM k → W r k = sV S r k
def pMo (S : zSt) (V W : Nat → Nat → Int32) : Prop := ∀ a, a < sc S 1 → W (1140 + a) 550 = V (140 + a) 167
def pDy (V W : Nat → Nat → Int32) : Prop := W 1001 688 = V 7 230 ∧ W 1001 689 = V 7 232
def pVi (S : zSt) (V W : Nat → Nat → Int32) (m : Nat) : Prop := ∀ j, j < sc S 2 → (W (1150 + j) 642 = V (150 + j) 450 ∧ zCh (V (150 + j) 450) ∧ W (1150 + j) 643 = V (150 + j) 451) ∧ ∀ x, sV S (150 + j) 449 = nI x → x < 1200 → m ≤ x → V (150 + j) 450 = 45 ∧ V (150 + j) 451 = 0
def pSd (S : zSt) (V : Nat → Nat → Int32) (x : Nat) : Prop := ∀ i k, i < sc S 0 → k < sc S (10 + i) → ∃ s, V (160 + 8 * i + k) 419 = nI s ∧ s ≤ 780 * x
def pSo (S : zSt) (V : Nat → Nat → Int32) : Prop := fMoney (wV S V) (sc S 1) = V 7 231 - V 7 232
def pTs (S : zSt) (V W : Nat → Nat → Int32) : Prop := ∀ i k, i < sc S 0 → k < sc S (10 + i) → pT V W i k
def pAs (S : zSt) (t : zVp) (m : Nat) : Prop := ∀ i, i < sc S 0 → pA t.1 (t.2.1 i) (t.2.2 i) i (sc S (10 + i)) m
def pBs (S : zSt) (t : zVp) (m : Nat) : Prop := ∀ i, i < sc S 0 → pB t.1 (t.2.1 i) (t.2.2 i) i (sc S (10 + i)) m
def pSm (S T : zSt) : Prop := sc T = sc S ∧ sW T = sW S
def pRel (S : zSt) (m : Nat) (t : zVp) (T : zSt) : Prop := (pSt S t.1 (sV T) ∧ pSm S T) ∧ pAs S t m ∧ pTs S t.1 (sV T) ∧ (pMo S t.1 (sV T) ∧ pDy t.1 (sV T) ∧ pSo S t.1) ∧ pVi S t.1 (sV T) m ∧ pSd S t.1 (m - 600)
def pMid (S : zSt) (m x : Nat) (t : zVp) (T : zSt) : Prop := (pSt S t.1 (sV T) ∧ pSm S T) ∧ pBs S t m ∧ pTs S t.1 (sV T) ∧ (pMo S t.1 (sV T) ∧ pDy t.1 (sV T) ∧ pSo S t.1) ∧ pVi S t.1 (sV T) x ∧ pSd S t.1 (m - 600)
section ZPL3
variable {S T : zSt} {V V' W W' : Nat → Nat → Int32} {m i j k : Nat} {t : zVp} {A : Nat → Nat → Nat}
theorem fMoney_to (h : ∀ a, V' (140 + a) 167 = V (140 + a) 167) : ∀ n, fMoney (wV S V') n = fMoney (wV S V) n
  | 0 => rfl
  | n + 1 => by
    show fMoney (wV S V') n + V' (140 + n) 167 = fMoney (wV S V) n + V (140 + n) 167
    rw [fMoney_to h n, h]
theorem pMo.to (h : pMo S V W) (h1 : ∀ r, V' r 167 = V r 167) (h2 : ∀ r, W' r 550 = W r 550) : pMo S V' W' := fun a ha => by rw [h1, h2]; exact h a ha
theorem pDy.to (h : pDy V W) (h1 : ∀ r key, 230 ≤ key → key ≤ 232 → V' r key = V r key) (h2 : ∀ r key, (key = 688 ∨ key = 689) → W' r key = W r key) : pDy V' W' := by
  unfold pDy
  rw [h1 7 230 (by omega) (by omega), h1 7 232 (by omega) (by omega), h2 1001 688 (by omega), h2 1001 689 (by omega)]
  exact h
theorem pVi.to (h : pVi S V W m) (h1 : ∀ r key, (key = 450 ∨ key = 451) → V' r key = V r key) (h2 : ∀ r key, (key = 642 ∨ key = 643) → W' r key = W r key) : pVi S V' W' m := fun j hj => by
  rw [h1 _ 450 (by omega), h1 _ 451 (by omega), h2 _ 642 (by omega), h2 _ 643 (by omega)]
  exact h j hj
theorem pSd.to {x : Nat} (h : pSd S V x) (h1 : ∀ r, V' r 419 = V r 419) : pSd S V' x := fun i k hi hk => by rw [h1]; exact h i k hi hk
theorem pSo.to (h : pSo S V) (h1 : ∀ r key, (key = 167 ∨ key = 231 ∨ key = 232) → V' r key = V r key) : pSo S V' := by
  unfold pSo
  rw [fMoney_to (fun a => h1 _ 167 (by omega)), h1 7 231 (by omega), h1 7 232 (by omega)]
  exact h
-- frames of the opening
theorem gMinAll_fr (hR : rRel S) {r key : Nat} (hk : key ≠ 357 ∧ key ≠ 358 ∧ key ≠ 417 ∧ key ≠ 418 ∧ key ≠ 423) : ∀ j, j ≤ sc S 0 → (gMinAll S m j t).1 r key = t.1 r key
  | 0, _ => rfl
  | j + 1, hj => by
    show (gMin S j m (gMinAll S m j t)).1 r key = _
    rcases gMin_fr (S := S) (i := j) (m := m) (t := gMinAll S m j t) (r := r) (key := key) (hR.bk (by omega)) with g | g | g
    · rw [g]
      exact gMinAll_fr hR hk j (by omega)
    · omega
    · omega
theorem fBgM_fr {r key mm : Nat} : fBgM T A i (nI mm) r key = sV T r key ∨ (fNxM T i < sc T (1010 + i) ∧ r = 1160 + 8 * i + fNxM T i ∧ (key = 609 ∨ key = 610)) := by
  unfold fBgM
  split
  · rename_i h9
    rw [u2_if, u2_if]
    by_cases g : r = 1160 + 8 * i + fNxM T i ∧ (key = 609 ∨ key = 610)
    · exact Or.inr ⟨h9.1, g⟩
    · rw [if_neg (by omega), if_neg (by omega)]
      exact Or.inl rfl
  · exact Or.inl rfl
theorem fB1_fr {r key : Nat} (hk : key ≠ 609 ∧ key ≠ 610) : ∀ j, sV (fB1 T A m j) r key = sV T r key
  | 0 => rfl
  | j + 1 => by
    show fBgM (fB1 T A m j) A j (nI m) r key = _
    rcases fBgM_fr (T := fB1 T A m j) (A := A) (i := j) (r := r) (key := key) (mm := m) with g | g
    · rw [g]
      exact fB1_fr hk j
    · omega
theorem fB1_sm : ∀ j, pSm T (fB1 T A m j)
  | 0 => ⟨rfl, rfl⟩
  | j + 1 => fB1_sm j
theorem pSt.to (h : pSt S V W) (h1 : ∀ r k, ¬ dC k → V' r k = V r k) (h2 : ∀ r k, 544 ≤ k → ¬ dM k → W' r k = W r k) : pSt S V' W' := ⟨fun r k hk => (h1 r k hk).trans (h.1 r k hk), fun r k h5 hk => (h2 r k h5 hk).trans (h.2 r k h5 hk)⟩
theorem open_ok (hR : rRel S) (h6 : 600 ≤ m) (h12 : m < 1200) (h : pRel S m t T) : ∀ j, j ≤ sc S 0 → (∀ i, i < sc S 0 → if i < j then pB (gMinAll S m j t).1 ((gMinAll S m j t).2.1 i) ((gMinAll S m j t).2.2 i) i (sc S (10 + i)) m else pA (gMinAll S m j t).1 ((gMinAll S m j t).2.1 i) ((gMinAll S m j t).2.2 i) i (sc S (10 + i)) m) ∧ pTs S (gMinAll S m j t).1 (sV (fB1 T (sT S) m j))
  | 0, _ => ⟨fun i hi => by rw [if_neg (Nat.not_lt_zero _)]; exact h.2.1 i hi, h.2.2.1⟩
  | j + 1, hj => by
    obtain ⟨h1, h2⟩ := open_ok hR h6 h12 h j (by omega)
    obtain ⟨⟨hst, hsm⟩, -⟩ := h
    have hj0 : j < sc S 0 := by omega
    have hj6 := hR.b0
    have hn8 := hR.bk hj0
    have hc : sc (fB1 T (sT S) m j) = sc S := (fB1_sm j).1.trans hsm.1
    have e1 : gMinAll S m (j + 1) t = gMin S j m (gMinAll S m j t) := rfl
    have e2 : sV (fB1 T (sT S) m (j + 1)) = fBgM (fB1 T (sT S) m j) (sT S) j (nI m) := rfl
    have hj1 := h1 j hj0
    rw [if_neg (Nat.lt_irrefl _)] at hj1
    have key := min_ok (S := S) (T := fB1 T (sT S) m j) (i := j) (n := sc S (10 + j)) (m := m) (t := gMinAll S m j t) (A := sT S) hj1 (fun k hk => h2 j k hj0 hk) rfl (by rw [hc, hR.ck hj0]) hn8 (fun k hk => by
      have ha := (hR.tu j k hj0 hk).1.1
      obtain ⟨-, ⟨g1, mn, g2, g3, g4⟩, -⟩ := hR.ac (sT S j k) ha
      refine ⟨mn, ?_, ?_, g3, g4⟩
      · rw [gMinAll_fr hR (by omega) j (by omega), hst.1 _ 161 (by unfold dC; omega)]
        exact g2
      · rw [fB1_fr (by omega), hst.2 _ 544 (by omega) (by unfold dM; omega), g1]
        exact g2) h6 h12
    rw [e1, e2]
    refine ⟨fun i hi => ?_, fun i k hi hk => ?_⟩
    · by_cases g : i = j
      · subst g
        rw [if_pos (by omega)]
        exact key.1
      · have hp := gMin_pl (S := S) (i := j) (m := m) (t := gMinAll S m j t) (j := i) g
        rw [hp.1, hp.2]
        have hni := hR.bk hi
        have fr : ∀ k key, k < sc S (10 + i) → (key = 417 ∨ key = 418 ∨ key = 423) → (gMin S j m (gMinAll S m j t)).1 (160 + 8 * i + k) key = (gMinAll S m j t).1 (160 + 8 * i + k) key := fun k key hk hkey => by
          rcases gMin_fr (S := S) (i := j) (m := m) (t := gMinAll S m j t) (r := 160 + 8 * i + k) (key := key) hn8 with q | q | q
          · exact q
          · omega
          · omega
        have fr2 : (gMin S j m (gMinAll S m j t)).1 (100 + i) 358 = (gMinAll S m j t).1 (100 + i) 358 := by
          rcases gMin_fr (S := S) (i := j) (m := m) (t := gMinAll S m j t) (r := 100 + i) (key := 358) hn8 with q | q | q
          · exact q
          · omega
          · omega
        have hi1 := h1 i hi
        by_cases g2 : i < j
        · rw [if_pos g2] at hi1
          rw [if_pos (by omega)]
          exact hi1.to fr fr2
        · rw [if_neg g2] at hi1
          rw [if_neg (by omega)]
          exact hi1.to fr fr2
    · by_cases g : i = j
      · subst g
        exact key.2 k hk
      · have hni := hR.bk hi
        refine (h2 i k hi hk).to (fun key _ _ => ?_) (fun key _ _ => ?_)
        · rcases gMin_fr (S := S) (i := j) (m := m) (t := gMinAll S m j t) (r := 160 + 8 * i + k) (key := key) hn8 with q | q | q
          · exact q
          · omega
          · omega
        · rcases fBgM_fr (T := fB1 T (sT S) m j) (A := sT S) (i := j) (r := 1160 + 8 * i + k) (key := key) (mm := m) with q | q
          · exact q
          · rw [hc, hR.ck hj0] at q
            omega
/-- all have opened -/
theorem open_all (hR : rRel S) (h6 : 600 ≤ m) (h12 : m < 1200) (h : pRel S m t T) : pMid S m m (gMinAll S m (sc S 0) t) (fB1 T (sT S) m (sc S 0)) := by
  obtain ⟨h1, h2⟩ := open_ok hR h6 h12 h (sc S 0) (Nat.le_refl _)
  have f1 : ∀ r key, key ≠ 357 ∧ key ≠ 358 ∧ key ≠ 417 ∧ key ≠ 418 ∧ key ≠ 423 → (gMinAll S m (sc S 0) t).1 r key = t.1 r key := fun r key hk => gMinAll_fr hR hk _ (Nat.le_refl _)
  have f2 : ∀ r key, key ≠ 609 ∧ key ≠ 610 → sV (fB1 T (sT S) m (sc S 0)) r key = sV T r key := fun r key hk => fB1_fr hk _
  obtain ⟨⟨hst, hsm⟩, -, -, ⟨hmo, hdy, hso⟩, hvi, hsd⟩ := h
  refine ⟨⟨hst.to (fun r k hk => f1 r k (by unfold dC at hk; omega)) (fun r k h5 hk => f2 r k (by unfold dM at hk; omega)), ⟨(fB1_sm _).1.trans hsm.1, (fB1_sm _).2.trans hsm.2⟩⟩, fun i hi => ?_, h2, ⟨hmo.to (fun r => f1 r _ (by omega)) (fun r => f2 r _ (by omega)), hdy.to (fun r k _ _ => f1 r _ (by omega)) (fun r k _ => f2 r _ (by omega)), hso.to (fun r k _ => f1 r _ (by omega))⟩, hvi.to (fun r k _ => f1 r _ (by omega)) (fun r k _ => f2 r _ (by omega)), hsd.to (fun r => f1 r _ (by omega))⟩
  have := h1 i hi
  rw [if_pos hi] at this
  exact this
end ZPL3
