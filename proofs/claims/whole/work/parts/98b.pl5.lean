/-! THE DAY 5: all visits of a minute -/
def pVj (S : zSt) (V W : Nat → Nat → Int32) (m j : Nat) : Prop := ∀ i, i < sc S 2 → (W (1150 + i) 642 = V (150 + i) 450 ∧ zCh (V (150 + i) 450) ∧ W (1150 + i) 643 = V (150 + i) 451) ∧ ∀ x, sV S (150 + i) 449 = nI x → x < 1200 → (if i < j then m + 1 else m) ≤ x → V (150 + i) 450 = 45 ∧ V (150 + i) 451 = 0
def pMvj (S : zSt) (m j : Nat) (t : zVp) (T : zSt) : Prop := (pSt S t.1 (sV T) ∧ pSm S T) ∧ pBs S t m ∧ pTs S t.1 (sV T) ∧ (pMo S t.1 (sV T) ∧ pDy t.1 (sV T) ∧ pSo S t.1) ∧ pVj S t.1 (sV T) m j ∧ pSd S t.1 (m - 600)
section ZPL5
variable {S T : zSt} {V V' W W' : Nat → Nat → Int32} {m i j k n a p : Nat} {t : zVp} {A : Nat → Nat → Nat}
theorem zCh_k : zCh 45 ∧ zCh 102 ∧ zCh 110 ∧ zCh 100 := ⟨⟨rfl, rfl⟩, ⟨rfl, rfl⟩, ⟨rfl, rfl⟩, ⟨rfl, rfl⟩⟩
theorem zCh_f (f l n : Bool) : zCh (fKndV f l n) := by
  cases f <;> cases l <;> cases n <;> first | exact zCh_k.1 | exact zCh_k.2.1 | exact zCh_k.2.2.1 | exact zCh_k.2.2.2
theorem pBs.to (h : pBs S t m) {t' : zVp} (h2 : t'.2 = t.2) (hV : ∀ r key, (key = 417 ∨ key = 418 ∨ key = 423 ∨ key = 358) → t'.1 r key = t.1 r key) : pBs S t' m := fun i hi => by
  rw [h2]
  exact (h i hi).to (fun k key _ hk => hV _ _ (by omega)) (hV _ _ (by omega))
theorem pTs.to (h : pTs S V W) (hV : ∀ r key, 417 ≤ key → key ≤ 424 → V' r key = V r key) (hW : ∀ r key, 609 ≤ key → key ≤ 615 → W' r key = W r key) : pTs S V' W' := fun i k hi hk => (h i k hi hk).to (fun key h1 h2 => hV _ _ h1 h2) (fun key h1 h2 => hW _ _ h1 h2)
theorem vis_step (hR : rRel S) (h6 : 600 ≤ m) (h12 : m < 1200) (hj : j < sc S 2) (h : pMvj S m j t T) : pMvj S m (j + 1) (gVis S m j t) (wV T (fV1M T (sT S) (sP S) m j)) := by
  obtain ⟨⟨hst, hsm⟩, hB, hT, ⟨hmo, hdy, hso⟩, hvi, hsd⟩ := h
  obtain ⟨⟨hp, -⟩, ⟨g641, x9, hx9, hx6, hx12⟩, -, -⟩ := hR.vi j hj
  have e449 : t.1 (150 + j) 449 = nI x9 := by rw [hst.1 _ 449 (by unfold dC; omega)]; exact hx9
  have e641 : sV T (1150 + j) 641 = nI x9 := by rw [hst.2 _ 641 (by omega) (by unfold dM; omega), g641]; exact hx9
  have e640 := hst.2 (1150 + j) 640 (by omega) (by unfold dM; omega)
  have hat := mid_at hR hsm hB hT (show m < 2 ^ 31 by omega) hp
  have later : ∀ {V W : Nat → Nat → Int32}, pVj S V W m j → (x9 = m → False) → pVj S V W m (j + 1) := fun {V W} hv hne i hi => ⟨(hv i hi).1, fun x h1 h2 h3 => by
    refine (hv i hi).2 x h1 h2 ?_
    by_cases g : i < j
    · rw [if_pos (by omega)] at h3
      rw [if_pos g]
      exact h3
    · rw [if_neg g]
      by_cases g2 : i = j
      · subst g2
        rw [hx9] at h1
        have := (nI_eq (by omega) (by omega)).mp h1
        rw [if_pos (by omega)] at h3
        omega
      · rw [if_neg (by omega)] at h3
        exact h3⟩
  have up : ∀ {V W : Nat → Nat → Int32}, pVj S V W m j → pVj S V W m (j + 1) := fun {V W} hv i hi => ⟨(hv i hi).1, fun x h1 h2 h3 => by
    refine (hv i hi).2 x h1 h2 ?_
    by_cases g : i < j
    · rw [if_pos (by omega)] at h3
      rw [if_pos g]
      exact h3
    · rw [if_neg g]
      by_cases g2 : i < j + 1
      · rw [if_pos g2] at h3
        omega
      · rw [if_neg g2] at h3
        exact h3⟩
  by_cases hm : x9 = m
  · subst hm
    rcases hpl : t.2.1 (sP S j) with _ | k
    · rw [hpl] at hat
      have e1 : gVis S x9 j t = t := gVis_none hpl
      have e2 : fV1M T (sT S) (sP S) x9 j = sV T := by
        unfold fV1M
        exact if_neg (fun g => hat g.2)
      rw [e1, e2]
      exact ⟨⟨hst, hsm⟩, hB, hT, ⟨hmo, hdy, hso⟩, up hvi, hsd⟩
    · rw [hpl] at hat
      have hk : k < sc S (10 + sP S j) := by
        have := hat.2
        rw [hsm.1, hR.ck hp] at this
        exact this
      have ha := (hR.tu (sP S j) k hp hk).1.1
      obtain ⟨-, -, ⟨l1, -⟩, -, f1, -, ⟨f2, f3⟩, -⟩ := hR.ac (sT S (sP S j) k) ha
      generalize haa : sT S (sP S j) k = a at *
      have hfr := (hvi j hj).2 x9 hx9 (by omega) (by rw [if_neg (Nat.lt_irrefl _)]; exact Nat.le_refl _)
      have ef : gFire (140 + a) t.1 = fFireM T a := by
        unfold gFire fFireM
        rw [hst.1 _ 164 (by unfold dC; omega), hst.1 _ 166 (by unfold dC; omega), hst.2 _ 548 (by omega) (by unfold dM; omega), hst.2 _ 549 (by omega) (by unfold dM; omega), f1, f2]
        simp
      have el : decide (¬ 10 * t.1 (140 + a) 162 + t.1 (100 + sP S j) 353 ≤ t.1 6 288) = fLoudM T (sP S j) a := by
        unfold fLoudM
        rw [hst.1 _ 162 (by unfold dC; omega), hst.1 _ 353 (by unfold dC; omega), hst.1 _ 288 (by unfold dC; omega), hst.2 _ 685 (by omega) (by unfold dM; omega), hst.2 _ 545 (by omega) (by unfold dM; omega), hst.2 _ 577 (by omega) (by unfold dM; omega), l1, (hR.pi _ hp).1.2.1.1, hR.we.2.2.1.1]
        exact decide_eq_decide.mpr Int32.not_le
      have en : gNear S (sP S j) (t.1 6 289) t = fNrM T (sP S j) x9 (sc T 1000) := (near_eq hR hst hsm hB hT (by omega) hp).symm
      have e1 : gVis S x9 j t = gJudge S a j t := by
        rw [gVis_go hpl e449, haa]
      have e2 : fV1M T (sT S) (sP S) x9 j = fVsM T j a (fFireM T a) (fLoudM T (sP S j) a) (fNrM T (sP S j) x9 (sc T 1000)) := by
        unfold fV1M
        rw [if_pos ⟨e641, by omega⟩, hat.1, haa]
      have e3 := judge_eq hfr ef el en
      rw [e1, e2]
      generalize fFireM T a = f at *
      generalize fLoudM T (sP S j) a = l at *
      generalize fNrM T (sP S j) x9 (sc T 1000) = n at *
      have v1 : ∀ r key, (gJudge S a j t).1 r key = if key = 232 ∧ r = 7 then t.1 7 232 + fSumV f l n else if key = 167 ∧ r = 140 + a then t.1 (140 + a) 167 - fSumV f l n else if key = 450 ∧ r = 150 + j then fKndV f l n else if key = 451 ∧ r = 150 + j then fSumV f l n else t.1 r key := by
        intro r key
        rw [e3]
        show u2 (u2 (fin3 (150 + j) f l n t.1) (140 + a) 167 _) 7 232 _ r key = _
        rw [u2_if, u2_if, fin3_eq f l n hfr.1 hfr.2]
      have v2 : ∀ r key, fVsM T j a f l n r key = if key = 689 ∧ r = 1001 then sV T 1001 689 + fSumV f l n else if key = 550 ∧ r = 1140 + a then sV T (1140 + a) 550 - fSumV f l n else if key = 642 ∧ r = 1150 + j then fKndV f l n else if key = 643 ∧ r = 1150 + j then fSumV f l n else sV T r key := by
        intro r key
        unfold fVsM
        rw [u2_if, u2_if, u2_if, u2_if]
      have e4 : (gJudge S a j t).2 = t.2 := by rw [e3]
      have hc1 := hR.b1
      have hc2 := hR.b2
      generalize ht' : gJudge S a j t = t' at *
      generalize hW' : fVsM T j a f l n = W' at *
      have fr1 : ∀ r key, key ≠ 232 ∧ key ≠ 167 ∧ key ≠ 450 ∧ key ≠ 451 → t'.1 r key = t.1 r key := fun r key hk => by rw [v1, if_neg (by omega), if_neg (by omega), if_neg (by omega), if_neg (by omega)]
      have fr2 : ∀ r key, key ≠ 689 ∧ key ≠ 550 ∧ key ≠ 642 ∧ key ≠ 643 → W' r key = sV T r key := fun r key hk => by rw [v2, if_neg (by omega), if_neg (by omega), if_neg (by omega), if_neg (by omega)]
      refine ⟨⟨hst.to (fun r k hk => fr1 r k (by unfold dC at hk; omega)) (fun r k _ hk => fr2 r k (by unfold dM at hk; omega)), hsm⟩, hB.to e4 (fun r key hk => fr1 r key (by omega)), hT.to (fun r key h1 h2 => fr1 r key (by omega)) (fun r key h1 h2 => fr2 r key (by omega)), ⟨fun b hb => ?_, ⟨?_, ?_⟩, ?_⟩, fun i hi => ⟨?_, fun x h1 h2 h3 => ?_⟩, hsd.to (fun r => fr1 r _ (by omega))⟩
      · show W' (1140 + b) 550 = t'.1 (140 + b) 167
        rw [v1, v2]
        by_cases g : b = a
        · subst g
          rw [if_neg (by omega), if_pos ⟨rfl, rfl⟩, if_neg (by omega), if_pos ⟨rfl, rfl⟩, hmo b hb]
        · rw [if_neg (by omega), if_neg (by omega), if_neg (by omega), if_neg (by omega), if_neg (by omega), if_neg (by omega), if_neg (by omega), if_neg (by omega)]
          exact hmo b hb
      · show W' 1001 688 = t'.1 7 230
        rw [fr1 7 230 (by omega), fr2 1001 688 (by omega)]
        exact hdy.1
      · show W' 1001 689 = t'.1 7 232
        rw [v1, v2, if_pos ⟨rfl, rfl⟩, if_pos ⟨rfl, rfl⟩, hdy.2]
      · show fMoney (wV S t'.1) (sc S 1) = t'.1 7 231 - t'.1 7 232
        have q1 : fMoney (wV S t'.1) (sc S 1) = fMoney (wV S (u2 t.1 (140 + a) 167 (t.1 (140 + a) 167 - fSumV f l n))) (sc S 1) := by
          refine fMoney_to (fun b => ?_) _
          rw [v1, u2_if, if_neg (by omega)]
          by_cases g : b = a
          · subst g
            rw [if_pos ⟨rfl, rfl⟩, if_pos ⟨rfl, rfl⟩]
          · rw [if_neg (by omega), if_neg (by omega), if_neg (by omega), if_neg (by omega)]
        rw [q1, fMoney_set, if_pos ha, fr1 7 231 (by omega), v1, if_pos ⟨rfl, rfl⟩]
        have q2 : fMoney (wV S t.1) (sc S 1) = t.1 7 231 - t.1 7 232 := hso
        rw [q2]
        grind
      · by_cases g : i = j
        · subst g
          show W' (1150 + i) 642 = t'.1 (150 + i) 450 ∧ zCh (t'.1 (150 + i) 450) ∧ W' (1150 + i) 643 = t'.1 (150 + i) 451
          rw [v1, v1, v2, v2, if_neg (by omega), if_neg (by omega), if_pos ⟨rfl, rfl⟩, if_neg (by omega), if_neg (by omega), if_pos ⟨rfl, rfl⟩, if_neg (by omega), if_neg (by omega), if_neg (by omega), if_pos ⟨rfl, rfl⟩, if_neg (by omega), if_neg (by omega), if_neg (by omega), if_pos ⟨rfl, rfl⟩]
          exact ⟨rfl, zCh_f f l n, rfl⟩
        · show W' (1150 + i) 642 = t'.1 (150 + i) 450 ∧ zCh (t'.1 (150 + i) 450) ∧ W' (1150 + i) 643 = t'.1 (150 + i) 451
          have q1 : t'.1 (150 + i) 450 = t.1 (150 + i) 450 := by rw [v1, if_neg (by omega), if_neg (by omega), if_neg (by omega), if_neg (by omega)]
          have q2 : t'.1 (150 + i) 451 = t.1 (150 + i) 451 := by rw [v1, if_neg (by omega), if_neg (by omega), if_neg (by omega), if_neg (by omega)]
          have q3 : W' (1150 + i) 642 = sV T (1150 + i) 642 := by rw [v2, if_neg (by omega), if_neg (by omega), if_neg (by omega), if_neg (by omega)]
          have q4 : W' (1150 + i) 643 = sV T (1150 + i) 643 := by rw [v2, if_neg (by omega), if_neg (by omega), if_neg (by omega), if_neg (by omega)]
          rw [q1, q2, q3, q4]
          exact (hvi i hi).1
      · by_cases g : i = j
        · subst g
          rw [hx9] at h1
          have := (nI_eq (by omega) (by omega)).mp h1
          rw [if_pos (by omega)] at h3
          omega
        · have q1 : t'.1 (150 + i) 450 = t.1 (150 + i) 450 := by rw [v1, if_neg (by omega), if_neg (by omega), if_neg (by omega), if_neg (by omega)]
          have q2 : t'.1 (150 + i) 451 = t.1 (150 + i) 451 := by rw [v1, if_neg (by omega), if_neg (by omega), if_neg (by omega), if_neg (by omega)]
          rw [q1, q2]
          exact (up hvi i hi).2 x h1 h2 h3
  · have e1 : gVis S m j t = t := gVis_not (fun g => hm ((nI_eq (by omega) (by omega)).mp (e449.symm.trans g)))
    have e2 : fV1M T (sT S) (sP S) m j = sV T := by
      unfold fV1M
      exact if_neg (fun g => hm ((nI_eq (by omega) (by omega)).mp (e641.symm.trans g.1)))
    rw [e1, e2]
    exact ⟨⟨hst, hsm⟩, hB, hT, ⟨hmo, hdy, hso⟩, later hvi hm, hsd⟩
theorem vis_all (hR : rRel S) (h6 : 600 ≤ m) (h12 : m < 1200) (h : pMid S m m t T) : pMid S m (m + 1) (gVisAll S m (sc S 2) t) (fVsA T (sT S) (sP S) m (sc S 2)) := by
  have key : ∀ j, j ≤ sc S 2 → pMvj S m j (gVisAll S m j t) (fVsA T (sT S) (sP S) m j) := by
    intro j
    induction j with
    | zero =>
      intro _
      obtain ⟨a1, a2, a3, a4, a5, a6⟩ := h
      exact ⟨a1, a2, a3, a4, fun i hi => ⟨(a5 i hi).1, fun x h1 h2 h3 => (a5 i hi).2 x h1 h2 (by rw [if_neg (Nat.not_lt_zero _)] at h3; exact h3)⟩, a6⟩
    | succ j ih =>
      intro hj
      exact vis_step hR h6 h12 (by omega) (ih (by omega))
  obtain ⟨a1, a2, a3, a4, a5, a6⟩ := key (sc S 2) (Nat.le_refl _)
  exact ⟨a1, a2, a3, a4, fun i hi => ⟨(a5 i hi).1, fun x h1 h2 h3 => (a5 i hi).2 x h1 h2 (by rw [if_pos hi]; exact h3)⟩, a6⟩
end ZPL5
