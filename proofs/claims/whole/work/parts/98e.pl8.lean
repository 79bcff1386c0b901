/-! THE DAY 8: a minute's step of each pitch -/
def pStp (S : zSt) (m j : Nat) (t : zVp) (T : zSt) : Prop := (pSt S t.1 (sV T) ∧ pSm S T) ∧ (∀ i, i < sc S 0 → if i < j then pA t.1 (t.2.1 i) (t.2.2 i) i (sc S (10 + i)) (m + 1) else pB t.1 (t.2.1 i) (t.2.2 i) i (sc S (10 + i)) m) ∧ pTs S t.1 (sV T) ∧ (pMo S t.1 (sV T) ∧ pDy t.1 (sV T) ∧ pSo S t.1) ∧ pVi S t.1 (sV T) (m + 1) ∧ ∀ i k, i < sc S 0 → k < sc S (10 + i) → ∃ s, t.1 (160 + 8 * i + k) 419 = nI s ∧ s ≤ 780 * ((if i < j then m + 1 else m) - 600)
section ZPL8
variable {S T : zSt} {V V' W W' : Nat → Nat → Int32} {m i j k n a p nx : Nat} {t t' : zVp} {A : Nat → Nat → Nat}
theorem pB_none (h : pB V none nx i n m) : pA V none nx i n (m + 1) := by
  obtain ⟨q, b, e, h1, h2, h3⟩ := h
  refine ⟨q, b, e, h1, fun k hk => Nat.lt_succ_of_lt (h2 k hk), Or.inl ⟨rfl, ?_⟩⟩
  rcases h3 with ⟨-, h4, h5⟩ | ⟨h4, -⟩
  · refine ⟨fun g => Nat.lt_succ_of_lt (h4 g), ?_⟩
    rcases h5 with ⟨g1, g2, g3⟩ | ⟨g1, g2⟩
    · exact Or.inl ⟨g1, g2, g3⟩
    · exact Or.inr ⟨g1, by omega⟩
  · cases h4
theorem pB_some (h : pB V (some k) nx i n m) : pA V (some k) nx i n (m + 1) := by
  obtain ⟨q, b, e, h1, h2, h3⟩ := h
  rcases h3 with ⟨h4, -⟩ | ⟨h4, h5, h6, h7, h8⟩
  · cases h4
  · exact ⟨q, b, e, h1, fun k hk => Nat.lt_succ_of_lt (h2 k hk), Or.inr ⟨h4, h5, h6, by omega, by omega⟩⟩
theorem pB_brk (h : pB V (some k) nx i n m) (hV : ∀ j key, j < n → (key = 417 ∨ key = 418 ∨ key = 423) → ¬ (j = k ∧ key = 418) → V' (160 + 8 * i + j) key = V (160 + 8 * i + j) key) (h9 : V' (100 + i) 358 = V (100 + i) 358) (hb : V' (160 + 8 * i + k) 418 = nI m) (h12 : m < 1200) : pA V' (some k) nx i n (m + 1) := by
  obtain ⟨q, b, e, ⟨g1, g2, g3, g4⟩, h2, h3⟩ := h
  rcases h3 with ⟨h4, -⟩ | ⟨h4, h5, h6, h7, h8⟩
  · cases h4
  · have hk : k = q - 1 := Option.some.inj h4
    subst hk
    refine ⟨q, b, u1 e (q - 1) m, ⟨g1, fun x hx => ?_, fun x hx => ?_, fun x h1 h2 => ?_⟩, fun x hx => ?_, Or.inr ⟨rfl, h5, h6, ?_, ?_⟩⟩
    · obtain ⟨a1, a2, a3, a4, a5, a6⟩ := g2 x hx
      rw [hV x 423 (by omega) (by omega) (by omega), hV x 417 (by omega) (by omega) (by omega)]
      by_cases c : x = q - 1
      · subst c
        rw [hb, u1_at]
        exact ⟨a1, a2, rfl, a4, h7, h12⟩
      · rw [hV x 418 (by omega) (by omega) (by omega), u1_ne c]
        exact ⟨a1, a2, a3, a4, a5, a6⟩
    · rw [u1_ne (by omega)]
      exact g3 x hx
    · rw [hV x 423 h2 (by omega) (by omega)]
      exact g4 x h1 h2
    · rw [u1_ne (by omega)]
      exact Nat.lt_succ_of_lt (h2 x hx)
    · rw [u1_at]
      exact Nat.le_refl _
    · omega
theorem gStep_none (h : t.2.1 i = none) : gStep S m i t = t := by
  unfold gStep
  rw [h]
theorem gStep_some (h : t.2.1 i = some k) : gStep S m i t = (gEndV S i k m (gGath S i k m t), t.2.1, t.2.2) := by
  unfold gStep
  rw [h]
/-- the end of a turn's minute -/
theorem end_ok (hR : rRel S) (hst : pSt S V (sV T)) (hsm : pSm S T) (hmo : pMo S V (sV T)) (hdy : pDy V (sV T)) (hso : pSo S V) (hi : i < sc S 0) (hk : k < sc S (10 + i)) (ha : sT S i k = a) (hT : pT V (sV T) i k) (hp : ¬ V (160 + 8 * i + k) 423 = 0) :
    (∀ r key, key ≠ 167 ∧ key ≠ 230 ∧ key ≠ 231 → ¬ (r = 160 + 8 * i + k ∧ (key = 418 ∨ key = 421 ∨ key = 424)) → gEndV S i k m V r key = V r key) ∧ (∀ r key, key ≠ 550 ∧ key ≠ 688 → ¬ (r = 1160 + 8 * i + k ∧ (key = 610 ∨ key = 613 ∨ key = 615)) → fEndM T (1160 + 8 * i + k) a m r key = sV T r key) ∧ pT (gEndV S i k m V) (fEndM T (1160 + 8 * i + k) a m) i k ∧
      (gEndV S i k m V (160 + 8 * i + k) 418 = V (160 + 8 * i + k) 418 ∨ gEndV S i k m V (160 + 8 * i + k) 418 = nI m) ∧ pMo S (gEndV S i k m V) (fEndM T (1160 + 8 * i + k) a m) ∧ pDy (gEndV S i k m V) (fEndM T (1160 + 8 * i + k) a m) ∧ pSo S (gEndV S i k m V) := by
  obtain ⟨t1, t2, t3, t4, t5, t6, t7, t8⟩ := id hT
  have hbr : gBreaks (160 + 8 * i + k) V = true ↔ 10 ≤ sV T (1160 + 8 * i + k) 612 ∧ sV T (1160 + 8 * i + k) 611 < 3 := by
    unfold gBreaks
    rw [Bool.and_eq_true, decide_eq_true_iff, decide_eq_true_iff, t4, t3, Int32.not_lt, Int32.not_le]
  by_cases hb : gBreaks (160 + 8 * i + k) V = true
  · have e1 : gEndV S i k m V = u2 (u2 V (160 + 8 * i + k) 424 1) (160 + 8 * i + k) 418 (nI m) := by
      unfold gEndV
      rw [if_pos hb]
    have e2 : fEndM T (1160 + 8 * i + k) a m = u2 (u2 (sV T) (1160 + 8 * i + k) 615 1) (1160 + 8 * i + k) 610 (nI m) := by
      unfold fEndM
      rw [if_pos (hbr.mp hb)]
    rw [e1, e2]
    refine ⟨fun r key h1 h2 => ?_, fun r key h1 h2 => ?_, ?_, Or.inr u2_at, hmo.to (fun r => ?_) (fun r => ?_), hdy.to (fun r key _ _ => ?_) (fun r key _ => ?_), hso.to (fun r key _ => ?_)⟩
    · rw [u2_if, u2_if, if_neg (by omega), if_neg (by omega)]
    · rw [u2_if, u2_if, if_neg (by omega), if_neg (by omega)]
    · unfold pT
      simp only [u2_if]
      simp
      exact ⟨t1, t3, t4, t5, t6⟩
    all_goals rw [u2_k (by omega), u2_k (by omega)]
  · have e1 : gEndV S i k m V = if nI m = V (160 + 8 * i + k) 418 then gPay3 (160 + 8 * i + k) (gPay2 S i k (gPay1 S i k m V)) else V := by
      unfold gEndV
      rw [if_neg hb]
    have e2 : fEndM T (1160 + 8 * i + k) a m = if nI m = sV T (1160 + 8 * i + k) 610 then fGv T (1160 + 8 * i + k) a (if fIn (nI m) (sV T 1001 682) (sV T 1001 683) = true then fAllM T (1160 + 8 * i + k) a / 2 else fAllM T (1160 + 8 * i + k) a) else sV T := by
      unfold fEndM
      rw [if_neg (fun g => hb (hbr.mpr g))]
    rw [t2] at e2
    by_cases hl : nI m = V (160 + 8 * i + k) 418
    · rw [if_pos hl] at e1 e2
      obtain ⟨g, h1, h2, h3, h4, h5⟩ := pay_ok (m := m) hR hst hsm hmo hdy hso hi hk ha t3
      rw [e1, e2]
      generalize gPay3 (160 + 8 * i + k) (gPay2 S i k (gPay1 S i k m V)) = V2 at *
      generalize fGv T (1160 + 8 * i + k) a (if fIn (nI m) (sV T 1001 682) (sV T 1001 683) = true then fAllM T (1160 + 8 * i + k) a / 2 else fAllM T (1160 + 8 * i + k) a) = W2 at *
      have f1 : ∀ r key, key ≠ 167 ∧ key ≠ 230 ∧ key ≠ 231 → ¬ (r = 160 + 8 * i + k ∧ key = 421) → V2 r key = V r key := fun r key q1 q2 => by rw [h1, if_neg (by omega), if_neg (by omega)]
      have f2 : ∀ r key, key ≠ 550 ∧ key ≠ 688 → ¬ (r = 1160 + 8 * i + k ∧ key = 613) → W2 r key = sV T r key := fun r key q1 q2 => by rw [h2, if_neg (by omega), if_neg (by omega)]
      refine ⟨fun r key q1 q2 => f1 r key q1 (by omega), fun r key q1 q2 => f2 r key q1 (by omega), ?_, Or.inl (f1 _ _ (by omega) (by omega)), h3, h4, h5⟩
      unfold pT
      rw [f1 _ 423 (by omega) (by omega), f1 _ 417 (by omega) (by omega), f1 _ 418 (by omega) (by omega), f1 _ 419 (by omega) (by omega), f1 _ 420 (by omega) (by omega), f1 _ 422 (by omega) (by omega), f1 _ 424 (by omega) (by omega), f2 _ 609 (by omega) (by omega), f2 _ 610 (by omega) (by omega), f2 _ 611 (by omega) (by omega), f2 _ 612 (by omega) (by omega), f2 _ 614 (by omega) (by omega), f2 _ 615 (by omega) (by omega)]
      have g1 : V2 (160 + 8 * i + k) 421 = g := by rw [h1, if_pos ⟨rfl, rfl⟩]
      have g2 : W2 (1160 + 8 * i + k) 613 = g := by rw [h2, if_pos ⟨rfl, rfl⟩]
      exact ⟨t1, t2, t3, t4, g2.trans g1.symm, t6, t7, t8⟩
    · rw [if_neg hl] at e1 e2
      rw [e1, e2]
      exact ⟨fun _ _ _ _ => rfl, fun _ _ _ _ => rfl, hT, Or.inl rfl, hmo, hdy, hso⟩
theorem step_ok (hR : rRel S) (h6 : 600 ≤ m) (h12 : m < 1200) (hj : j < sc S 0) {D : Nat → Bool} (hD : ∀ k, t.2.1 j = some k → D j = gDrown S (sT S j k) j t) (h : pStp S m j t T) :
    pStp S m (j + 1) (gStep S m j t) (if fAtM T j (nI m) < sc T (1010 + j) then wV T (fGoes T j (1160 + 8 * j + fAtM T j (nI m)) (sT S j (fAtM T j (nI m))) m (D j)) else T) := by
  obtain ⟨⟨hst, hsm⟩, hph, hT, ⟨hmo, hdy, hso⟩, hvi, hsd⟩ := h
  have hn8 := hR.bk hj
  have hj6 := hR.b0
  have hpj := hph j hj
  rw [if_neg (Nat.lt_irrefl _)] at hpj
  have ecn : sc T (1010 + j) = sc S (10 + j) := by rw [hsm.1]; exact hR.ck hj
  have hat := at_eq (T := T) hpj (fun k hk => hT j k hj hk) ecn (by omega)
  rcases hpl : t.2.1 j with _ | k
  · rw [hpl] at hat hpj
    rw [gStep_none hpl, if_neg (fun g => hat (by rw [← ecn]; exact g))]
    refine ⟨⟨hst, hsm⟩, fun i hi => ?_, hT, ⟨hmo, hdy, hso⟩, hvi, fun i x hi hx => ?_⟩
    · have hpi := hph i hi
      by_cases g : i = j
      · subst g
        rw [if_pos (by omega), hpl]
        exact pB_none hpj
      · by_cases g2 : i < j
        · rw [if_pos g2] at hpi
          rw [if_pos (by omega)]
          exact hpi
        · rw [if_neg g2] at hpi
          rw [if_neg (by omega)]
          exact hpi
    · obtain ⟨s, h1, h2⟩ := hsd i x hi hx
      refine ⟨s, h1, Nat.le_trans h2 (Nat.mul_le_mul_left _ ?_)⟩
      split <;> split <;> omega
  · rw [hpl] at hat hpj
    obtain ⟨hat1, hk⟩ := hat
    have ha := (hR.tu j k hj hk).1.1
    rw [hat1, if_pos (by rw [ecn]; exact hk), gStep_some hpl]
    obtain ⟨s, hs, hsb⟩ := hsd j k hj hk
    rw [if_neg (Nat.lt_irrefl _)] at hsb
    have hTk := hT j k hj hk
    have hplayed : ¬ t.1 (160 + 8 * j + k) 423 = 0 := by
      obtain ⟨q, b, e, ⟨g1, g2, g3, g4⟩, -, h3⟩ := hpj
      rcases h3 with ⟨h4, -⟩ | ⟨h4, h5, -⟩
      · cases h4
      · have : k = q - 1 := Option.some.inj h4
        exact (g2 k (by omega)).1
    obtain ⟨st, hst9, v1, w1⟩ := gath_ok (a := sT S j k) hR hst hsm h6 h12 hj hk rfl rfl rfl hs (by rw [hTk.2.2.1]; exact hs) (by omega)
    have ew : gWet t.1 j m = fWetM T j m := wet_eq hR hst hj
    rw [ew, ← hD k hpl] at w1
    rw [← hD k hpl] at v1
    have eGo : fGoes T j (1160 + 8 * j + k) (sT S j k) m (D j) = fEndM (wV T (fGoM T j (1160 + 8 * j + k) (sT S j k) m (fWetM T j m) (D j))) (1160 + 8 * j + k) (sT S j k) m := rfl
    rw [eGo]
    generalize gGath S j k m t = V1 at *
    generalize hW1 : fGoM T j (1160 + 8 * j + k) (sT S j k) m (fWetM T j m) (D j) = W1 at *
    have fv : ∀ r key, ¬ (r = 160 + 8 * j + k ∧ (key = 419 ∨ key = 420 ∨ key = 422)) → V1 r key = t.1 r key := fun r key q => by rw [v1, if_neg (by omega), if_neg (by omega), if_neg (by omega)]
    have fw : ∀ r key, ¬ (r = 1160 + 8 * j + k ∧ (key = 611 ∨ key = 612 ∨ key = 614)) → W1 r key = sV T r key := fun r key q => by rw [w1, if_neg (by omega), if_neg (by omega), if_neg (by omega)]
    have hT1 : pT V1 W1 j k := by
      obtain ⟨t1, t2, t3, t4, t5, t6, t7, t8⟩ := hTk
      have a1 : V1 (160 + 8 * j + k) 419 = nI st := by rw [v1, if_neg (by omega), if_pos ⟨rfl, rfl⟩]
      have a2 : W1 (1160 + 8 * j + k) 611 = nI st := by rw [w1, if_neg (by omega), if_neg (by omega), if_pos ⟨rfl, rfl⟩]
      have a6 : V1 (160 + 8 * j + k) 420 = (if t.1 (160 + 8 * j + k) 420 < nI st then nI st else t.1 (160 + 8 * j + k) 420) := by rw [v1, if_pos ⟨rfl, rfl⟩]
      have a7 : W1 (1160 + 8 * j + k) 612 = (if sV T (1160 + 8 * j + k) 612 < nI st then nI st else sV T (1160 + 8 * j + k) 612) := by rw [w1, if_neg (by omega), if_pos ⟨rfl, rfl⟩]
      have a3 : W1 (1160 + 8 * j + k) 612 = V1 (160 + 8 * j + k) 420 := by rw [a6, a7, t4]
      have a5 : V1 (160 + 8 * j + k) 422 = t.1 (160 + 8 * j + k) 422 + (if D j = true then 1 else 0) := by rw [v1, if_neg (by omega), if_neg (by omega), if_pos ⟨rfl, rfl⟩]
      have a4 : W1 (1160 + 8 * j + k) 614 = V1 (160 + 8 * j + k) 422 := by rw [a5, w1, if_pos ⟨rfl, rfl⟩, t6]
      unfold pT
      rw [fv _ 423 (by omega), fv _ 417 (by omega), fv _ 418 (by omega), fv _ 421 (by omega), fv _ 424 (by omega), fw _ 609 (by omega), fw _ 610 (by omega), fw _ 613 (by omega), fw _ 615 (by omega)]
      exact ⟨t1, t2, a2.trans a1.symm, a3, t5, a4, t7, t8⟩
    have hst1 : pSt S V1 W1 := hst.to (fun r key hk => fv r key (by unfold dC at hk; omega)) (fun r key _ hk => fw r key (by unfold dM at hk; omega))
    have hE := end_ok (m := m) (V := V1) (T := wV T W1) (a := sT S j k) hR hst1 hsm (hmo.to (fun r => fv r _ (by omega)) (fun r => fw r _ (by omega))) (hdy.to (fun r key _ _ => fv r _ (by omega)) (fun r key _ => fw r _ (by omega))) (hso.to (fun r key _ => fv r _ (by omega))) hj hk rfl hT1 (by rw [fv _ 423 (by omega)]; exact hplayed)
    generalize gEndV S j k m V1 = V2 at *
    generalize fEndM (wV T W1) (1160 + 8 * j + k) (sT S j k) m = W2 at *
    obtain ⟨f1, f2, hT2, h418, hmo2, hdy2, hso2⟩ := hE
    have gv : ∀ r key, key ≠ 167 ∧ key ≠ 230 ∧ key ≠ 231 → ¬ (r = 160 + 8 * j + k ∧ 418 ≤ key ∧ key ≤ 424 ∧ key ≠ 423) → V2 r key = t.1 r key := fun r key q1 q2 => by rw [f1 r key q1 (by omega), fv r key (by omega)]
    have gw : ∀ r key, key ≠ 550 ∧ key ≠ 688 → ¬ (r = 1160 + 8 * j + k ∧ 610 ≤ key ∧ key ≤ 615) → W2 r key = sV T r key := fun r key q1 q2 => by rw [f2 r key q1 (by omega)]; exact fw r key (by omega)
    refine ⟨⟨hst.to (fun r key hk => gv r key (by unfold dC at hk; omega) (by unfold dC at hk; omega)) (fun r key _ hk => gw r key (by unfold dM at hk; omega) (by unfold dM at hk; omega)), hsm⟩, fun i hi => ?_, fun i x hi hx => ?_, ⟨hmo2, hdy2, hso2⟩, hvi.to (fun r key hk => gv r key (by omega) (by omega)) (fun r key hk => gw r key (by omega) (by omega)), fun i x hi hx => ?_⟩
    · have hpi := hph i hi
      show if i < j + 1 then pA V2 (t.2.1 i) (t.2.2 i) i (sc S (10 + i)) (m + 1) else pB V2 (t.2.1 i) (t.2.2 i) i (sc S (10 + i)) m
      have hni := hR.bk hi
      by_cases g : i = j
      · subst g
        rw [if_pos (by omega), hpl]
        rcases h418 with h418 | h418
        · refine (pB_some hpj).to (fun x key hx hkey => ?_) (gv _ _ (by omega) (by omega))
          by_cases c : x = k ∧ key = 418
          · obtain ⟨rfl, rfl⟩ := c
            rw [h418, fv _ 418 (by omega)]
          · exact gv _ _ (by omega) (by omega)
        · exact pB_brk hpj (fun x key hx hkey hne => gv _ _ (by omega) (by omega)) (gv _ _ (by omega) (by omega)) h418 h12
      · by_cases g2 : i < j
        · rw [if_pos g2] at hpi
          rw [if_pos (by omega)]
          exact hpi.to (fun x key hx hkey => gv _ _ (by omega) (by omega)) (gv _ _ (by omega) (by omega))
        · rw [if_neg g2] at hpi
          rw [if_neg (by omega)]
          exact hpi.to (fun x key hx hkey => gv _ _ (by omega) (by omega)) (gv _ _ (by omega) (by omega))
    · by_cases g : i = j ∧ x = k
      · obtain ⟨rfl, rfl⟩ := g
        exact hT2
      · have hni := hR.bk hi
        exact (hT i x hi hx).to (fun key _ _ => gv _ _ (by omega) (by omega)) (fun key _ _ => gw _ _ (by omega) (by omega))
    · by_cases g : i = j ∧ x = k
      · obtain ⟨rfl, rfl⟩ := g
        refine ⟨st, ?_, ?_⟩
        · show V2 (160 + 8 * i + x) 419 = nI st
          rw [f1 _ 419 (by omega) (by omega), v1, if_neg (by omega), if_pos ⟨rfl, rfl⟩]
        · rw [if_pos (by omega)]
          omega
      · have hni := hR.bk hi
        obtain ⟨s', h1, h2⟩ := hsd i x hi hx
        refine ⟨s', ?_, Nat.le_trans h2 (Nat.mul_le_mul_left _ ?_)⟩
        · show V2 (160 + 8 * i + x) 419 = nI s'
          rw [gv _ _ (by omega) (by omega)]
          exact h1
        · split <;> split <;> omega
end ZPL8
