/-! THE DAY 9: a whole minute, a whole day -/
section ZPL9
variable {S T T0 : zSt} {V V' W W' : Nat → Nat → Int32} {m i j k n a p nx : Nat} {t t' : zVp}
theorem gVisAll_pl : ∀ n, (gVisAll S m n t).2 = t.2
  | 0 => rfl
  | n + 1 => gVis_pl.trans (gVisAll_pl n)
theorem gStep_pl : (gStep S m j t).2 = t.2 := by
  unfold gStep
  split <;> rfl
theorem gStepAll_pl : ∀ n, (gStepAll S m n t).2 = t.2
  | 0 => rfl
  | n + 1 => gStep_pl.trans (gStepAll_pl n)
theorem fVsA_sm {A : Nat → Nat → Nat} {B : Nat → Nat} : ∀ n, pSm T (fVsA T A B m n)
  | 0 => ⟨rfl, rfl⟩
  | n + 1 => fVsA_sm n
theorem mM2_is (hR : rRel S) (hsm : pSm S T) : mM2 T (sT S) (sP S) m = fVsA (fB1 T (sT S) m (sc S 0)) (sT S) (sP S) m (sc S 2) := by
  unfold mM2 mM1
  rw [hsm.1, hR.c0, hR.c2]
theorem min_stp (hR : rRel S) (h6 : 600 ≤ m) (h12 : m < 1200) (h : pRel S m t T) : ∀ k, k ≤ sc S 0 → pStp S m k (gStepAll S m k (gVisAll S m (sc S 2) (gMinAll S m (sc S 0) t))) (mM4 T (sT S) (sP S) m k) := by
  have h1 := open_all hR h6 h12 h
  have h2 := vis_all hR h6 h12 h1
  rw [← mM2_is hR h.1.2] at h2
  generalize gVisAll S m (sc S 2) (gMinAll S m (sc S 0) t) = t2 at *
  have hsm2 : pSm S (mM2 T (sT S) (sP S) m) := h2.1.2
  have hst2 := h2.1.1
  have hD : ∀ j k, j < sc S 0 → t2.2.1 j = some k → fDrk (mM2 T (sT S) (sP S) m) (sT S) m j = gDrown S (sT S j k) j t2 := by
    intro j k hj hpl
    have hat := mid_at hR hsm2 h2.2.1 h2.2.2.1 (by omega) hj
    rw [hpl] at hat
    have hk : k < sc S (10 + j) := by
      have := hat.2
      rw [hsm2.1, hR.ck hj] at this
      exact this
    unfold fDrk
    rw [hat.1, decide_eq_true hat.2, Bool.true_and]
    exact drown_eq hR hst2 hsm2 h2.2.1 h2.2.2.1 (by omega) hj ((hR.tu j k hj hk).1.1)
  intro k
  induction k with
  | zero =>
    intro _
    obtain ⟨a1, a2, a3, a4, a5, a6⟩ := h2
    have e0 : sc (mM3 T (sT S) (sP S) m) = sc S := h.1.2.1
    refine ⟨⟨a1.1, ⟨e0, a1.2.2⟩⟩, fun i hi => ?_, a3, a4, a5, fun i x hi hx => ?_⟩
    · rw [if_neg (Nat.not_lt_zero _)]
      exact a2 i hi
    · rw [if_neg (Nat.not_lt_zero _)]
      exact a6 i x hi hx
  | succ k ih =>
    intro hk
    have hs := ih (by omega)
    refine step_ok (D := fDrk (mM2 T (sT S) (sP S) m) (sT S) m) hR h6 h12 (by omega) (fun x hx => ?_) hs
    have hpl : (gStepAll S m k t2).2 = t2.2 := gStepAll_pl k
    have hx : t2.2.1 k = some x := by
      rw [← hpl]
      exact hx
    rw [hD k x (by omega) hx]
    exact (drown_to (fun r key hkey => (hs.1.1.1 r key hkey).trans (hst2.1 r key hkey).symm) hpl).symm
theorem minute_ok (hR : rRel S) (h6 : 600 ≤ m) (h12 : m < 1200) (h : pRel S m t T) : pRel S (m + 1) (gMinute S m t) (mM4 T (sT S) (sP S) m (sc T 1000)) := by
  rw [show sc T 1000 = sc S 0 by rw [h.1.2.1, hR.c0]]
  obtain ⟨a1, a2, a3, a4, a5, a6⟩ := min_stp hR h6 h12 h (sc S 0) (Nat.le_refl _)
  refine ⟨a1, fun i hi => ?_, a3, a4, a5, fun i x hi hx => ?_⟩
  · have := a2 i hi
    rw [if_pos hi] at this
    exact this
  · have := a6 i x hi hx
    rw [if_pos hi] at this
    exact this
/-- the class's day, minute by minute -/
def gTj (S : zSt) (j : Nat) : zVp := zit (fun j t => gMinute S (600 + j) t) j (gDay0 S)
theorem day_rel (hR : rRel S) (h0 : pRel S 600 (gDay0 S) T0) : ∀ j, j ≤ 600 → pRel S (600 + j) (gTj S j) (mPl T0 (sT S) (sP S) j)
  | 0, _ => h0
  | j + 1, hj => by
    have := minute_ok hR (show 600 ≤ 600 + j by omega) (by omega) (day_rel hR h0 j (by omega))
    rw [mPl_c] at this
    exact this
-- the day that is over
theorem over_one (h : gOver S i t = true) : t.2.1 i = none ∧ ¬ t.2.2 i < sc S (10 + i) := by
  unfold gOver at h
  split at h
  · rename_i h9
    exact ⟨h9, of_decide_eq_true h⟩
  · cases h
theorem over_all (h : gAllOver S t = true) (hi : i < sc S 0) : gOver S i t = true := by
  unfold gAllOver at h
  rcases hg : gOver S i t with _ | _
  · have : zany (fun i => !gOver S i t) (sc S 0) = true := zany_iff.mpr ⟨i, hi, by rw [hg]; rfl⟩
    rw [this] at h
    cases h
  · rfl
theorem over_same (hR : rRel S) (h : gAllOver S t = true) : gMinute S m t = t := by
  have e1 : ∀ j, j ≤ sc S 0 → gMinAll S m j t = t := by
    intro j
    induction j with
    | zero => intro _; rfl
    | succ j ih =>
      intro hj
      show gMin S j m (gMinAll S m j t) = t
      rw [ih (by omega)]
      obtain ⟨g1, g2⟩ := over_one (over_all h (show j < sc S 0 by omega))
      show gStart S j m (gClose j m t) = t
      rw [gClose_none g1]
      exact gStart_no g1 (fun q => g2 q.2)
  have e2 : ∀ j, j ≤ sc S 2 → gVisAll S m j t = t := by
    intro j
    induction j with
    | zero => intro _; rfl
    | succ j ih =>
      intro hj
      show gVis S m j (gVisAll S m j t) = t
      rw [ih (by omega)]
      exact gVis_none (over_one (over_all h ((hR.vi j (by omega)).1.1))).1
  have e3 : ∀ j, j ≤ sc S 0 → gStepAll S m j t = t := by
    intro j
    induction j with
    | zero => intro _; rfl
    | succ j ih =>
      intro hj
      show gStep S m j (gStepAll S m j t) = t
      rw [ih (by omega)]
      exact gStep_none (over_one (over_all h (show j < sc S 0 by omega))).1
  unfold gMinute
  rw [e1 _ (Nat.le_refl _), e2 _ (Nat.le_refl _), e3 _ (Nat.le_refl _)]
theorem run_eq (hR : rRel S) : ∀ j, gRun S j (gDay0 S) = gTj S j
  | 0 => rfl
  | j + 1 => by
    show (if gAllOver S (gRun S j (gDay0 S)) = true then gRun S j (gDay0 S) else gMinute S (600 + j) (gRun S j (gDay0 S))) = gMinute S (600 + j) (gTj S j)
    rw [run_eq hR j]
    split
    · rename_i h
      exact (over_same hR h).symm
    · rfl
theorem fOD_fr {r key : Nat} (hk : key ≠ 357 ∧ key ≠ 358) : ∀ j, fOD j V r key = V r key
  | 0 => rfl
  | j + 1 => by
    show u2 (u2 (fOD j V) (100 + j) 357 0) (100 + j) 358 600 r key = _
    rw [u2_k hk.2, u2_k hk.1]
    exact fOD_fr hk j
theorem fOD_358 : ∀ j, i < j → fOD j V (100 + i) 358 = 600
  | j + 1, h => by
    show u2 (u2 (fOD j V) (100 + j) 357 0) (100 + j) 358 600 (100 + i) 358 = _
    rw [u2_if]
    by_cases g : i = j
    · rw [if_pos ⟨rfl, by omega⟩]
    · rw [if_neg (by omega), u2_k (by omega)]
      exact fOD_358 j (by omega)
/-- as the day begins -/
theorem base_ok (hR : rRel S) (h0 : sV S 7 228 = 0) (hc : sc T0 = sc S) (hW : sW T0 = sW S) (hV : ∀ r k, 544 ≤ k → k ≠ 672 → k ≠ 688 → k ≠ 680 → sV T0 r k = sV S r k) (h8 : sV T0 1001 688 = 0) : pRel S 600 (gDay0 S) T0 := by
  have f : ∀ r key, key ≠ 357 ∧ key ≠ 358 → (gDay0 S).1 r key = sV S r key := fun r key hk => fOD_fr hk _
  have hfr := hR.fr h0
  refine ⟨⟨⟨fun r key hk => f r key (by unfold dC at hk; omega), fun r key h5 hk => hV r key h5 (by unfold dM at hk; omega) (by unfold dM at hk; omega) (by unfold dM at hk; omega)⟩, hc, hW⟩, fun i hi => ?_, fun i x hi hx => ?_, ⟨fun a ha => ?_, ⟨?_, ?_⟩, ?_⟩, fun i hi => ⟨?_, fun x h1 h2 h3 => ?_⟩, fun i x hi hx => ?_⟩
  · refine ⟨0, fun _ => 0, fun _ => 0, ⟨Nat.zero_le _, fun k hk => absurd hk (Nat.not_lt_zero _), fun k hk => absurd hk (by omega), fun k _ hk => ?_⟩, fun k hk => absurd hk (by omega), Or.inl ⟨rfl, fun g => absurd g (Nat.lt_irrefl _), Or.inl ⟨rfl, fOD_358 _ hi, Nat.le_refl _⟩⟩⟩
    rw [f _ 423 (by omega)]
    exact (hfr.1 i k hi hk).1
  · obtain ⟨-, ⟨t1, -⟩, t2, t3, t4, t5, t6, t7, t8⟩ := hR.tu i x hi hx
    unfold pT
    rw [f _ 423 (by omega), f _ 417 (by omega), f _ 418 (by omega), f _ 419 (by omega), f _ 420 (by omega), f _ 421 (by omega), f _ 422 (by omega), f _ 424 (by omega), hV _ 609 (by omega) (by omega) (by omega) (by omega), hV _ 610 (by omega) (by omega) (by omega) (by omega), hV _ 611 (by omega) (by omega) (by omega) (by omega), hV _ 612 (by omega) (by omega) (by omega) (by omega), hV _ 613 (by omega) (by omega) (by omega) (by omega), hV _ 614 (by omega) (by omega) (by omega) (by omega), hV _ 615 (by omega) (by omega) (by omega) (by omega)]
    exact ⟨t1, t2, t3, t4, t5, t6, t7, t8⟩
  · rw [f _ 167 (by omega), hV _ 550 (by omega) (by omega) (by omega) (by omega)]
    exact (hR.ac a ha).2.2.2.2.2.2.2
  · rw [f _ 230 (by omega), h8]
    exact (hR.da.2.1.2 h0).symm
  · rw [f _ 232 (by omega), hV _ 689 (by omega) (by omega) (by omega) (by omega)]
    exact hR.da.1.2.2
  · show fMoney (wV S (gDay0 S).1) (sc S 1) = _
    rw [fMoney_to (V := sV S) (fun a => f _ 167 (by omega)), f _ 231 (by omega), f _ 232 (by omega)]
    exact hR.so.1
  · obtain ⟨-, -, ⟨g1, g2⟩, g3⟩ := hR.vi i hi
    rw [f _ 450 (by omega), f _ 451 (by omega), hV _ 642 (by omega) (by omega) (by omega) (by omega), hV _ 643 (by omega) (by omega) (by omega) (by omega)]
    exact ⟨g1, g2, g3⟩
  · rw [f _ 450 (by omega), f _ 451 (by omega)]
    exact hfr.2 i hi
  · refine ⟨0, ?_, Nat.zero_le _⟩
    rw [f _ 419 (by omega)]
    exact (hfr.1 i x hi hx).2.2.1
end ZPL9
