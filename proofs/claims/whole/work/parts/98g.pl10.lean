/-! THE DAY 10: after the day class and reference stand as before it -/
def dP (k : Nat) : Prop := k = 550 ∨ (609 ≤ k ∧ k ≤ 615) ∨ k = 642 ∨ k = 643 ∨ k = 688 ∨ k = 689
section ZPLA
variable {S T T0 : zSt} {V V' V2 W W' : Nat → Nat → Int32} {m i j k n a p nx : Nat} {t t' : zVp} {A : Nat → Nat → Nat} {B : Nat → Nat}
theorem fGoes_k {dr : Bool} {r key x : Nat} (h : ¬ dP key) : fGoes T i x a m dr r key = sV T r key := by
  unfold dP at h
  have e : sV (wV T (fGoM T i x a m (fWetM T i m) dr)) r key = sV T r key := by
    show fGoM T i x a m (fWetM T i m) dr r key = _
    unfold fGoM
    rw [u2_k (by omega), u2_k (by omega), u2_k (by omega)]
  unfold fGoes fEndM
  split
  · rw [u2_k (by omega), u2_k (by omega)]
    exact e
  · split
    · rw [fGv_k (by omega) (by omega) (by omega)]
      exact e
    · exact e
theorem fG3_k {D : Nat → Bool} {r key : Nat} (h : ¬ dP key) : ∀ k, sV (fG3 T A D m k) r key = sV T r key
  | 0 => rfl
  | k + 1 => by
    have ih : sV (fG3 T A D m k) r key = sV T r key := fG3_k h k
    have e : fG3 T A D m (k + 1) = if fAtM (fG3 T A D m k) k (nI m) < sc (fG3 T A D m k) (1010 + k) then wV (fG3 T A D m k) (fGoes (fG3 T A D m k) k (1160 + 8 * k + fAtM (fG3 T A D m k) k (nI m)) (A k (fAtM (fG3 T A D m k) k (nI m))) m (D k)) else fG3 T A D m k := rfl
    rw [e]
    split
    · exact (fGoes_k h).trans ih
    · exact ih
theorem mM4_k {r key : Nat} (h : ¬ dP key) : sV (mM4 T A B m k) r key = sV T r key := by
  refine (fG3_k h k).trans ?_
  have h9 := h
  unfold dP at h9
  show sV (mM2 T A B m) r key = _
  exact (fVsA_k (by omega) (by omega) (by omega) (by omega) _).trans (fB1_k (by omega) (by omega) _)
theorem mPl_k {r key : Nat} (h : ¬ dP key) : ∀ j, sV (mPl T A B j) r key = sV T r key
  | 0 => rfl
  | j + 1 => (mM4_k h).trans (mPl_k h j)
theorem fB1_T : ∀ k, sT (fB1 T A m k) = sT T
  | 0 => rfl
  | k + 1 => fB1_T k
theorem fVsA_T : ∀ k, sT (fVsA T A B m k) = sT T
  | 0 => rfl
  | k + 1 => fVsA_T k
theorem fG3_TW {D : Nat → Bool} : ∀ k, sT (fG3 T A D m k) = sT T ∧ sW (fG3 T A D m k) = sW T
  | 0 => ⟨rfl, rfl⟩
  | k + 1 => by
    have ih : sT (fG3 T A D m k) = sT T ∧ sW (fG3 T A D m k) = sW T := fG3_TW k
    have e : fG3 T A D m (k + 1) = if fAtM (fG3 T A D m k) k (nI m) < sc (fG3 T A D m k) (1010 + k) then wV (fG3 T A D m k) (fGoes (fG3 T A D m k) k (1160 + 8 * k + fAtM (fG3 T A D m k) k (nI m)) (A k (fAtM (fG3 T A D m k) k (nI m))) m (D k)) else fG3 T A D m k := rfl
    rw [e]
    split
    · exact ih
    · exact ih
theorem mM4_TW : sT (mM4 T A B m k) = sT T ∧ sW (mM4 T A B m k) = sW T := by
  have h := fG3_TW (T := mM3 T A B m) (A := A) (D := fDrk (mM2 T A B m) A m) (m := m) k
  refine ⟨h.1.trans ?_, h.2.trans ?_⟩
  · show sT (mM2 T A B m) = _
    exact (fVsA_T _).trans (fB1_T _)
  · show sW (mM2 T A B m) = _
    exact (fVsA_sm _).2.trans (fB1_sm _).2
theorem mPl_TW : ∀ j, sT (mPl T A B j) = sT T ∧ sW (mPl T A B j) = sW T
  | 0 => ⟨rfl, rfl⟩
  | j + 1 => ⟨mM4_TW.1.trans (mPl_TW j).1, mM4_TW.2.trans (mPl_TW j).2⟩
/-- a pitch's turns lie apart -/
theorem apart_ok {q : Nat} {b e : Nat → Nat} (h : pPre (sV S) i (sc S (10 + i)) q b e) : fApart S i := by
  obtain ⟨h1, h2, h3, h4⟩ := h
  have hov : ∀ k, k ≤ q → fOver S i k = if k = 0 then 599 else nI (e (k - 1)) := by
    intro k
    induction k with
    | zero => intro _; rfl
    | succ k ih =>
      intro hk
      show (if sV S (160 + 8 * i + k) 423 = 0 then fOver S i k else sV S (160 + 8 * i + k) 418) = _
      rw [if_neg (h2 k (by omega)).1, if_neg (by omega), (h2 k (by omega)).2.2.1]
      rfl
  intro k hk hp
  have hkq : k < q := by
    rcases Nat.lt_or_ge k q with g | g
    · exact g
    · exact absurd (h4 k g hk) hp
  obtain ⟨g1, g2, g3, g4, g5, g6⟩ := h2 k hkq
  rw [g2, g3, hov k (by omega)]
  refine ⟨?_, nI_nlt (by omega) (by omega)⟩
  by_cases c : k = 0
  · rw [if_pos c]
    exact nI_ge (a := 599) (by omega) (by omega)
  · rw [if_neg c]
    have := h3 (k - 1) (by omega)
    rw [show k - 1 + 1 = k by omega] at this
    exact nI_ge this (by omega)
/-- the relation after the day -/
theorem day_end (hR : rRel S) (h : pRel S 1200 t T) (e1 : ∀ r k, k < 544 → V2 r k = if k = 228 ∧ r = 7 then 1 else t.1 r k) (e2 : ∀ r k, 544 ≤ k → V2 r k = sV T r k) (h680 : V2 1001 680 = 1) : rRel (wV S V2) := by
  obtain ⟨⟨hst, hsm⟩, hA, hT, ⟨hmo, hdy, hso⟩, hvi, -⟩ := h
  have fs : ∀ r k, ¬ dC k → ¬ k = 228 → k < 544 → V2 r k = sV S r k := fun r k h1 h2 h3 => by rw [e1 r k h3, if_neg (fun q => h2 q.1)]; exact hst.1 r k h1
  have fd : ∀ r k, ¬ k = 228 → k < 544 → V2 r k = t.1 r k := fun r k h2 h3 => by rw [e1 r k h3, if_neg (fun q => h2 q.1)]
  have fm : ∀ r k, 544 ≤ k → ¬ dM k → V2 r k = sV S r k := fun r k h1 h2 => (e2 r k h1).trans (hst.2 r k h1 h2)
  have h228 : V2 7 228 = 1 := by rw [e1 7 228 (by decide), if_pos ⟨rfl, rfl⟩]
  refine ⟨⟨hR.ct, fun i hi => ?_, fun a ha => ?_, fun a ha => ?_, hR.cu⟩, ⟨fun i k hi hk => ?_, hR.on, fun j hj => ?_, ?_⟩, ?_, ?_, ?_, ?_, hR.p10⟩
  · have g := hR.pi i hi
    show ((V2 (1100 + i) 576 = V2 (100 + i) 352 ∧ rN (V2 (100 + i) 352) 0 99) ∧ (V2 (1100 + i) 577 = V2 (100 + i) 353 ∧ rN (V2 (100 + i) 353) 0 9) ∧ V2 (1100 + i) 578 = V2 (100 + i) 354) ∧ _
    rw [fm _ 576 (by omega) (by unfold dM; omega), fm _ 577 (by omega) (by unfold dM; omega), fm _ 578 (by omega) (by unfold dM; omega), fs _ 352 (by unfold dC; omega) (by omega) (by omega), fs _ 353 (by unfold dC; omega) (by omega) (by omega), fs _ 354 (by unfold dC; omega) (by omega) (by omega)]
    exact g
  · have g := hR.ac a ha
    have hm := hmo a ha
    show V2 (140 + a) 160 = nI a ∧ (V2 (1140 + a) 544 = V2 (140 + a) 161 ∧ rN (V2 (140 + a) 161) 5 60) ∧ (V2 (1140 + a) 545 = V2 (140 + a) 162 ∧ rN (V2 (140 + a) 162) 0 9) ∧ (V2 (1140 + a) 546 = V2 (140 + a) 163 ∧ rN (V2 (140 + a) 163) 1 9) ∧ V2 (1140 + a) 548 = V2 (140 + a) 164 ∧ (V2 (1140 + a) 547 = V2 (140 + a) 165 ∧ rN (V2 (140 + a) 165) 1 9) ∧ (V2 (1140 + a) 549 = V2 (140 + a) 166 ∧ (V2 (140 + a) 166 = 0 ∨ V2 (140 + a) 166 = 1)) ∧ V2 (1140 + a) 550 = V2 (140 + a) 167
    rw [fm _ 544 (by omega) (by unfold dM; omega), fm _ 545 (by omega) (by unfold dM; omega), fm _ 546 (by omega) (by unfold dM; omega), fm _ 547 (by omega) (by unfold dM; omega), fm _ 548 (by omega) (by unfold dM; omega), fm _ 549 (by omega) (by unfold dM; omega), fs _ 160 (by unfold dC; omega) (by omega) (by omega), fs _ 161 (by unfold dC; omega) (by omega) (by omega), fs _ 162 (by unfold dC; omega) (by omega) (by omega), fs _ 163 (by unfold dC; omega) (by omega) (by omega), fs _ 164 (by unfold dC; omega) (by omega) (by omega), fs _ 165 (by unfold dC; omega) (by omega) (by omega), fs _ 166 (by unfold dC; omega) (by omega) (by omega), e2 _ 550 (by omega), fd _ 167 (by omega) (by omega), hm]
    exact ⟨g.1, g.2.1, g.2.2.1, g.2.2.2.1, g.2.2.2.2.1, g.2.2.2.2.2.1, g.2.2.2.2.2.2.1, rfl⟩
  · obtain ⟨g1, g2⟩ := hR.gr a ha
    have f551 : ∀ b, V2 (1140 + b) 551 = sV S (1140 + b) 551 := fun b => fm _ 551 (by omega) (by unfold dM; omega)
    refine ⟨?_, fun b hb => ?_⟩
    · show ∃ g, g < sc S 1 ∧ V2 (1140 + a) 551 = nI g
      rw [f551]
      exact g1
    · show bt (V2 (140 + a) 168) b = (decide (b < sc S 1) && decide (V2 (1140 + b) 551 = V2 (1140 + a) 551))
      rw [fs _ 168 (by unfold dC; omega) (by omega) (by omega), f551, f551]
      exact g2 b hb
  · obtain ⟨⟨g1, g2⟩, -⟩ := hR.tu i k hi hk
    obtain ⟨t1, t2, t3, t4, t5, t6, t7, t8⟩ := hT i k hi hk
    show (sT S i k < sc S 1 ∧ V2 (1160 + 8 * i + k) 608 = nI (sT S i k)) ∧ (V2 (1160 + 8 * i + k) 609 = (if V2 (160 + 8 * i + k) 423 = 0 then -1 else V2 (160 + 8 * i + k) 417) ∧ (¬ V2 (160 + 8 * i + k) 423 = 0 → ¬ V2 (160 + 8 * i + k) 417 = -1)) ∧ V2 (1160 + 8 * i + k) 610 = V2 (160 + 8 * i + k) 418 ∧ V2 (1160 + 8 * i + k) 611 = V2 (160 + 8 * i + k) 419 ∧ V2 (1160 + 8 * i + k) 612 = V2 (160 + 8 * i + k) 420 ∧ V2 (1160 + 8 * i + k) 613 = V2 (160 + 8 * i + k) 421 ∧ V2 (1160 + 8 * i + k) 614 = V2 (160 + 8 * i + k) 422 ∧ V2 (1160 + 8 * i + k) 615 = V2 (160 + 8 * i + k) 424 ∧ (V2 (160 + 8 * i + k) 424 = 0 ∨ V2 (160 + 8 * i + k) 424 = 1)
    rw [fm _ 608 (by omega) (by unfold dM; omega), e2 _ 609 (by omega), e2 _ 610 (by omega), e2 _ 611 (by omega), e2 _ 612 (by omega), e2 _ 613 (by omega), e2 _ 614 (by omega), e2 _ 615 (by omega), fd _ 417 (by omega) (by omega), fd _ 418 (by omega) (by omega), fd _ 419 (by omega) (by omega), fd _ 420 (by omega) (by omega), fd _ 421 (by omega) (by omega), fd _ 422 (by omega) (by omega), fd _ 423 (by omega) (by omega), fd _ 424 (by omega) (by omega)]
    refine ⟨⟨g1, g2⟩, ⟨t1, fun hp => ?_⟩, t2, t3, t4, t5, t6, t7, t8⟩
    obtain ⟨q, b, e, ⟨p1, p2, p3, p4⟩, -⟩ := hA i hi
    rcases Nat.lt_or_ge k q with g | g
    · obtain ⟨-, c2, -, -, c5, c6⟩ := p2 k g
      rw [c2]
      exact nI_nm1 (by omega)
    · exact absurd (p4 k g hk) hp
  · obtain ⟨⟨g1, g2⟩, ⟨g3, g4⟩, -⟩ := hR.vi j hj
    obtain ⟨⟨v1, v2, v3⟩, -⟩ := hvi j hj
    show (sP S j < sc S 0 ∧ V2 (1150 + j) 640 = nI (sP S j)) ∧ (V2 (1150 + j) 641 = V2 (150 + j) 449 ∧ rN (V2 (150 + j) 449) 600 1199) ∧ (V2 (1150 + j) 642 = V2 (150 + j) 450 ∧ zCh (V2 (150 + j) 450)) ∧ V2 (1150 + j) 643 = V2 (150 + j) 451
    rw [fm _ 640 (by omega) (by unfold dM; omega), fm _ 641 (by omega) (by unfold dM; omega), e2 _ 642 (by omega), e2 _ 643 (by omega), fs _ 449 (by unfold dC; omega) (by omega) (by omega), fd _ 450 (by omega) (by omega), fd _ 451 (by omega) (by omega)]
    exact ⟨⟨g1, g2⟩, ⟨g3, g4⟩, ⟨v1, v2⟩, v3⟩
  · obtain ⟨⟨g1, g2, g3⟩, g4, g5, ⟨z, z1, z2, z3, z4⟩, g6, g7⟩ := hR.lo
    refine ⟨⟨g1, g2, ?_⟩, fun j hj => ?_, ?_, ⟨z, z1, z2, ?_, ?_⟩, ?_, g7⟩
    · show V2 4 323 = _
      rw [fs _ 323 (by unfold dC; omega) (by omega) (by omega)]
      exact g3
    · obtain ⟨a, a1, a2, a3⟩ := g4 j hj
      refine ⟨a, a1, a2, ?_⟩
      show V2 (1300 + j) 32 = _
      rw [fs _ 32 (by unfold dC; omega) (by omega) (by omega)]
      exact a3
    · show V2 1001 679 = V2 4 324
      rw [fs _ 324 (by unfold dC; omega) (by omega) (by omega), fm _ 679 (by omega) (by unfold dM; omega)]
      exact g5
    · show V2 4 325 = _
      rw [fs _ 325 (by unfold dC; omega) (by omega) (by omega)]
      exact z3
    · show V2 1001 681 = _
      rw [fm _ 681 (by omega) (by unfold dM; omega)]
      exact z4
    · show V2 4 324 = 0 → _
      rw [fs _ 324 (by unfold dC; omega) (by omega) (by omega)]
      exact g6
  · have g := hR.we
    show (V2 1001 682 = V2 5 480 ∧ V2 1001 683 = V2 5 481 ∧ ((V2 5 480 = 0 ∧ V2 5 481 = -1) ∨ ∃ a b : Nat, V2 5 480 = nI a ∧ V2 5 481 = nI b ∧ a ≤ b ∧ b < 1200)) ∧ (V2 1001 684 = V2 5 482 ∧ rN (V2 5 482) 0 40) ∧ (V2 1001 685 = V2 6 288 ∧ rN (V2 6 288) 0 99) ∧ V2 1001 686 = V2 6 289 ∧ rN (V2 6 289) 0 99
    rw [fm _ 682 (by omega) (by unfold dM; omega), fm _ 683 (by omega) (by unfold dM; omega), fm _ 684 (by omega) (by unfold dM; omega), fm _ 685 (by omega) (by unfold dM; omega), fm _ 686 (by omega) (by unfold dM; omega), fs _ 480 (by unfold dC; omega) (by omega) (by omega), fs _ 481 (by unfold dC; omega) (by omega) (by omega), fs _ 482 (by unfold dC; omega) (by omega) (by omega), fs _ 288 (by unfold dC; omega) (by omega) (by omega), fs _ 289 (by unfold dC; omega) (by omega) (by omega)]
    exact g
  · obtain ⟨⟨g1, g2, g3⟩, -, g5, g6, g7⟩ := hR.da
    refine ⟨⟨?_, ?_, ?_⟩, ⟨fun _ => ?_, fun q => ?_⟩, g5, ?_, fun a a1 a2 => ?_⟩
    · show V2 1001 680 = V2 7 228
      rw [h680, h228]
    · show V2 1001 687 = V2 7 229
      rw [fm _ 687 (by omega) (by unfold dM; omega), fs _ 229 (by unfold dC; omega) (by omega) (by omega)]
      exact g2
    · show V2 1001 689 = V2 7 232
      rw [e2 _ 689 (by omega), fd _ 232 (by omega) (by omega)]
      exact hdy.2
    · show V2 1001 688 = V2 7 230
      rw [e2 _ 688 (by omega), fd _ 230 (by omega) (by omega)]
      exact hdy.1
    · have q : V2 7 228 = 0 := q
      rw [h228] at q
      exact absurd q (by decide)
    · show V2 8 257 = _
      rw [fs _ 257 (by unfold dC; omega) (by omega) (by omega)]
      exact g6
    · show V2 (1320 + (sc S 6 - a)) 32 = _
      rw [fs _ 32 (by unfold dC; omega) (by omega) (by omega)]
      exact g7 a a1 a2
  · intro q
    have q : V2 7 228 = 0 := q
    rw [h228] at q
    exact absurd q (by decide)
  · refine ⟨?_, fun i hi => ?_⟩
    · show fMoney (wV S V2) (sc S 1) = V2 7 231 - V2 7 232
      rw [fMoney_to (V := t.1) (fun a => fd _ 167 (by omega) (by omega)), fd _ 231 (by omega) (by omega), fd _ 232 (by omega) (by omega)]
      exact hso
    · obtain ⟨q, b, e, hp, -⟩ := hA i hi
      refine apart_ok (S := wV S V2) (q := q) (b := b) (e := e) (hp.to (fun k key _ hk => fd _ _ (by omega) (by omega)))
end ZPLA
