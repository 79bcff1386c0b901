/-! THE RELATION, role by role: what a thing of its own keeps where others come, go or change places -/
section ZRL2
variable {S S' : zSt}
abbrev eqV (S S' : zSt) (r : Nat) : Prop := ∀ k, k ≠ 672 → sV S' r k = sV S r k
abbrev eqW (S S' : zSt) (r : Nat) : Prop := ∀ k, sW S' r k = sW S r k
def rPi1 (S : zSt) (i : Nat) : Prop := ((sV S (1100 + i) 576 = sV S (100 + i) 352 ∧ rN (sV S (100 + i) 352) 0 99) ∧ (sV S (1100 + i) 577 = sV S (100 + i) 353 ∧ rN (sV S (100 + i) 353) 0 9) ∧ sV S (1100 + i) 578 = sV S (100 + i) 354) ∧ ∀ j, j < 10 → sW S (1110 + i) j = sW S (110 + i) j ∧ rN (sW S (110 + i) j) 0 600
theorem rPi1.ex {i : Nat} (h : rPi1 S i) (h1 : eqV S S' (100 + i)) (h2 : eqV S S' (1100 + i)) (h3 : eqW S S' (110 + i)) (h4 : eqW S S' (1110 + i)) : rPi1 S' i := by
  unfold rPi1
  rw [h2 576 (by decide), h1 352 (by decide), h2 577 (by decide), h1 353 (by decide), h2 578 (by decide), h1 354 (by decide)]
  refine ⟨h.1, fun j hj => ?_⟩
  rw [h3, h4]
  exact h.2 j hj
theorem rPi.ex (h : rPi S) (hc : sc S' 0 = sc S 0) (hV : ∀ i, i < sc S 0 → eqV S S' (100 + i) ∧ eqV S S' (1100 + i) ∧ eqW S S' (110 + i) ∧ eqW S S' (1110 + i)) : rPi S' := fun i hi => by
  rw [hc] at hi
  obtain ⟨h1, h2, h3, h4⟩ := hV i hi
  exact rPi1.ex (h i hi) h1 h2 h3 h4
def rAc1 (S : zSt) (a : Nat) : Prop := sV S (140 + a) 160 = nI a ∧ (sV S (1140 + a) 544 = sV S (140 + a) 161 ∧ rN (sV S (140 + a) 161) 5 60) ∧ (sV S (1140 + a) 545 = sV S (140 + a) 162 ∧ rN (sV S (140 + a) 162) 0 9) ∧ (sV S (1140 + a) 546 = sV S (140 + a) 163 ∧ rN (sV S (140 + a) 163) 1 9) ∧ sV S (1140 + a) 548 = sV S (140 + a) 164 ∧ (sV S (1140 + a) 547 = sV S (140 + a) 165 ∧ rN (sV S (140 + a) 165) 1 9) ∧ (sV S (1140 + a) 549 = sV S (140 + a) 166 ∧ (sV S (140 + a) 166 = 0 ∨ sV S (140 + a) 166 = 1)) ∧ sV S (1140 + a) 550 = sV S (140 + a) 167
theorem rAc1.ex {a : Nat} (h : rAc1 S a) (h1 : eqV S S' (140 + a)) (h2 : eqV S S' (1140 + a)) : rAc1 S' a := by
  unfold rAc1
  rw [h1 160 (by decide), h1 161 (by decide), h1 162 (by decide), h1 163 (by decide), h1 164 (by decide), h1 165 (by decide), h1 166 (by decide), h1 167 (by decide), h2 544 (by decide), h2 545 (by decide), h2 546 (by decide), h2 547 (by decide), h2 548 (by decide), h2 549 (by decide), h2 550 (by decide)]
  exact h
theorem rAc.ex (h : rAc S) (hc : sc S' 1 = sc S 1) (hV : ∀ a, a < sc S 1 → eqV S S' (140 + a) ∧ eqV S S' (1140 + a)) : rAc S' := fun a ha => by
  rw [hc] at ha
  exact rAc1.ex (h a ha) (hV a ha).1 (hV a ha).2
theorem rGr.ex (h : rGr S) (hc : sc S' 1 = sc S 1) (hV : ∀ a, a < sc S 1 → eqV S S' (140 + a) ∧ eqV S S' (1140 + a)) : rGr S' := fun a ha => by
  rw [hc] at ha
  obtain ⟨g1, g2⟩ := h a ha
  rw [hc, (hV a ha).2 551 (by decide)]
  refine ⟨g1, fun b hb => ?_⟩
  rw [(hV a ha).1 168 (by decide), g2 b hb]
  by_cases e : b < sc S 1
  · rw [(hV b e).2 551 (by decide)]
  · rw [decide_eq_false e]
    rfl
def rTu1 (S : zSt) (i k : Nat) : Prop := (sT S i k < sc S 1 ∧ sV S (1160 + 8 * i + k) 608 = nI (sT S i k)) ∧ (sV S (1160 + 8 * i + k) 609 = (if sV S (160 + 8 * i + k) 423 = 0 then -1 else sV S (160 + 8 * i + k) 417) ∧ (¬ sV S (160 + 8 * i + k) 423 = 0 → ¬ sV S (160 + 8 * i + k) 417 = -1)) ∧ sV S (1160 + 8 * i + k) 610 = sV S (160 + 8 * i + k) 418 ∧ sV S (1160 + 8 * i + k) 611 = sV S (160 + 8 * i + k) 419 ∧ sV S (1160 + 8 * i + k) 612 = sV S (160 + 8 * i + k) 420 ∧ sV S (1160 + 8 * i + k) 613 = sV S (160 + 8 * i + k) 421 ∧ sV S (1160 + 8 * i + k) 614 = sV S (160 + 8 * i + k) 422 ∧ sV S (1160 + 8 * i + k) 615 = sV S (160 + 8 * i + k) 424 ∧ (sV S (160 + 8 * i + k) 424 = 0 ∨ sV S (160 + 8 * i + k) 424 = 1)
theorem rTu1.ex {i k i' k' : Nat} (h : rTu1 S i k) (hc : sc S 1 ≤ sc S' 1) (hT : sT S' i' k' = sT S i k) (h1 : ∀ key, key ≠ 672 → sV S' (160 + 8 * i' + k') key = sV S (160 + 8 * i + k) key) (h2 : ∀ key, key ≠ 672 → sV S' (1160 + 8 * i' + k') key = sV S (1160 + 8 * i + k) key) : rTu1 S' i' k' := by
  unfold rTu1
  rw [hT, h1 417 (by decide), h1 418 (by decide), h1 419 (by decide), h1 420 (by decide), h1 421 (by decide), h1 422 (by decide), h1 423 (by decide), h1 424 (by decide), h2 608 (by decide), h2 609 (by decide), h2 610 (by decide), h2 611 (by decide), h2 612 (by decide), h2 613 (by decide), h2 614 (by decide), h2 615 (by decide)]
  exact ⟨⟨Nat.lt_of_lt_of_le h.1.1 hc, h.1.2⟩, h.2⟩
theorem rTu.ex (h : rTu S) (h0 : sc S' 0 = sc S 0) (hk : ∀ i, i < sc S 0 → sc S' (10 + i) = sc S (10 + i)) (hc : sc S 1 ≤ sc S' 1) (hT : ∀ i k, i < sc S 0 → k < sc S (10 + i) → sT S' i k = sT S i k) (hV : ∀ i k, i < sc S 0 → k < sc S (10 + i) → eqV S S' (160 + 8 * i + k) ∧ eqV S S' (1160 + 8 * i + k)) : rTu S' := fun i k hi hk' => by
  rw [h0] at hi
  rw [hk i hi] at hk'
  exact rTu1.ex (h i k hi hk') hc (hT i k hi hk') (hV i k hi hk').1 (hV i k hi hk').2
theorem rOn.ex (h : rOn S) (h0 : sc S' 0 = sc S 0) (hk : ∀ i, i < sc S 0 → sc S' (10 + i) = sc S (10 + i)) (hT : ∀ i k, i < sc S 0 → k < sc S (10 + i) → sT S' i k = sT S i k) : rOn S' := fun i j k m hi hj hk' hm hne => by
  rw [h0] at hi hj
  rw [hk i hi] at hk'
  rw [hk j hj] at hm
  rw [hT i k hi hk', hT j m hj hm]
  exact h i j k m hi hj hk' hm hne
def rVi1 (S : zSt) (j : Nat) : Prop := (sP S j < sc S 0 ∧ sV S (1150 + j) 640 = nI (sP S j)) ∧ (sV S (1150 + j) 641 = sV S (150 + j) 449 ∧ rN (sV S (150 + j) 449) 600 1199) ∧ (sV S (1150 + j) 642 = sV S (150 + j) 450 ∧ zCh (sV S (150 + j) 450)) ∧ sV S (1150 + j) 643 = sV S (150 + j) 451
theorem rVi1.ex {j : Nat} (h : rVi1 S j) (hc : sc S 0 ≤ sc S' 0) (hP : sP S' j = sP S j) (h1 : eqV S S' (150 + j)) (h2 : eqV S S' (1150 + j)) : rVi1 S' j := by
  unfold rVi1
  rw [hP, h1 449 (by decide), h1 450 (by decide), h1 451 (by decide), h2 640 (by decide), h2 641 (by decide), h2 642 (by decide), h2 643 (by decide)]
  exact ⟨⟨Nat.lt_of_lt_of_le h.1.1 hc, h.1.2⟩, h.2⟩
theorem rVi.ex (h : rVi S) (h2 : sc S' 2 = sc S 2) (h0 : sc S 0 ≤ sc S' 0) (hP : ∀ j, j < sc S 2 → sP S' j = sP S j) (hV : ∀ j, j < sc S 2 → eqV S S' (150 + j) ∧ eqV S S' (1150 + j)) : rVi S' := fun j hj => by
  rw [h2] at hj
  exact rVi1.ex (h j hj) h0 (hP j hj) (hV j hj).1 (hV j hj).2
theorem rLo.ex (h : rLo S) (h3 : sc S' 1003 = sc S 1003) (h1 : sc S 1 ≤ sc S' 1) (hV4 : eqV S S' 4) (hVM : eqV S S' 1001) (hV : ∀ j, j < sc S 1003 → sV S' (1300 + j) 32 = sV S (1300 + j) 32) (hW : ∀ r, r = 11 ∨ r = 12 → eqW S S' r) : rLo S' := by
  obtain ⟨⟨g1, g1', g1''⟩, g2, g3, g4, g5, g6⟩ := h
  unfold rLo
  rw [h3, hV4 323 (by decide), hV4 324 (by decide), hV4 325 (by decide), hVM 679 (by decide), hVM 681 (by decide)]
  refine ⟨⟨g1, by omega, g1''⟩, fun j hj => ?_, g3, g4, g5, fAllow_to g6 (fun r j hr => hW r hr j)⟩
  obtain ⟨a, a1, a2, a3⟩ := g2 j hj
  refine ⟨a, by omega, ?_, ?_⟩
  · rw [hW 11 (Or.inl rfl)]; exact a2
  · rw [hV j hj]; exact a3
theorem rWe.ex (h : rWe S) (h5 : eqV S S' 5) (h6 : eqV S S' 6) (hM : eqV S S' 1001) : rWe S' := by
  unfold rWe
  rw [h5 480 (by decide), h5 481 (by decide), h5 482 (by decide), h6 288 (by decide), h6 289 (by decide), hM 682 (by decide), hM 683 (by decide), hM 684 (by decide), hM 685 (by decide), hM 686 (by decide)]
  exact h
theorem rDa.ex (h : rDa S) (hc : sc S' 6 = sc S 6) (h7 : eqV S S' 7) (h8 : eqV S S' 8) (hM : eqV S S' 1001) (hV : ∀ a, 1 ≤ a → a ≤ sc S 6 → sV S' (1320 + (sc S 6 - a)) 32 = sV S (1320 + (sc S 6 - a)) 32) (hW : eqW S S' 14) : rDa S' := by
  unfold rDa
  rw [hc, h7 228 (by decide), h7 229 (by decide), h7 230 (by decide), h7 232 (by decide), h8 257 (by decide), hM 680 (by decide), hM 687 (by decide), hM 688 (by decide), hM 689 (by decide)]
  obtain ⟨g1, g2, g3, g4, g5⟩ := h
  refine ⟨g1, g2, g3, g4, fun a a1 a2 => ?_⟩
  rw [hV a a1 a2, hW]
  exact g5 a a1 a2
def rFrT (S : zSt) (i k : Nat) : Prop := sV S (160 + 8 * i + k) 423 = 0 ∧ sV S (160 + 8 * i + k) 418 = 0 ∧ sV S (160 + 8 * i + k) 419 = 0 ∧ sV S (160 + 8 * i + k) 420 = 0 ∧ sV S (160 + 8 * i + k) 421 = 0 ∧ sV S (160 + 8 * i + k) 422 = 0 ∧ sV S (160 + 8 * i + k) 424 = 0
theorem rFrT.ex {i k i' k' : Nat} (h : rFrT S i k) (h1 : ∀ key, key ≠ 672 → sV S' (160 + 8 * i' + k') key = sV S (160 + 8 * i + k) key) : rFrT S' i' k' := by
  unfold rFrT
  rw [h1 418 (by decide), h1 419 (by decide), h1 420 (by decide), h1 421 (by decide), h1 422 (by decide), h1 423 (by decide), h1 424 (by decide)]
  exact h
theorem rFr.ex (h : rFr S) (h7 : eqV S S' 7) (h0 : sc S' 0 = sc S 0) (hk : ∀ i, i < sc S 0 → sc S' (10 + i) = sc S (10 + i)) (h2 : sc S' 2 = sc S 2) (hV : ∀ i k, i < sc S 0 → k < sc S (10 + i) → eqV S S' (160 + 8 * i + k)) (hV2 : ∀ j, j < sc S 2 → eqV S S' (150 + j)) : rFr S' := by
  intro q
  rw [h7 228 (by decide)] at q
  obtain ⟨g1, g2⟩ := h q
  refine ⟨fun i k hi hk' => ?_, fun j hj => ?_⟩
  · rw [h0] at hi
    rw [hk i hi] at hk'
    exact rFrT.ex (S := S) (g1 i k hi hk') (hV i k hi hk')
  · rw [h2] at hj
    rw [hV2 j hj 450 (by decide), hV2 j hj 451 (by decide)]
    exact g2 j hj
theorem fMoney_ex : ∀ n, (∀ a, a < n → eqV S S' (140 + a)) → fMoney S' n = fMoney S n
  | 0, _ => rfl
  | n + 1, h => by
    show fMoney S' n + sV S' (140 + n) 167 = fMoney S n + sV S (140 + n) 167
    rw [fMoney_ex n (fun a ha => h a (by omega)), h n (by omega) 167 (by decide)]
theorem fOver_ex {i i' : Nat} : ∀ n, (∀ k, k < n → ∀ key, key ≠ 672 → sV S' (160 + 8 * i' + k) key = sV S (160 + 8 * i + k) key) → fOver S' i' n = fOver S i n
  | 0, _ => rfl
  | n + 1, h => by
    show (if sV S' (160 + 8 * i' + n) 423 = 0 then fOver S' i' n else sV S' (160 + 8 * i' + n) 418) = (if sV S (160 + 8 * i + n) 423 = 0 then fOver S i n else sV S (160 + 8 * i + n) 418)
    rw [fOver_ex n (fun k hk => h k (by omega)), h n (by omega) 418 (by decide), h n (by omega) 423 (by decide)]
theorem fApart_ex {i : Nat} (h : fApart S i) (hc : sc S' (10 + i) = sc S (10 + i)) (hV : ∀ k, k < sc S (10 + i) → eqV S S' (160 + 8 * i + k)) : fApart S' i := by
  intro k hk
  rw [hc] at hk
  rw [hV k hk 423 (by decide), hV k hk 417 (by decide), hV k hk 418 (by decide), fOver_ex k (fun k' hk' => hV k' (by omega))]
  exact h k hk
/-- where no turn was played they lie apart -/
theorem fApart_un {i : Nat} (h : ∀ k, k < sc S (10 + i) → sV S (160 + 8 * i + k) 423 = 0) : fApart S i := fun k hk hp => absurd (h k hk) hp
end ZRL2
