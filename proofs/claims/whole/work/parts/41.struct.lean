/-! STRUCTURE: zRp role by role; things added, lists cleared -/
section ZSTRUCT
variable {Z : zPar} {Λ Λ' : Nat → Nat} {S S' : zSt} {M M' : zMem} {r s k i j a : Nat} {c c' : Nat → Nat}
def cset (c : Nat → Nat) (i v : Nat) : Nat → Nat := fun k => if k = i then v else c k
theorem cset_at {v : Nat} : cset c i v i = v := if_pos rfl
theorem cset_ne {v : Nat} (h : k ≠ i) : cset c i v k = c k := if_neg h
def zOne (Z : zPar) (Λ : Nat → Nat) (S : zSt) (M : zMem) (r : Nat) : Prop :=
  (mK M (Λ r) = zki r ∧ mG M (Λ r) = r) ∧ ((zle r ≠ 0 → mN M (Λ r) = zle r) ∧ ∀ k, zpt r k ≠ 0 → vR M (Λ r) k = some (Λ (zpt r k))) ∧
  (zki r = 14 → zL Z M (Λ r) (Λ (zrw r)) (zct (sc S) r) (fun i => Λ (zbs r + i)) ∧ zRwOk M (Λ (zrw r)) (zrw r)) ∧ (r = 1025 → ∀ i, i < 8 → aR M (Λ 1025) i = some (Λ (1030 + i))) ∧
  ((∀ k, k ≠ 128 → k ≠ 130 → vI M (Λ r) k = sV S r k) ∧ ∀ j, aI M (Λ r) j = sW S r j) ∧
  (∀ i k, i < sc S 0 → k < sc S (10 + i) → r = 160 + 8 * i + k → sT S i k < sc S 1 ∧ vR M (Λ (160 + 8 * i + k)) 416 = some (Λ (140 + sT S i k))) ∧ ∀ j, j < sc S 2 → r = 150 + j → sP S j < sc S 0 ∧ vR M (Λ (150 + j)) 448 = some (Λ (100 + sP S j))
def zInts (Λ : Nat → Nat) (S : zSt) (M : zMem) : Prop := (∀ i, i < sc S 1003 → zIok Λ (sV S) M (1200 + i)) ∧ ∀ i, i < sc S 1004 → zIok Λ (sV S) M (1220 + i)
theorem zRp.one (h : zRp Z Λ S M) (hl : zlv (sc S) r) : zOne Z Λ S M r := by
  obtain ⟨⟨b1, b2⟩, ⟨b3, b4⟩, b5, b6, ⟨b7, b8⟩, ⟨b9, b10⟩, b11⟩ := h
  refine ⟨b2 r hl, ⟨b3 r hl, fun k hk => b4 r k hl hk⟩, b5 r hl, fun e i hi => b6 i hi ?_, ⟨fun k => b7 r k hl, fun j => b8 r j hl⟩, fun i k hi hk _ => b9 i k hi hk, fun j hj _ => b10 j hj⟩
  subst e
  rcases hl with h | h
  · rcases h with ⟨-, h⟩ | ⟨i, hi, h⟩ | ⟨i, hi, h⟩ | ⟨i, hi, h⟩ | ⟨i, k, hi, hk, h⟩
    · omega
    · have := b1.1.1; omega
    · have := b1.1.2.1; omega
    · have := b1.1.2.2.1; omega
    · have := b1.1.1; have := b1.1.2.2.2 i; omega
  · rcases h with ⟨h, -⟩ | ⟨i, hi, h⟩ | ⟨i, hi, h⟩ | ⟨i, hi, h⟩ | ⟨i, k, hi, hk, h⟩
    · exact h
    · omega
    · omega
    · omega
    · omega
theorem zRp.ints (h : zRp Z Λ S M) : zInts Λ S M := h.2.2.2.2.2.2
theorem zRp.of (h1 : zBnd (sc S)) (h2 : ∀ r, zlv (sc S) r → zOne Z Λ S M r) (h3 : zInts Λ S M) : zRp Z Λ S M := by
  refine ⟨⟨h1, fun r hr => (h2 r hr).1⟩, ⟨fun r hr => (h2 r hr).2.1.1, fun r k hr => (h2 r hr).2.1.2 k⟩, fun r hr => (h2 r hr).2.2.1, fun i hi h4 => (h2 1025 (lvM h4 (by omega))).2.2.2.1 rfl i hi, ⟨fun r k hr => (h2 r hr).2.2.2.2.1.1 k, fun r j hr => (h2 r hr).2.2.2.2.1.2 j⟩, ⟨fun i k hi hk => ?_, fun j hj => ?_⟩, h3⟩
  · exact (h2 _ (lvK hi hk)).2.2.2.2.2.1 i k hi hk rfl
  · exact (h2 _ (lvV hj)).2.2.2.2.2.2 j hj rfl
def zlr (r : Nat) : Prop := r = 15 ∨ r = 17 ∨ r = 19 ∨ (120 ≤ r ∧ r < 130) ∨ r = 1015 ∨ r = 1017 ∨ r = 1019 ∨ r = 1021 ∨ r = 1023 ∨ (1120 ≤ r ∧ r < 1130)
theorem zlr_of (h : zki r = 14) : zlr r := by
  unfold zlr
  unfold zki at h
  rcases Nat.lt_or_ge r 100 with g | g
  · rw [if_pos g] at h
    have : ∀ r, r < 100 → ([0, 26, 22, 16, 20, 25, 19, 17, 18, 1, 1, 1, 1, 1, 1, 14, 3, 14, 3, 14, 3] : List Nat).getD r 0 = 14 → r = 15 ∨ r = 17 ∨ r = 19 := by decide
    have := this r g h
    omega
  rw [if_neg (by omega)] at h
  rcases Nat.lt_or_ge r 110 with g | g
  · rw [if_pos g] at h
    omega
  rw [if_neg (by omega)] at h
  rcases Nat.lt_or_ge r 120 with g | g
  · rw [if_pos g] at h
    omega
  rw [if_neg (by omega)] at h
  rcases Nat.lt_or_ge r 130 with g | g
  · rw [if_pos g] at h
    omega
  rw [if_neg (by omega)] at h
  rcases Nat.lt_or_ge r 140 with g | g
  · rw [if_pos g] at h
    omega
  rw [if_neg (by omega)] at h
  rcases Nat.lt_or_ge r 150 with g | g
  · rw [if_pos g] at h
    omega
  rw [if_neg (by omega)] at h
  rcases Nat.lt_or_ge r 160 with g | g
  · rw [if_pos g] at h
    omega
  rw [if_neg (by omega)] at h
  rcases Nat.lt_or_ge r 1000 with g | g
  · rw [if_pos g] at h
    omega
  rw [if_neg (by omega)] at h
  rcases Nat.lt_or_ge r 1030 with g | g
  · rw [if_pos g] at h
    have : ∀ r, r < 30 → ([0, 31, 0, 0, 0, 0, 0, 0, 0, 0, 0, 0, 0, 0, 0, 14, 3, 14, 3, 14, 3, 14, 3, 14, 3, 4] : List Nat).getD r 0 = 14 → r = 15 ∨ r = 17 ∨ r = 19 ∨ r = 21 ∨ r = 23 := by decide
    have := this (r - 1000) (by omega) h
    omega
  rw [if_neg (by omega)] at h
  rcases Nat.lt_or_ge r 1100 with g | g
  · rw [if_pos g] at h
    omega
  rw [if_neg (by omega)] at h
  rcases Nat.lt_or_ge r 1110 with g | g
  · rw [if_pos g] at h
    omega
  rw [if_neg (by omega)] at h
  rcases Nat.lt_or_ge r 1120 with g | g
  · rw [if_pos g] at h
    omega
  rw [if_neg (by omega)] at h
  rcases Nat.lt_or_ge r 1130 with g | g
  · rw [if_pos g] at h
    omega
  rw [if_neg (by omega)] at h
  rcases Nat.lt_or_ge r 1140 with g | g
  · rw [if_pos g] at h
    omega
  rw [if_neg (by omega)] at h
  rcases Nat.lt_or_ge r 1150 with g | g
  · rw [if_pos g] at h
    omega
  rw [if_neg (by omega)] at h
  rcases Nat.lt_or_ge r 1160 with g | g
  · rw [if_pos g] at h
    omega
  rw [if_neg (by omega)] at h
  omega
def zci (r : Nat) : Nat := if r = 15 then 0 else if r = 17 then 1 else if r = 19 then 2 else if r = 1015 then 1000 else if r = 1017 then 1001 else if r = 1019 then 1002 else if r = 1021 then 1003 else if r = 1023 then 1004 else r - 110
theorem zct_ci : zct c r = c (zci r) := by
  unfold zct zci
  simp only [apply_ite c]
def zri (k : Nat) : Nat := if k < 3 then 15 + 2 * k else if k < 1000 then k + 110 else if k < 1005 then 1015 + 2 * (k - 1000) else k + 110
theorem zri_ci (hr : zlr r) : zri (zci r) = r := by
  rcases hr with rfl | rfl | rfl | h | rfl | rfl | rfl | rfl | rfl | h
  · decide
  · decide
  · decide
  · rw [show zci r = r - 110 from by unfold zci; rw [if_neg (by omega), if_neg (by omega), if_neg (by omega), if_neg (by omega), if_neg (by omega), if_neg (by omega), if_neg (by omega), if_neg (by omega)]]
    unfold zri
    rw [if_neg (by omega), if_pos (by omega)]
    omega
  · decide
  · decide
  · decide
  · decide
  · decide
  · rw [show zci r = r - 110 from by unfold zci; rw [if_neg (by omega), if_neg (by omega), if_neg (by omega), if_neg (by omega), if_neg (by omega), if_neg (by omega), if_neg (by omega), if_neg (by omega)]]
    unfold zri
    rw [if_neg (by omega), if_neg (by omega), if_neg (by omega)]
    omega
theorem zci_inj (hr : zlr r) (hs : zlr s) (h : zci r = zci s) : r = s := by rw [← zri_ci hr, ← zri_ci hs, h]
theorem zrw_inj (hr : zlr r) (hs : zlr s) (h : zrw r = zrw s) : r = s := by
  have e : ∀ r, zlr r → (if zrw r < 100 ∨ (1000 ≤ zrw r ∧ zrw r < 1100) then zrw r - 1 else zrw r - 10) = r := by
    intro r hr
    unfold zlr at hr
    by_cases g : r < 100 ∨ (1000 ≤ r ∧ r < 1100)
    · rw [show zrw r = r + 1 from if_pos g, if_pos (by omega)]
      omega
    · rw [show zrw r = r + 10 from if_neg g, if_neg (by omega)]
      omega
  rw [← e r hr, ← e s hs, h]
/-- roles in use -/
def zus (c : Nat → Nat) (s : Nat) : Prop := zlv c s ∨ (∃ r, zlv c r ∧ zki r = 14 ∧ s = zrw r) ∨ (∃ i, i < c 1003 ∧ s = 1200 + i) ∨ ∃ i, i < c 1004 ∧ s = 1220 + i
end ZSTRUCT
